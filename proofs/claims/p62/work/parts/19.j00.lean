

abbrev rm_Jx29ce0_ordinal_8abf5 : Room := { frames := 2, cells := 0, slots := 0, locals := 120 }
set_option maxHeartbeats 4000000 in
set_option maxRecDepth 100000 in
theorem c_Jx29ce0_ordinal_8abf5 (l : Launch) (V : Nat → Nat) (g : GH) (D : va_G) (cT : Nat → ClassId) (f : GH) (n : Nat) (a0 : Nat) (o : Int32) (hq : p_Jx29ce0_ordinal_8abf5 V g f a0 = some o) : Met l yJx29ce0_ordinal_8abf5 (Cond.code yJx29ce0_ordinal_8abf5 cJx29ce0_ordinal_8abf5 1 (some .int) :: g_B) rm_Jx29ce0_ordinal_8abf5 (va_Pc [.ref a0] (g_I V g D cT f n)) (g_Ri o n) 0 0 g_no := by
  refine g_begin (own := RJx29ce0) [.ref a0] [(0, .ref a0)] g_no (fun _ h => h.elim) (by decide) rfl (Nat.le_of_ble_eq_true rfl) rfl ?_
  intro p e s m args below meth c hx hb hr hlocks hin hC hI ls hl
  obtain ⟨hx, hb, hml, hown, hB⟩ := id hC
  obtain ⟨H, hH⟩ : ∃ H, H = s.heap := ⟨_, rfl⟩
  obtain ⟨locs, hlocs⟩ : ∃ L : List Loc, L = [] := ⟨_, rfl⟩
  rw [← hH, ← hlocs] at hI ⊢
  clear hH hlocs
  unfold p_Jx29ce0_ordinal_8abf5 at hq
  replace hq := (h_me_eq hq).2
  refine lv_aload_n hx hb dJx29ce0_ordinal_8abf5_0 rfl (lv_at hl 0 rfl) ?_
  obtain ⟨v1, ev1, hq⟩ := b_s hq
  refine fs_gi (own := RJx29ce0) (ref := "java/lang/Enum") (ci := 50) (k := 0) hx hb hB hown hI m_1281 (fun _ h9 => h9) ev1 dJx29ce0_ordinal_8abf5_1 ?_
  exact ge_Ri hx hb hlocks hr rfl hI hq dJx29ce0_ordinal_8abf5_4


abbrev rm_J0_isLatin1_aae02 : Room := { frames := 2, cells := 0, slots := 0, locals := 120 }
theorem k_J0_isLatin1_aae02 : g_CV yJ0_isLatin1_aae02 cJ0_isLatin1_aae02 1 (some .boolean) 0 := ⟨⟨m_419, m_11, by decide +kernel⟩, m_417, m_418⟩
set_option maxHeartbeats 4000000 in
set_option maxRecDepth 100000 in
theorem c_J0_isLatin1_aae02 (l : Launch) (V : Nat → Nat) (g : GH) (D : va_G) (cT : Nat → ClassId) (f : GH) (n : Nat) (a0 : Nat) (o : Int32) (hq : p_J0_isLatin1_aae02 V g f a0 = some o) : Met l yJ0_isLatin1_aae02 (Cond.code yJ0_isLatin1_aae02 cJ0_isLatin1_aae02 1 (some .boolean) :: g_B) rm_J0_isLatin1_aae02 (va_Pc [.ref a0] (g_I V g D cT f n)) (g_Ri o n) 0 0 g_no := by
  refine g_begin (own := RJ0) [.ref a0] [(0, .ref a0)] g_no (fun _ h => h.elim) (by decide) rfl (Nat.le_of_ble_eq_true rfl) rfl ?_
  intro p e s m args below meth c hx hb hr hlocks hin hC hI ls hl
  obtain ⟨hx, hb, hml, hown, hB⟩ := id hC
  obtain ⟨H, hH⟩ : ∃ H, H = s.heap := ⟨_, rfl⟩
  obtain ⟨locs, hlocs⟩ : ∃ L : List Loc, L = [] := ⟨_, rfl⟩
  rw [← hH, ← hlocs] at hI ⊢
  clear hH hlocs
  unfold p_J0_isLatin1_aae02 at hq
  replace hq := (h_me_eq hq).2
  refine fs_gs (i := 18) hx hb hown hI rfl (hB _ m_411) (fun _ h9 => h9) dJ0_isLatin1_aae02_0 ?_
  refine lv_if_eq (tgt := 17) hx hb dJ0_isLatin1_aae02_3 (by decide) (fun c => absurd c (by decide)) (fun _ => ?_)
  refine lv_aload_n hx hb dJ0_isLatin1_aae02_6 rfl (lv_at hl 0 rfl) ?_
  obtain ⟨v1, ev1, hq⟩ := b_s hq
  refine fs_gi (own := RJ0) (ref := "java/lang/String") (ci := 51) (k := 1) hx hb hB hown hI m_1170 (fun _ h9 => h9) ev1 dJ0_isLatin1_aae02_7 ?_
  refine lv_if_ne (tgt := 17) hx hb dJ0_isLatin1_aae02_10 (by decide) (fun c2 => ?_) (fun c2 => ?_)
  · replace hq := i_f c2 hq
    refine lv_iconst (v := (0 : Int32)) hx hb dJ0_isLatin1_aae02_17 (by decide) ?_
    exact ge_Ri hx hb hlocks hr (by decide +kernel) hI hq dJ0_isLatin1_aae02_18
  · replace hq := i_t c2 hq
    refine lv_iconst (v := (1 : Int32)) hx hb dJ0_isLatin1_aae02_13 (by decide) ?_
    refine lv_goto (tgt := 18) hx hb dJ0_isLatin1_aae02_14 (by decide) ?_
    exact ge_Ri hx hb hlocks hr (by decide +kernel) hI hq dJ0_isLatin1_aae02_18

abbrev rm_J3_checkIndex_8e157 : Room := { frames := 2, cells := 0, slots := 0, locals := 120 }
theorem k_J3_checkIndex_8e157 : g_CS yJ3_checkIndex_8e157 cJ3_checkIndex_8e157 3 (some .int) 3 := ⟨⟨m_430, m_17, by decide +kernel⟩, m_429⟩
set_option maxHeartbeats 4000000 in
set_option maxRecDepth 100000 in
theorem c_J3_checkIndex_8e157 (l : Launch) (V : Nat → Nat) (g : GH) (D : va_G) (cT : Nat → ClassId) (f : GH) (n : Nat) (a0 : Int32) (a1 : Int32) (a2 : Option Nat) (o : Int32) (hq : p_J3_checkIndex_8e157 V g f a0 a1 a2 = some o) : Met l yJ3_checkIndex_8e157 (Cond.code yJ3_checkIndex_8e157 cJ3_checkIndex_8e157 3 (some .int) :: g_B) rm_J3_checkIndex_8e157 (va_Pc [.int a0, .int a1, va_rf a2] (g_I V g D cT f n)) (g_Ri o n) 0 0 g_no := by
  rcases a2 with _ | a2
  · refine g_begin (own := RJ3) [.int a0, .int a1, va_rf none] [(0, .int a0), (1, .int a1), (2, va_rf none)] g_no (fun _ h => h.elim) (by decide) rfl (Nat.le_of_ble_eq_true rfl) rfl ?_
    intro p e s m args below meth c hx hb hr hlocks hin hC hI ls hl
    obtain ⟨hx, hb, hml, hown, hB⟩ := id hC
    obtain ⟨H, hH⟩ : ∃ H, H = s.heap := ⟨_, rfl⟩
    obtain ⟨locs, hlocs⟩ : ∃ L : List Loc, L = [] := ⟨_, rfl⟩
    rw [← hH, ← hlocs] at hI ⊢
    clear hH hlocs
    unfold p_J3_checkIndex_8e157 at hq
    refine lv_iload_n hx hb dJ3_checkIndex_8e157_0 rfl (lv_at hl 0 rfl) ?_
    refine lv_if_lt (tgt := 9) hx hb dJ3_checkIndex_8e157_1 (by decide) (fun c1 => ?_) (fun c1 => ?_)
    · replace hq := i_t c1 hq
      cases hq
    · replace hq := i_f c1 hq
      refine lv_iload_n hx hb dJ3_checkIndex_8e157_4 rfl (lv_at hl 0 rfl) ?_
      refine lv_iload_n hx hb dJ3_checkIndex_8e157_5 rfl (lv_at hl 1 rfl) ?_
      refine lv_icmp_lt (tgt := 16) hx hb dJ3_checkIndex_8e157_6 (by decide) (fun c2 => ?_) (fun c2 => ?_)
      · replace hq := i_t c2 hq
        refine lv_iload_n hx hb dJ3_checkIndex_8e157_16 rfl (lv_at hl 0 rfl) ?_
        exact ge_Ri hx hb hlocks hr rfl hI hq dJ3_checkIndex_8e157_17
      · replace hq := i_f c2 hq
        cases hq
  · refine g_begin (own := RJ3) [.int a0, .int a1, va_rf (some a2)] [(0, .int a0), (1, .int a1), (2, va_rf (some a2))] g_no (fun _ h => h.elim) (by decide) rfl (Nat.le_of_ble_eq_true rfl) rfl ?_
    intro p e s m args below meth c hx hb hr hlocks hin hC hI ls hl
    obtain ⟨hx, hb, hml, hown, hB⟩ := id hC
    obtain ⟨H, hH⟩ : ∃ H, H = s.heap := ⟨_, rfl⟩
    obtain ⟨locs, hlocs⟩ : ∃ L : List Loc, L = [] := ⟨_, rfl⟩
    rw [← hH, ← hlocs] at hI ⊢
    clear hH hlocs
    unfold p_J3_checkIndex_8e157 at hq
    refine lv_iload_n hx hb dJ3_checkIndex_8e157_0 rfl (lv_at hl 0 rfl) ?_
    refine lv_if_lt (tgt := 9) hx hb dJ3_checkIndex_8e157_1 (by decide) (fun c1 => ?_) (fun c1 => ?_)
    · replace hq := i_t c1 hq
      cases hq
    · replace hq := i_f c1 hq
      refine lv_iload_n hx hb dJ3_checkIndex_8e157_4 rfl (lv_at hl 0 rfl) ?_
      refine lv_iload_n hx hb dJ3_checkIndex_8e157_5 rfl (lv_at hl 1 rfl) ?_
      refine lv_icmp_lt (tgt := 16) hx hb dJ3_checkIndex_8e157_6 (by decide) (fun c2 => ?_) (fun c2 => ?_)
      · replace hq := i_t c2 hq
        refine lv_iload_n hx hb dJ3_checkIndex_8e157_16 rfl (lv_at hl 0 rfl) ?_
        exact ge_Ri hx hb hlocks hr rfl hI hq dJ3_checkIndex_8e157_17
      · replace hq := i_f c2 hq
        cases hq

abbrev rm_J0_checkIndex_df160 : Room := { frames := 3, cells := 0, slots := 0, locals := 142 }
theorem k_J0_checkIndex_df160 : g_CS yJ0_checkIndex_df160 cJ0_checkIndex_df160 2 none 2 := ⟨⟨m_425, m_11, by decide +kernel⟩, m_424⟩
set_option maxHeartbeats 4000000 in
set_option maxRecDepth 100000 in
theorem c_J0_checkIndex_df160 (l : Launch) (V : Nat → Nat) (g : GH) (D : va_G) (cT : Nat → ClassId) (f : GH) (n : Nat) (a0 : Int32) (a1 : Int32) (o : Unit) (hq : p_J0_checkIndex_df160 V g f a0 a1 = some o) : Met l yJ0_checkIndex_df160 (Cond.code yJ0_checkIndex_df160 cJ0_checkIndex_df160 2 none :: g_B) rm_J0_checkIndex_df160 (va_Pc [.int a0, .int a1] (g_I V g D cT f n)) (g_Rv o n) 0 0 g_no := by
  refine g_begin (own := RJ0) [.int a0, .int a1] [(0, .int a0), (1, .int a1)] g_no (fun _ h => h.elim) (by decide) rfl (Nat.le_of_ble_eq_true rfl) rfl ?_
  intro p e s m args below meth c hx hb hr hlocks hin hC hI ls hl
  obtain ⟨hx, hb, hml, hown, hB⟩ := id hC
  obtain ⟨H, hH⟩ : ∃ H, H = s.heap := ⟨_, rfl⟩
  obtain ⟨locs, hlocs⟩ : ∃ L : List Loc, L = [] := ⟨_, rfl⟩
  rw [← hH, ← hlocs] at hI ⊢
  clear hH hlocs
  unfold p_J0_checkIndex_df160 at hq
  refine lv_iload_n hx hb dJ0_checkIndex_df160_0 rfl (lv_at hl 0 rfl) ?_
  refine lv_iload_n hx hb dJ0_checkIndex_df160_1 rfl (lv_at hl 1 rfl) ?_
  refine fs_gs (i := 19) hx hb hown hI rfl (hB _ m_426) (fun _ h9 => h9) dJ0_checkIndex_df160_2 ?_
  obtain ⟨v1, ev1, hq⟩ := b_s hq
  refine gr_i (g_runS (As := [.int a0, .int a1, va_rf (if V 19 = 0 then none else some (V 19 - 1))]) (rest := []) hC (c_J3_checkIndex_8e157 l V g D cT f n a0 a1 (if V 19 = 0 then none else some (V 19 - 1)) v1 ev1) k_J3_checkIndex_8e157 m_428 rfl rfl ⟨Nat.le_of_ble_eq_true rfl, Nat.le_of_ble_eq_true rfl⟩ hI rfl hl.1 rfl (Nat.le_of_ble_eq_true rfl) dJ0_checkIndex_df160_5 ⟨by decide, by decide⟩) hI (fun H locs hI => ?_)
  refine lv_pop hx hb dJ0_checkIndex_df160_8 rfl ?_
  exact ge_Rv hx hb hlocks hr hI dJ0_checkIndex_df160_9

abbrev rm_J1_charAt_3b067 : Room := { frames := 4, cells := 0, slots := 0, locals := 163 }
theorem k_J1_charAt_3b067 : g_CS yJ1_charAt_3b067 cJ1_charAt_3b067 2 (some .char) 2 := ⟨⟨m_422, m_18, by decide +kernel⟩, m_421⟩
set_option maxHeartbeats 4000000 in
set_option maxRecDepth 100000 in
theorem c_J1_charAt_3b067 (l : Launch) (V : Nat → Nat) (g : GH) (D : va_G) (cT : Nat → ClassId) (f : GH) (n : Nat) (a0 : Nat) (a1 : Int32) (o : Int32) (hq : p_J1_charAt_3b067 V g f a0 a1 = some o) : Met l yJ1_charAt_3b067 (Cond.code yJ1_charAt_3b067 cJ1_charAt_3b067 2 (some .char) :: g_B) rm_J1_charAt_3b067 (va_Pc [.ref a0, .int a1] (g_I V g D cT f n)) (g_Ri o n) 0 0 g_no := by
  refine g_begin (own := RJ1) [.ref a0, .int a1] [(0, .ref a0), (1, .int a1)] g_no (fun _ h => h.elim) (by decide) rfl (Nat.le_of_ble_eq_true rfl) rfl ?_
  intro p e s m args below meth c hx hb hr hlocks hin hC hI ls hl
  obtain ⟨hx, hb, hml, hown, hB⟩ := id hC
  obtain ⟨H, hH⟩ : ∃ H, H = s.heap := ⟨_, rfl⟩
  obtain ⟨locs, hlocs⟩ : ∃ L : List Loc, L = [] := ⟨_, rfl⟩
  rw [← hH, ← hlocs] at hI ⊢
  clear hH hlocs
  unfold p_J1_charAt_3b067 at hq
  refine lv_iload_n hx hb dJ1_charAt_3b067_0 rfl (lv_at hl 1 rfl) ?_
  refine lv_aload_n hx hb dJ1_charAt_3b067_1 rfl (lv_at hl 0 rfl) ?_
  obtain ⟨v1, ev1, hq⟩ := b_s hq
  refine fs_al hx hb hI (by decide) ev1 dJ1_charAt_3b067_2 ?_
  obtain ⟨v2, ev2, hq⟩ := b_s hq
  refine gr_v (g_runS (As := [.int a1, .int v1]) (rest := []) hC (c_J0_checkIndex_df160 l V g D cT f n a1 v1 v2 ev2) k_J0_checkIndex_df160 m_423 rfl rfl ⟨Nat.le_of_ble_eq_true rfl, Nat.le_of_ble_eq_true rfl⟩ hI rfl hl.1 rfl (Nat.le_of_ble_eq_true rfl) dJ1_charAt_3b067_3 ⟨by decide, by decide⟩) hI (fun H locs hI => ?_)
  refine lv_aload_n hx hb dJ1_charAt_3b067_6 rfl (lv_at hl 0 rfl) ?_
  refine lv_iload_n hx hb dJ1_charAt_3b067_7 rfl (lv_at hl 1 rfl) ?_
  obtain ⟨v3, ev3, hq⟩ := b_s hq
  refine fs_lb hx hb hI ev3 dJ1_charAt_3b067_8 ?_
  refine lv_sipush (v := (255 : Int32)) hx hb dJ1_charAt_3b067_9 (by decide) ?_
  refine lv_iand hx hb dJ1_charAt_3b067_12 ?_
  refine lv_i2c (v := ((v3 &&& (255 : Int32)).toUInt32 % 65536).toInt32) hx hb dJ1_charAt_3b067_13 rfl ?_
  obtain ⟨_, ev4, hq⟩ := b_s hq
  exact ge_Ri hx hb hlocks hr (h_cz_eq ev4).2.1 hI hq dJ1_charAt_3b067_14

abbrev rm_J0_charAt_5068e : Room := { frames := 5, cells := 0, slots := 0, locals := 184 }
theorem k_J0_charAt_5068e : g_CV yJ0_charAt_5068e cJ0_charAt_5068e 2 (some .char) 1 := ⟨⟨m_415, m_11, by decide +kernel⟩, m_413, m_414⟩
set_option maxHeartbeats 4000000 in
set_option maxRecDepth 100000 in
theorem c_J0_charAt_5068e (l : Launch) (V : Nat → Nat) (g : GH) (D : va_G) (cT : Nat → ClassId) (f : GH) (n : Nat) (a0 : Nat) (a1 : Int32) (o : Int32) (hq : p_J0_charAt_5068e V g f a0 a1 = some o) : Met l yJ0_charAt_5068e (Cond.code yJ0_charAt_5068e cJ0_charAt_5068e 2 (some .char) :: g_B) rm_J0_charAt_5068e (va_Pc [.ref a0, .int a1] (g_I V g D cT f n)) (g_Ri o n) 0 0 g_no := by
  refine g_begin (own := RJ0) [.ref a0, .int a1] [(0, .ref a0), (1, .int a1)] g_no (fun _ h => h.elim) (by decide) rfl (Nat.le_of_ble_eq_true rfl) rfl ?_
  intro p e s m args below meth c hx hb hr hlocks hin hC hI ls hl
  obtain ⟨hx, hb, hml, hown, hB⟩ := id hC
  obtain ⟨H, hH⟩ : ∃ H, H = s.heap := ⟨_, rfl⟩
  obtain ⟨locs, hlocs⟩ : ∃ L : List Loc, L = [] := ⟨_, rfl⟩
  rw [← hH, ← hlocs] at hI ⊢
  clear hH hlocs
  unfold p_J0_charAt_5068e at hq
  replace hq := (h_me_eq hq).2
  refine lv_aload_n hx hb dJ0_charAt_5068e_0 rfl (lv_at hl 0 rfl) ?_
  obtain ⟨v1, ev1, hq⟩ := b_s hq
  refine gr_i (g_runVs (As := []) (rest := []) (ci := 51) hC (c_J0_isLatin1_aae02 l V g D cT f n a0 v1 ev1) k_J0_isLatin1_aae02 m_416 rfl rfl ⟨Nat.le_of_ble_eq_true rfl, Nat.le_of_ble_eq_true rfl⟩ hI rfl (h_me_eq ev1).1 rfl hl.1 rfl (Nat.le_of_ble_eq_true rfl) dJ0_charAt_5068e_1 ⟨by decide, by decide⟩) hI (fun H locs hI => ?_)
  refine lv_if_eq (tgt := 16) hx hb dJ0_charAt_5068e_4 (by decide) (fun c2 => ?_) (fun c2 => ?_)
  · replace hq := i_t c2 hq
    cases hq
  · replace hq := i_f c2 hq
    refine lv_aload_n hx hb dJ0_charAt_5068e_7 rfl (lv_at hl 0 rfl) ?_
    obtain ⟨v3, ev3, hq⟩ := b_s hq
    refine fs_gr (own := RJ0) (ref := "java/lang/String") (ci := 51) (k := 0) hx hb hB hown hI m_1169 (fun _ h9 => h9) ev3 dJ0_charAt_5068e_8 ?_
    refine lv_iload_n hx hb dJ0_charAt_5068e_11 rfl (lv_at hl 1 rfl) ?_
    obtain ⟨v4, ev4, hq⟩ := b_s hq
    refine gr_i (g_runS (As := [.ref v3, .int a1]) (rest := []) hC (c_J1_charAt_3b067 l V g D cT f n v3 a1 v4 ev4) k_J1_charAt_3b067 m_420 rfl rfl ⟨Nat.le_of_ble_eq_true rfl, Nat.le_of_ble_eq_true rfl⟩ hI rfl hl.1 rfl (Nat.le_of_ble_eq_true rfl) dJ0_charAt_5068e_12 ⟨by decide, by decide⟩) hI (fun H locs hI => ?_)
    obtain ⟨_, ev5, hq⟩ := b_s hq
    exact ge_Ri hx hb hlocks hr (h_cz_eq ev5).2.1 hI hq dJ0_charAt_5068e_15

abbrev rm_J0_coder_7d493 : Room := { frames := 2, cells := 0, slots := 0, locals := 120 }
theorem k_J0_coder_7d493 : g_CV yJ0_coder_7d493 cJ0_coder_7d493 1 (some .byte) 0 := ⟨⟨m_410, m_11, by decide +kernel⟩, m_408, m_409⟩
set_option maxHeartbeats 4000000 in
set_option maxRecDepth 100000 in
theorem c_J0_coder_7d493 (l : Launch) (V : Nat → Nat) (g : GH) (D : va_G) (cT : Nat → ClassId) (f : GH) (n : Nat) (a0 : Nat) (o : Int32) (hq : p_J0_coder_7d493 V g f a0 = some o) : Met l yJ0_coder_7d493 (Cond.code yJ0_coder_7d493 cJ0_coder_7d493 1 (some .byte) :: g_B) rm_J0_coder_7d493 (va_Pc [.ref a0] (g_I V g D cT f n)) (g_Ri o n) 0 0 g_no := by
  refine g_begin (own := RJ0) [.ref a0] [(0, .ref a0)] g_no (fun _ h => h.elim) (by decide) rfl (Nat.le_of_ble_eq_true rfl) rfl ?_
  intro p e s m args below meth c hx hb hr hlocks hin hC hI ls hl
  obtain ⟨hx, hb, hml, hown, hB⟩ := id hC
  obtain ⟨H, hH⟩ : ∃ H, H = s.heap := ⟨_, rfl⟩
  obtain ⟨locs, hlocs⟩ : ∃ L : List Loc, L = [] := ⟨_, rfl⟩
  rw [← hH, ← hlocs] at hI ⊢
  clear hH hlocs
  unfold p_J0_coder_7d493 at hq
  replace hq := (h_me_eq hq).2
  refine fs_gs (i := 18) hx hb hown hI rfl (hB _ m_411) (fun _ h9 => h9) dJ0_coder_7d493_0 ?_
  refine lv_if_eq (tgt := 13) hx hb dJ0_coder_7d493_3 (by decide) (fun c => absurd c (by decide)) (fun _ => ?_)
  refine lv_aload_n hx hb dJ0_coder_7d493_6 rfl (lv_at hl 0 rfl) ?_
  obtain ⟨v1, ev1, hq⟩ := b_s hq
  refine fs_gi (own := RJ0) (ref := "java/lang/String") (ci := 51) (k := 1) hx hb hB hown hI m_1170 (fun _ h9 => h9) ev1 dJ0_coder_7d493_7 ?_
  refine lv_goto (tgt := 14) hx hb dJ0_coder_7d493_10 (by decide) ?_
  obtain ⟨_, ev2, hq⟩ := b_s hq
  exact ge_Ri hx hb hlocks hr (h_yz_eq ev2).2.1 hI hq dJ0_coder_7d493_14

abbrev rm_J0_length_8abf5 : Room := { frames := 3, cells := 0, slots := 0, locals := 140 }
theorem k_J0_length_8abf5 : g_CV yJ0_length_8abf5 cJ0_length_8abf5 1 (some .int) 0 := ⟨⟨m_406, m_11, by decide +kernel⟩, m_404, m_405⟩
set_option maxHeartbeats 4000000 in
set_option maxRecDepth 100000 in
theorem c_J0_length_8abf5 (l : Launch) (V : Nat → Nat) (g : GH) (D : va_G) (cT : Nat → ClassId) (f : GH) (n : Nat) (a0 : Nat) (o : Int32) (hq : p_J0_length_8abf5 V g f a0 = some o) : Met l yJ0_length_8abf5 (Cond.code yJ0_length_8abf5 cJ0_length_8abf5 1 (some .int) :: g_B) rm_J0_length_8abf5 (va_Pc [.ref a0] (g_I V g D cT f n)) (g_Ri o n) 0 0 g_no := by
  refine g_begin (own := RJ0) [.ref a0] [(0, .ref a0)] g_no (fun _ h => h.elim) (by decide) rfl (Nat.le_of_ble_eq_true rfl) rfl ?_
  intro p e s m args below meth c hx hb hr hlocks hin hC hI ls hl
  obtain ⟨hx, hb, hml, hown, hB⟩ := id hC
  obtain ⟨H, hH⟩ : ∃ H, H = s.heap := ⟨_, rfl⟩
  obtain ⟨locs, hlocs⟩ : ∃ L : List Loc, L = [] := ⟨_, rfl⟩
  rw [← hH, ← hlocs] at hI ⊢
  clear hH hlocs
  unfold p_J0_length_8abf5 at hq
  replace hq := (h_me_eq hq).2
  refine lv_aload_n hx hb dJ0_length_8abf5_0 rfl (lv_at hl 0 rfl) ?_
  obtain ⟨v1, ev1, hq⟩ := b_s hq
  refine fs_gr (own := RJ0) (ref := "java/lang/String") (ci := 51) (k := 0) hx hb hB hown hI m_1169 (fun _ h9 => h9) ev1 dJ0_length_8abf5_1 ?_
  obtain ⟨v2, ev2, hq⟩ := b_s hq
  refine fs_al hx hb hI (by decide) ev2 dJ0_length_8abf5_4 ?_
  refine lv_aload_n hx hb dJ0_length_8abf5_5 rfl (lv_at hl 0 rfl) ?_
  obtain ⟨v3, ev3, hq⟩ := b_s hq
  refine gr_i (g_runVs (As := []) (rest := [.int v2]) (ci := 51) hC (c_J0_coder_7d493 l V g D cT f n a0 v3 ev3) k_J0_coder_7d493 m_407 rfl rfl ⟨Nat.le_of_ble_eq_true rfl, Nat.le_of_ble_eq_true rfl⟩ hI rfl (h_me_eq ev3).1 rfl hl.1 rfl (Nat.le_of_ble_eq_true rfl) dJ0_length_8abf5_6 ⟨by decide, by decide⟩) hI (fun H locs hI => ?_)
  refine lv_ishr hx hb dJ0_length_8abf5_9 ?_
  exact ge_Ri hx hb hlocks hr rfl hI hq dJ0_length_8abf5_10

abbrev rm_J5_init_d00df : Room := { frames := 2, cells := 1, slots := 200, locals := 120 }
theorem k_J5_init_d00df : g_CI yJ5_init_d00df cJ5_init_d00df 2 1 := ⟨⟨m_204, m_9, by decide +kernel⟩, rfl, m_203⟩
set_option maxHeartbeats 4000000 in
set_option maxRecDepth 100000 in
theorem c_J5_init_d00df (l : Launch) (V : Nat → Nat) (g : GH) (D : va_G) (cT : Nat → ClassId) (f : GH) (n : Nat) (a0 : Nat) (a1 : Int32) (o : GH × Nat) (hq : p_J5_init_d00df V g f n a0 a1 = some o) : Met l yJ5_init_d00df (Cond.code yJ5_init_d00df cJ5_init_d00df 2 none :: g_B) rm_J5_init_d00df (va_Pc [.ref a0, .int a1] (g_I V g D cT f n)) (g_Wv V D cT o.1 o.2) 1 200 (g_A V) := by
  refine g_begin (own := RJ5) [.ref a0, .int a1] [(0, .ref a0), (1, .int a1)] (g_A V) (fun _ h => h) (by decide) rfl (Nat.le_of_ble_eq_true rfl) rfl ?_
  intro p e s m args below meth c hx hb hr hlocks hin hC hI ls hl
  obtain ⟨hx, hb, hml, hown, hB⟩ := id hC
  obtain ⟨H, hH⟩ : ∃ H, H = s.heap := ⟨_, rfl⟩
  obtain ⟨locs, hlocs⟩ : ∃ L : List Loc, L = [] := ⟨_, rfl⟩
  rw [← hH, ← hlocs] at hI ⊢
  clear hH hlocs
  unfold p_J5_init_d00df at hq
  replace hq := (h_me_eq hq).2
  refine lv_aload_n hx hb dJ5_init_d00df_0 rfl (lv_at hl 0 rfl) ?_
  refine W.objInit hx hb hown (hB _ m_205) (hB _ m_33) (hB _ m_34) rfl (by rw [hml]; exact hl.1) rfl dJ5_init_d00df_1 (Nat.le_of_ble_eq_true rfl) (Nat.le_of_ble_eq_true rfl) ?_
  refine W.eq (g2 := F0 m 4 ls []) rfl ?_
  refine fs_gs (i := 18) hx hb hown hI rfl (hB _ m_206) (fun _ h9 => h9) dJ5_init_d00df_4 ?_
  refine lv_if_eq (tgt := 25) hx hb dJ5_init_d00df_7 (by decide) (fun c => absurd c (by decide)) (fun _ => ?_)
  refine lv_aload_n hx hb dJ5_init_d00df_10 rfl (lv_at hl 0 rfl) ?_
  refine lv_iload_n hx hb dJ5_init_d00df_11 rfl (lv_at hl 1 rfl) ?_
  obtain ⟨f1, ef1, hq⟩ := b_s hq
  refine fa_newv (atype := .byte) (M := 200) (t := 1) hx hb hB m_129 rfl (by decide) (by decide) hI (by decide) (by decide) (by decide) ef1 dJ5_init_d00df_12 (fun H locs hI => ?_)
  obtain ⟨f2, ef2, hq⟩ := b_s hq
  refine fa_pt (own := RJ5) (ref := "java/lang/AbstractStringBuilder") (k := 0) hx hb hB inB_RJ4 tyJ4_ok nmJ4 hown hI rfl (by decide) m_215 (fun _ h9 => h9) (by decide) rfl rfl ef2 dJ5_init_d00df_14 (fun H locs hI => ?_)
  refine lv_aload_n hx hb dJ5_init_d00df_17 rfl (lv_at hl 0 rfl) ?_
  refine lv_iconst (v := (0 : Int32)) hx hb dJ5_init_d00df_18 (by decide) ?_
  obtain ⟨f3, ef3, hq⟩ := b_s hq
  refine fa_pt (own := RJ5) (ref := "java/lang/AbstractStringBuilder") (k := 1) hx hb hB inB_RJ4 tyJ4_ok nmJ4 hown hI rfl (by decide) m_216 (fun _ h9 => h9) (by decide) (by decide +kernel) (by decide +kernel) ef3 dJ5_init_d00df_19 (fun H locs hI => ?_)
  refine lv_goto (tgt := 38) hx hb dJ5_init_d00df_22 (by decide) ?_
  obtain rfl := Option.some.inj hq
  exact ge_Wv hx hb hlocks hr hI rfl dJ5_init_d00df_38

abbrev rm_J4_init_da8c8 : Room := { frames := 3, cells := 1, slots := 200, locals := 141 }
theorem k_J4_init_da8c8 : g_CI yJ4_init_da8c8 cJ4_init_da8c8 1 0 := ⟨⟨m_201, m_10, by decide +kernel⟩, rfl, m_200⟩
set_option maxHeartbeats 4000000 in
set_option maxRecDepth 100000 in
theorem c_J4_init_da8c8 (l : Launch) (V : Nat → Nat) (g : GH) (D : va_G) (cT : Nat → ClassId) (f : GH) (n : Nat) (a0 : Nat) (o : GH × Nat) (hq : p_J4_init_da8c8 V g f n a0 = some o) : Met l yJ4_init_da8c8 (Cond.code yJ4_init_da8c8 cJ4_init_da8c8 1 none :: g_B) rm_J4_init_da8c8 (va_Pc [.ref a0] (g_I V g D cT f n)) (g_Wv V D cT o.1 o.2) 1 200 (g_A V) := by
  refine g_begin (own := RJ4) [.ref a0] [(0, .ref a0)] (g_A V) (fun _ h => h) (by decide) rfl (Nat.le_of_ble_eq_true rfl) rfl ?_
  intro p e s m args below meth c hx hb hr hlocks hin hC hI ls hl
  obtain ⟨hx, hb, hml, hown, hB⟩ := id hC
  obtain ⟨H, hH⟩ : ∃ H, H = s.heap := ⟨_, rfl⟩
  obtain ⟨locs, hlocs⟩ : ∃ L : List Loc, L = [] := ⟨_, rfl⟩
  rw [← hH, ← hlocs] at hI ⊢
  clear hH hlocs
  unfold p_J4_init_da8c8 at hq
  replace hq := (h_me_eq hq).2
  refine lv_aload_n hx hb dJ4_init_da8c8_0 rfl (lv_at hl 0 rfl) ?_
  refine lv_bipush (v := (16 : Int32)) hx hb dJ4_init_da8c8_1 (by decide) ?_
  obtain ⟨v1, ev1, hq⟩ := b_s hq
  refine gw_v (g_runI (As := [.int (16 : Int32)]) (rest := []) hC (c_J5_init_d00df l V g D cT f n a0 (16 : Int32) v1 ev1) k_J5_init_d00df m_202 rfl rfl ⟨Nat.le_of_ble_eq_true rfl, Nat.le_of_ble_eq_true rfl⟩ hI rfl hl.1 rfl (Nat.le_of_ble_eq_true rfl) dJ4_init_da8c8_3 ⟨by decide, by decide⟩) hI (fun H locs hI => ?_)
  obtain rfl := Option.some.inj hq
  exact ge_Wv hx hb hlocks hr hI rfl dJ4_init_da8c8_6

abbrev rm_J8_newLength_cabcc : Room := { frames := 3, cells := 0, slots := 0, locals := 141 }
theorem k_J8_newLength_cabcc : g_CS yJ8_newLength_cabcc cJ8_newLength_cabcc 4 (some .int) 3 := ⟨⟨m_1021, m_14, by decide +kernel⟩, m_1020⟩
set_option maxHeartbeats 4000000 in
set_option maxRecDepth 100000 in
theorem c_J8_newLength_cabcc (l : Launch) (V : Nat → Nat) (g : GH) (D : va_G) (cT : Nat → ClassId) (f : GH) (n : Nat) (a0 : Int32) (a1 : Int32) (a2 : Int32) (o : Int32) (hq : p_J8_newLength_cabcc V g f a0 a1 a2 = some o) : Met l yJ8_newLength_cabcc (Cond.code yJ8_newLength_cabcc cJ8_newLength_cabcc 4 (some .int) :: g_B) rm_J8_newLength_cabcc (va_Pc [.int a0, .int a1, .int a2] (g_I V g D cT f n)) (g_Ri o n) 0 0 g_no := by
  refine g_begin (own := RJ8) [.int a0, .int a1, .int a2] [(0, .int a0), (1, .int a1), (2, .int a2)] g_no (fun _ h => h.elim) (by decide) rfl (Nat.le_of_ble_eq_true rfl) rfl ?_
  intro p e s m args below meth c hx hb hr hlocks hin hC hI ls hl
  obtain ⟨hx, hb, hml, hown, hB⟩ := id hC
  obtain ⟨H, hH⟩ : ∃ H, H = s.heap := ⟨_, rfl⟩
  obtain ⟨locs, hlocs⟩ : ∃ L : List Loc, L = [] := ⟨_, rfl⟩
  rw [← hH, ← hlocs] at hI ⊢
  clear hH hlocs
  unfold p_J8_newLength_cabcc at hq
  refine lv_iload_n hx hb dJ8_newLength_cabcc_0 rfl (lv_at hl 0 rfl) ?_
  refine lv_iload_n hx hb dJ8_newLength_cabcc_1 rfl (lv_at hl 1 rfl) ?_
  refine lv_iload_n hx hb dJ8_newLength_cabcc_2 rfl (lv_at hl 2 rfl) ?_
  obtain ⟨v1, ev1, hq⟩ := b_s hq
  refine g_max hx hb (hml.trans hl.1.symm) hown (hB _ m_1022) (hB _ m_672) (hB _ m_15) (hB _ m_673) (Nat.le_of_ble_eq_true rfl) (Nat.le_of_ble_eq_true rfl) (Nat.le_of_ble_eq_true rfl) (Nat.le_of_ble_eq_true rfl) ev1 dJ8_newLength_cabcc_3 ?_
  refine lv_iadd hx hb dJ8_newLength_cabcc_6 ?_
  refine lv_istore_n (lv' := [(3, .int (a0 + v1)), (0, .int a0), (1, .int a1), (2, .int a2)]) hx hb dJ8_newLength_cabcc_7 rfl hl (by decide) rfl (fun ls hl => ?_)
  refine lv_iconst (v := (0 : Int32)) hx hb dJ8_newLength_cabcc_8 (by decide) ?_
  refine lv_iload_n hx hb dJ8_newLength_cabcc_9 rfl (lv_at hl 0 rfl) ?_
  refine lv_icmp_ge (tgt := 21) hx hb dJ8_newLength_cabcc_10 (by decide) (fun c2 => ?_) (fun c2 => ?_)
  · replace hq := i_t c2 hq
    cases hq
  · replace hq := i_f c2 hq
    refine lv_iload_n hx hb dJ8_newLength_cabcc_13 rfl (lv_at hl 0 rfl) ?_
    refine lv_ldc (own := RJ8) (index := 200) (v := (2147483639 : Int32)) hx hb hown (hB _ m_1023) dJ8_newLength_cabcc_14 ?_
    refine lv_icmp_gt (tgt := 21) hx hb dJ8_newLength_cabcc_16 (by decide) (fun c3 => ?_) (fun c3 => ?_)
    · replace hq := i_t c3 hq
      cases hq
    · replace hq := i_f c3 hq
      refine lv_iload_n hx hb dJ8_newLength_cabcc_19 rfl (lv_at hl 0 rfl) ?_
      exact ge_Ri hx hb hlocks hr rfl hI hq dJ8_newLength_cabcc_20

abbrev rm_J5_newCapacity_0f7a4 : Room := { frames := 4, cells := 0, slots := 0, locals := 164 }
set_option maxHeartbeats 4000000 in
set_option maxRecDepth 100000 in
theorem c_J5_newCapacity_0f7a4 (l : Launch) (V : Nat → Nat) (g : GH) (D : va_G) (cT : Nat → ClassId) (f : GH) (n : Nat) (a0 : Nat) (a1 : Int32) (o : Int32) (hq : p_J5_newCapacity_0f7a4 V g f a0 a1 = some o) : Met l yJ5_newCapacity_0f7a4 (Cond.code yJ5_newCapacity_0f7a4 cJ5_newCapacity_0f7a4 6 (some .int) :: g_B) rm_J5_newCapacity_0f7a4 (va_Pc [.ref a0, .int a1] (g_I V g D cT f n)) (g_Ri o n) 0 0 g_no := by
  refine g_begin (own := RJ5) [.ref a0, .int a1] [(0, .ref a0), (1, .int a1)] g_no (fun _ h => h.elim) (by decide) rfl (Nat.le_of_ble_eq_true rfl) rfl ?_
  intro p e s m args below meth c hx hb hr hlocks hin hC hI ls hl
  obtain ⟨hx, hb, hml, hown, hB⟩ := id hC
  obtain ⟨H, hH⟩ : ∃ H, H = s.heap := ⟨_, rfl⟩
  obtain ⟨locs, hlocs⟩ : ∃ L : List Loc, L = [] := ⟨_, rfl⟩
  rw [← hH, ← hlocs] at hI ⊢
  clear hH hlocs
  unfold p_J5_newCapacity_0f7a4 at hq
  replace hq := (h_me_eq hq).2
  refine lv_aload_n hx hb dJ5_newCapacity_0f7a4_0 rfl (lv_at hl 0 rfl) ?_
  obtain ⟨v1, ev1, hq⟩ := b_s hq
  refine fa_gr (own := RJ5) (ref := "java/lang/AbstractStringBuilder") (k := 0) hx hb hB inB_RJ4 hown hI rfl (by decide) m_215 (fun _ h9 => h9) ev1 dJ5_newCapacity_0f7a4_1 ?_
  obtain ⟨v2, ev2, hq⟩ := b_s hq
  refine fa_al hx hb hI (by decide) ev2 dJ5_newCapacity_0f7a4_4 ?_
  refine lv_istore_n (lv' := [(2, .int v2), (0, .ref a0), (1, .int a1)]) hx hb dJ5_newCapacity_0f7a4_5 rfl hl (by decide) rfl (fun ls hl => ?_)
  refine lv_iload_n hx hb dJ5_newCapacity_0f7a4_6 rfl (lv_at hl 2 rfl) ?_
  refine lv_aload_n hx hb dJ5_newCapacity_0f7a4_7 rfl (lv_at hl 1 rfl) ?_
  obtain ⟨v3, ev3, hq⟩ := b_s hq
  refine fa_gi (own := RJ5) (ref := "java/lang/AbstractStringBuilder") (k := 1) hx hb hB inB_RJ4 hown hI rfl (by decide) m_216 (fun _ h9 => h9) ev3 dJ5_newCapacity_0f7a4_8 ?_
  refine lv_ishl hx hb dJ5_newCapacity_0f7a4_11 ?_
  refine lv_istore_n (lv' := [(3, .int (a1 <<< (v3 &&& 31))), (2, .int v2), (0, .ref a0), (1, .int a1)]) hx hb dJ5_newCapacity_0f7a4_12 rfl hl (by decide) rfl (fun ls hl => ?_)
  refine lv_iload_n hx hb dJ5_newCapacity_0f7a4_13 rfl (lv_at hl 0 rfl) ?_
  refine lv_iload_n hx hb dJ5_newCapacity_0f7a4_14 rfl (lv_at hl 1 rfl) ?_
  refine lv_isub hx hb dJ5_newCapacity_0f7a4_15 ?_
  refine lv_istore (lv' := [(4, .int ((a1 <<< (v3 &&& 31)) - v2)), (3, .int (a1 <<< (v3 &&& 31))), (2, .int v2), (0, .ref a0), (1, .int a1)]) hx hb dJ5_newCapacity_0f7a4_16 hl (by decide) rfl (fun ls hl => ?_)
  refine lv_iload_n hx hb dJ5_newCapacity_0f7a4_18 rfl (lv_at hl 2 rfl) ?_
  refine lv_iload hx hb dJ5_newCapacity_0f7a4_19 (lv_at hl 0 rfl) ?_
  refine lv_iload_n hx hb dJ5_newCapacity_0f7a4_21 rfl (lv_at hl 2 rfl) ?_
  refine lv_iconst (v := (2 : Int32)) hx hb dJ5_newCapacity_0f7a4_22 (by decide) ?_
  refine lv_aload_n hx hb dJ5_newCapacity_0f7a4_23 rfl (lv_at hl 3 rfl) ?_
  obtain ⟨v4, ev4, hq⟩ := b_s hq
  refine fa_gi (own := RJ5) (ref := "java/lang/AbstractStringBuilder") (k := 1) hx hb hB inB_RJ4 hown hI rfl (by decide) m_216 (fun _ h9 => h9) ev4 dJ5_newCapacity_0f7a4_24 ?_
  refine lv_ishl hx hb dJ5_newCapacity_0f7a4_27 ?_
  refine lv_iadd hx hb dJ5_newCapacity_0f7a4_28 ?_
  obtain ⟨v5, ev5, hq⟩ := b_s hq
  refine gr_i (g_runS (As := [.int v2, .int ((a1 <<< (v3 &&& 31)) - v2), .int (v2 + ((2 : Int32) <<< (v4 &&& 31)))]) (rest := []) hC (c_J8_newLength_cabcc l V g D cT f n v2 ((a1 <<< (v3 &&& 31)) - v2) (v2 + ((2 : Int32) <<< (v4 &&& 31))) v5 ev5) k_J8_newLength_cabcc m_1019 rfl rfl ⟨Nat.le_of_ble_eq_true rfl, Nat.le_of_ble_eq_true rfl⟩ hI rfl hl.1 rfl (Nat.le_of_ble_eq_true rfl) dJ5_newCapacity_0f7a4_29 ⟨by decide, by decide⟩) hI (fun H locs hI => ?_)
  refine lv_istore (lv' := [(5, .int v5), (4, .int ((a1 <<< (v3 &&& 31)) - v2)), (3, .int (a1 <<< (v3 &&& 31))), (2, .int v2), (0, .ref a0), (1, .int a1)]) hx hb dJ5_newCapacity_0f7a4_32 hl (by decide) rfl (fun ls hl => ?_)
  refine lv_iload hx hb dJ5_newCapacity_0f7a4_34 (lv_at hl 0 rfl) ?_
  refine lv_ldc (own := RJ5) (index := 39) (v := (2147483647 : Int32)) hx hb hown (hB _ m_1027) dJ5_newCapacity_0f7a4_36 ?_
  refine lv_icmp_ne (tgt := 51) hx hb dJ5_newCapacity_0f7a4_38 (by decide) (fun c6 => ?_) (fun c6 => ?_)
  · replace hq := i_f c6 hq
    refine lv_iload hx hb dJ5_newCapacity_0f7a4_51 (lv_at hl 0 rfl) ?_
    refine lv_aload_n hx hb dJ5_newCapacity_0f7a4_53 rfl (lv_at hl 4 rfl) ?_
    obtain ⟨v7, ev7, hq⟩ := b_s hq
    refine fa_gi (own := RJ5) (ref := "java/lang/AbstractStringBuilder") (k := 1) hx hb hB inB_RJ4 hown hI rfl (by decide) m_216 (fun _ h9 => h9) ev7 dJ5_newCapacity_0f7a4_54 ?_
    refine lv_ishr hx hb dJ5_newCapacity_0f7a4_57 ?_
    exact ge_Ri hx hb hlocks hr rfl hI hq dJ5_newCapacity_0f7a4_58
  · replace hq := i_t c6 hq
    cases hq

abbrev rm_J7_copyOf_9075b : Room := { frames := 3, cells := 1, slots := 600, locals := 141 }
theorem k_J7_copyOf_9075b : g_CS yJ7_copyOf_9075b cJ7_copyOf_9075b 3 (some (.array .byte)) 2 := ⟨⟨m_1030, m_16, by decide +kernel⟩, m_1029⟩
set_option maxHeartbeats 4000000 in
set_option maxRecDepth 100000 in
theorem c_J7_copyOf_9075b (l : Launch) (V : Nat → Nat) (g : GH) (D : va_G) (cT : Nat → ClassId) (f : GH) (n : Nat) (a0 : Nat) (a1 : Int32) (o : Nat × GH × Nat) (hq : p_J7_copyOf_9075b V g f n a0 a1 = some o) : Met l yJ7_copyOf_9075b (Cond.code yJ7_copyOf_9075b cJ7_copyOf_9075b 3 (some (.array .byte)) :: g_B) rm_J7_copyOf_9075b (va_Pc [.ref a0, .int a1] (g_I V g D cT f n)) (g_Wr V D cT o.1 o.2.1 o.2.2) 1 600 (g_A V) := by
  refine g_begin (own := RJ7) [.ref a0, .int a1] [(0, .ref a0), (1, .int a1)] (g_A V) (fun _ h => h) (by decide) rfl (Nat.le_of_ble_eq_true rfl) rfl ?_
  intro p e s m args below meth c hx hb hr hlocks hin hC hI ls hl
  obtain ⟨hx, hb, hml, hown, hB⟩ := id hC
  obtain ⟨H, hH⟩ : ∃ H, H = s.heap := ⟨_, rfl⟩
  obtain ⟨locs, hlocs⟩ : ∃ L : List Loc, L = [] := ⟨_, rfl⟩
  rw [← hH, ← hlocs] at hI ⊢
  clear hH hlocs
  unfold p_J7_copyOf_9075b at hq
  refine lv_iload_n hx hb dJ7_copyOf_9075b_0 rfl (lv_at hl 1 rfl) ?_
  refine lv_aload_n hx hb dJ7_copyOf_9075b_1 rfl (lv_at hl 0 rfl) ?_
  obtain ⟨v1, ev1, hq⟩ := b_s hq
  refine fa_al hx hb hI (by decide) ev1 dJ7_copyOf_9075b_2 ?_
  refine lv_icmp_ne (tgt := 14) hx hb dJ7_copyOf_9075b_3 (by decide) (fun c2 => ?_) (fun c2 => ?_)
  · replace hq := i_f c2 hq
    refine lv_iload_n hx hb dJ7_copyOf_9075b_14 rfl (lv_at hl 1 rfl) ?_
    obtain ⟨f3, ef3, hq⟩ := b_s hq
    refine fa_newv (atype := .byte) (M := 600) (t := 1) hx hb hB m_129 rfl (by decide) (by decide) hI (by decide) (by decide) (by decide) ef3 dJ7_copyOf_9075b_15 (fun H locs hI => ?_)
    refine lv_astore_n (lv' := [(2, .ref n), (0, .ref a0), (1, .int a1)]) hx hb dJ7_copyOf_9075b_17 rfl hl (by decide) rfl (fun ls hl => ?_)
    refine lv_aload_n hx hb dJ7_copyOf_9075b_18 rfl (lv_at hl 1 rfl) ?_
    refine lv_iconst (v := (0 : Int32)) hx hb dJ7_copyOf_9075b_19 (by decide) ?_
    refine lv_aload_n hx hb dJ7_copyOf_9075b_20 rfl (lv_at hl 0 rfl) ?_
    refine lv_iconst (v := (0 : Int32)) hx hb dJ7_copyOf_9075b_21 (by decide) ?_
    refine lv_aload_n hx hb dJ7_copyOf_9075b_22 rfl (lv_at hl 1 rfl) ?_
    obtain ⟨v4, ev4, hq⟩ := b_s hq
    refine fa_al hx hb hI (by decide) ev4 dJ7_copyOf_9075b_23 ?_
    refine lv_iload_n hx hb dJ7_copyOf_9075b_24 rfl (lv_at hl 2 rfl) ?_
    obtain ⟨v5, ev5, hq⟩ := b_s hq
    refine g_min hx hb (hml.trans hl.1.symm) hown (hB _ m_1038) (hB _ m_767) (hB _ m_15) (hB _ m_768) (Nat.le_of_ble_eq_true rfl) (Nat.le_of_ble_eq_true rfl) (Nat.le_of_ble_eq_true rfl) (Nat.le_of_ble_eq_true rfl) ev5 dJ7_copyOf_9075b_25 ?_
    obtain ⟨f6, ef6, hq⟩ := b_s hq
    refine fa_cpb (own := RJ7) hx hb (hml.trans hl.1.symm) hB hown m_1039 m_240 m_239 m_13 hI ef6 (by decide) (by decide) dJ7_copyOf_9075b_28 (fun H locs hI => ?_)
    refine lv_aload_n hx hb dJ7_copyOf_9075b_31 rfl (lv_at hl 0 rfl) ?_
    obtain rfl := Option.some.inj hq
    exact ge_Wr hx hb hlocks hr (Or.inr ⟨_, rfl⟩) hI rfl rfl dJ7_copyOf_9075b_32
  · replace hq := i_t c2 hq
    cases hq

abbrev rm_J5_ensureCapacityInternal_d00df : Room := { frames := 5, cells := 1, slots := 600, locals := 189 }
set_option maxHeartbeats 4000000 in
set_option maxRecDepth 100000 in
theorem c_J5_ensureCapacityInternal_d00df (l : Launch) (V : Nat → Nat) (g : GH) (D : va_G) (cT : Nat → ClassId) (f : GH) (n : Nat) (a0 : Nat) (a1 : Int32) (o : GH × Nat) (hq : p_J5_ensureCapacityInternal_d00df V g f n a0 a1 = some o) : Met l yJ5_ensureCapacityInternal_d00df (Cond.code yJ5_ensureCapacityInternal_d00df cJ5_ensureCapacityInternal_d00df 3 none :: g_B) rm_J5_ensureCapacityInternal_d00df (va_Pc [.ref a0, .int a1] (g_I V g D cT f n)) (g_Wv V D cT o.1 o.2) 1 600 (g_A V) := by
  refine g_begin (own := RJ5) [.ref a0, .int a1] [(0, .ref a0), (1, .int a1)] (g_A V) (fun _ h => h) (by decide) rfl (Nat.le_of_ble_eq_true rfl) rfl ?_
  intro p e s m args below meth c hx hb hr hlocks hin hC hI ls hl
  obtain ⟨hx, hb, hml, hown, hB⟩ := id hC
  obtain ⟨H, hH⟩ : ∃ H, H = s.heap := ⟨_, rfl⟩
  obtain ⟨locs, hlocs⟩ : ∃ L : List Loc, L = [] := ⟨_, rfl⟩
  rw [← hH, ← hlocs] at hI ⊢
  clear hH hlocs
  unfold p_J5_ensureCapacityInternal_d00df at hq
  replace hq := (h_me_eq hq).2
  refine lv_aload_n hx hb dJ5_ensureCapacityInternal_d00df_0 rfl (lv_at hl 0 rfl) ?_
  obtain ⟨v1, ev1, hq⟩ := b_s hq
  refine fa_gr (own := RJ5) (ref := "java/lang/AbstractStringBuilder") (k := 0) hx hb hB inB_RJ4 hown hI rfl (by decide) m_215 (fun _ h9 => h9) ev1 dJ5_ensureCapacityInternal_d00df_1 ?_
  obtain ⟨v2, ev2, hq⟩ := b_s hq
  refine fa_al hx hb hI (by decide) ev2 dJ5_ensureCapacityInternal_d00df_4 ?_
  refine lv_aload_n hx hb dJ5_ensureCapacityInternal_d00df_5 rfl (lv_at hl 0 rfl) ?_
  obtain ⟨v3, ev3, hq⟩ := b_s hq
  refine fa_gi (own := RJ5) (ref := "java/lang/AbstractStringBuilder") (k := 1) hx hb hB inB_RJ4 hown hI rfl (by decide) m_216 (fun _ h9 => h9) ev3 dJ5_ensureCapacityInternal_d00df_6 ?_
  refine lv_ishr hx hb dJ5_ensureCapacityInternal_d00df_9 ?_
  refine lv_istore_n (lv' := [(2, .int (v2 >>> (v3 &&& 31))), (0, .ref a0), (1, .int a1)]) hx hb dJ5_ensureCapacityInternal_d00df_10 rfl hl (by decide) rfl (fun ls hl => ?_)
  refine lv_iload_n hx hb dJ5_ensureCapacityInternal_d00df_11 rfl (lv_at hl 2 rfl) ?_
  refine lv_iload_n hx hb dJ5_ensureCapacityInternal_d00df_12 rfl (lv_at hl 0 rfl) ?_
  refine lv_isub hx hb dJ5_ensureCapacityInternal_d00df_13 ?_
  refine lv_if_le (tgt := 38) hx hb dJ5_ensureCapacityInternal_d00df_14 (by decide) (fun c4 => ?_) (fun c4 => ?_)
  · replace hq := i_t c4 hq
    refine W.widen (k := 1) (n := 600) (by decide) (by decide) ?_
    obtain rfl := Option.some.inj hq
    exact ge_Wv hx hb hlocks hr hI rfl dJ5_ensureCapacityInternal_d00df_38
  · replace hq := i_f c4 hq
    refine lv_aload_n hx hb dJ5_ensureCapacityInternal_d00df_17 rfl (lv_at hl 1 rfl) ?_
    refine lv_aload_n hx hb dJ5_ensureCapacityInternal_d00df_18 rfl (lv_at hl 1 rfl) ?_
    obtain ⟨v5, ev5, hq⟩ := b_s hq
    refine fa_gr (own := RJ5) (ref := "java/lang/AbstractStringBuilder") (k := 0) hx hb hB inB_RJ4 hown hI rfl (by decide) m_215 (fun _ h9 => h9) ev5 dJ5_ensureCapacityInternal_d00df_19 ?_
    refine lv_aload_n hx hb dJ5_ensureCapacityInternal_d00df_22 rfl (lv_at hl 1 rfl) ?_
    refine lv_iload_n hx hb dJ5_ensureCapacityInternal_d00df_23 rfl (lv_at hl 2 rfl) ?_
    obtain ⟨v6, ev6, hq⟩ := b_s hq
    refine gr_i (g_runU (As := [.int a1]) (rest := [.ref v5, .ref a0]) (ci := 1) hC (c_J5_newCapacity_0f7a4 l V g D cT f n a0 a1 v6 ev6) (⟨⟨m_1018, m_9⟩, m_1017, m_1269, mx_1, rfl, by decide, by decide, by decide +kernel⟩ : g_CU "java/lang/StringBuilder" "java/lang/AbstractStringBuilder" (⟨"java/lang/AbstractStringBuilder", "newCapacity", "(I)I"⟩ : MethodName) yJ5_newCapacity_0f7a4 cJ5_newCapacity_0f7a4 6 (some .int) 1) m_1015 rfl rfl ⟨Nat.le_of_ble_eq_true rfl, Nat.le_of_ble_eq_true rfl⟩ hI rfl rfl (h_me_eq ev6).1 rfl hl.1 rfl (Nat.le_of_ble_eq_true rfl) dJ5_ensureCapacityInternal_d00df_24 ⟨by decide, by decide⟩) hI (fun H locs hI => ?_)
    refine lv_aload_n hx hb dJ5_ensureCapacityInternal_d00df_27 rfl (lv_at hl 1 rfl) ?_
    obtain ⟨v7, ev7, hq⟩ := b_s hq
    refine fa_gi (own := RJ5) (ref := "java/lang/AbstractStringBuilder") (k := 1) hx hb hB inB_RJ4 hown hI rfl (by decide) m_216 (fun _ h9 => h9) ev7 dJ5_ensureCapacityInternal_d00df_28 ?_
    refine lv_ishl hx hb dJ5_ensureCapacityInternal_d00df_31 ?_
    obtain ⟨v8, ev8, hq⟩ := b_s hq
    refine gw_r (g_runS (As := [.ref v5, .int (v6 <<< (v7 &&& 31))]) (rest := [.ref a0]) hC (c_J7_copyOf_9075b l V g D cT f n v5 (v6 <<< (v7 &&& 31)) v8 ev8) k_J7_copyOf_9075b m_1028 rfl rfl ⟨Nat.le_of_ble_eq_true rfl, Nat.le_of_ble_eq_true rfl⟩ hI rfl hl.1 rfl (Nat.le_of_ble_eq_true rfl) dJ5_ensureCapacityInternal_d00df_32 ⟨by decide, by decide⟩) hI (fun H locs hI => ?_)
    obtain ⟨f9, ef9, hq⟩ := b_s hq
    refine fa_pt (own := RJ5) (ref := "java/lang/AbstractStringBuilder") (k := 0) hx hb hB inB_RJ4 tyJ4_ok nmJ4 hown hI rfl (by decide) m_215 (fun _ h9 => h9) (by decide) rfl rfl ef9 dJ5_ensureCapacityInternal_d00df_35 (fun H locs hI => ?_)
    obtain rfl := Option.some.inj hq
    exact ge_Wv hx hb hlocks hr hI rfl dJ5_ensureCapacityInternal_d00df_38

abbrev rm_J0_getBytes_840e7 : Room := { frames := 3, cells := 0, slots := 0, locals := 140 }
theorem k_J0_getBytes_840e7 : g_CV yJ0_getBytes_840e7 cJ0_getBytes_840e7 4 none 3 := ⟨⟨m_1092, m_11, by decide +kernel⟩, m_1090, m_1091⟩
set_option maxHeartbeats 4000000 in
set_option maxRecDepth 100000 in
theorem c_J0_getBytes_840e7 (l : Launch) (V : Nat → Nat) (g : GH) (D : va_G) (cT : Nat → ClassId) (f : GH) (n : Nat) (a0 : Nat) (a1 : Nat) (a2 : Int32) (a3 : Int32) (o : GH) (hq : p_J0_getBytes_840e7 V g f a0 a1 a2 a3 = some o) : Met l yJ0_getBytes_840e7 (Cond.code yJ0_getBytes_840e7 cJ0_getBytes_840e7 4 none :: g_B) rm_J0_getBytes_840e7 (va_Pc [.ref a0, .ref a1, .int a2, .int a3] (g_I V g D cT f n)) (g_Wv V D cT o n) 0 0 (g_A V) := by
  refine g_begin (own := RJ0) [.ref a0, .ref a1, .int a2, .int a3] [(0, .ref a0), (1, .ref a1), (2, .int a2), (3, .int a3)] (g_A V) (fun _ h => h) (by decide) rfl (Nat.le_of_ble_eq_true rfl) rfl ?_
  intro p e s m args below meth c hx hb hr hlocks hin hC hI ls hl
  obtain ⟨hx, hb, hml, hown, hB⟩ := id hC
  obtain ⟨H, hH⟩ : ∃ H, H = s.heap := ⟨_, rfl⟩
  obtain ⟨locs, hlocs⟩ : ∃ L : List Loc, L = [] := ⟨_, rfl⟩
  rw [← hH, ← hlocs] at hI ⊢
  clear hH hlocs
  unfold p_J0_getBytes_840e7 at hq
  replace hq := (h_me_eq hq).2
  refine lv_aload_n hx hb dJ0_getBytes_840e7_0 rfl (lv_at hl 0 rfl) ?_
  obtain ⟨v1, ev1, hq⟩ := b_s hq
  refine gr_i (g_runVs (As := []) (rest := []) (ci := 51) hC (c_J0_coder_7d493 l V g D cT f n a0 v1 ev1) k_J0_coder_7d493 m_407 rfl rfl ⟨Nat.le_of_ble_eq_true rfl, Nat.le_of_ble_eq_true rfl⟩ hI rfl (h_me_eq ev1).1 rfl hl.1 rfl (Nat.le_of_ble_eq_true rfl) dJ0_getBytes_840e7_1 ⟨by decide, by decide⟩) hI (fun H locs hI => ?_)
  refine lv_iload_n hx hb dJ0_getBytes_840e7_4 rfl (lv_at hl 3 rfl) ?_
  refine lv_icmp_ne (tgt := 28) hx hb dJ0_getBytes_840e7_5 (by decide) (fun c2 => ?_) (fun c2 => ?_)
  · replace hq := i_f c2 hq
    cases hq
  · replace hq := i_t c2 hq
    refine lv_aload_n hx hb dJ0_getBytes_840e7_8 rfl (lv_at hl 0 rfl) ?_
    obtain ⟨v3, ev3, hq⟩ := b_s hq
    refine fs_gr (own := RJ0) (ref := "java/lang/String") (ci := 51) (k := 0) hx hb hB hown hI m_1169 (fun _ h9 => h9) ev3 dJ0_getBytes_840e7_9 ?_
    refine lv_iconst (v := (0 : Int32)) hx hb dJ0_getBytes_840e7_12 (by decide) ?_
    refine lv_aload_n hx hb dJ0_getBytes_840e7_13 rfl (lv_at hl 1 rfl) ?_
    refine lv_iload_n hx hb dJ0_getBytes_840e7_14 rfl (lv_at hl 2 rfl) ?_
    refine lv_iload_n hx hb dJ0_getBytes_840e7_15 rfl (lv_at hl 3 rfl) ?_
    refine lv_ishl hx hb dJ0_getBytes_840e7_16 ?_
    refine lv_aload_n hx hb dJ0_getBytes_840e7_17 rfl (lv_at hl 0 rfl) ?_
    obtain ⟨v4, ev4, hq⟩ := b_s hq
    refine fs_gr (own := RJ0) (ref := "java/lang/String") (ci := 51) (k := 0) hx hb hB hown hI m_1169 (fun _ h9 => h9) ev4 dJ0_getBytes_840e7_18 ?_
    obtain ⟨v5, ev5, hq⟩ := b_s hq
    refine fs_al hx hb hI (by decide) ev5 dJ0_getBytes_840e7_21 ?_
    obtain ⟨f6, ef6, hq⟩ := b_s hq
    refine fa_cpbs (own := RJ0) hx hb (hml.trans hl.1.symm) hB hown m_1093 m_240 m_239 m_13 hI ef6 (by decide) (by decide) dJ0_getBytes_840e7_22 (fun H locs hI => ?_)
    refine lv_goto (tgt := 43) hx hb dJ0_getBytes_840e7_25 (by decide) ?_
    exact ge_Wv hx hb hlocks hr hI (Option.some.inj hq) dJ0_getBytes_840e7_43

abbrev rm_J5_inflateIfNeededFor_a7421 : Room := { frames := 3, cells := 0, slots := 0, locals := 140 }
set_option maxHeartbeats 4000000 in
set_option maxRecDepth 100000 in
theorem c_J5_inflateIfNeededFor_a7421 (l : Launch) (V : Nat → Nat) (g : GH) (D : va_G) (cT : Nat → ClassId) (f : GH) (n : Nat) (a0 : Nat) (a1 : Nat) (o : Unit) (hq : p_J5_inflateIfNeededFor_a7421 V g f a0 a1 = some o) : Met l yJ5_inflateIfNeededFor_a7421 (Cond.code yJ5_inflateIfNeededFor_a7421 cJ5_inflateIfNeededFor_a7421 2 none :: g_B) rm_J5_inflateIfNeededFor_a7421 (va_Pc [.ref a0, .ref a1] (g_I V g D cT f n)) (g_Rv o n) 0 0 g_no := by
  refine g_begin (own := RJ5) [.ref a0, .ref a1] [(0, .ref a0), (1, .ref a1)] g_no (fun _ h => h.elim) (by decide) rfl (Nat.le_of_ble_eq_true rfl) rfl ?_
  intro p e s m args below meth c hx hb hr hlocks hin hC hI ls hl
  obtain ⟨hx, hb, hml, hown, hB⟩ := id hC
  obtain ⟨H, hH⟩ : ∃ H, H = s.heap := ⟨_, rfl⟩
  obtain ⟨locs, hlocs⟩ : ∃ L : List Loc, L = [] := ⟨_, rfl⟩
  rw [← hH, ← hlocs] at hI ⊢
  clear hH hlocs
  unfold p_J5_inflateIfNeededFor_a7421 at hq
  replace hq := (h_me_eq hq).2
  refine fs_gs (i := 18) hx hb hown hI rfl (hB _ m_206) (fun _ h9 => h9) dJ5_inflateIfNeededFor_a7421_0 ?_
  refine lv_if_eq (tgt := 21) hx hb dJ5_inflateIfNeededFor_a7421_3 (by decide) (fun c => absurd c (by decide)) (fun _ => ?_)
  refine lv_aload_n hx hb dJ5_inflateIfNeededFor_a7421_6 rfl (lv_at hl 0 rfl) ?_
  obtain ⟨v1, ev1, hq⟩ := b_s hq
  refine fa_gi (own := RJ5) (ref := "java/lang/AbstractStringBuilder") (k := 1) hx hb hB inB_RJ4 hown hI rfl (by decide) m_216 (fun _ h9 => h9) ev1 dJ5_inflateIfNeededFor_a7421_7 ?_
  refine lv_aload_n hx hb dJ5_inflateIfNeededFor_a7421_10 rfl (lv_at hl 1 rfl) ?_
  obtain ⟨v2, ev2, hq⟩ := b_s hq
  refine gr_i (g_runVs (As := []) (rest := [.int v1]) (ci := 51) hC (c_J0_coder_7d493 l V g D cT f n a1 v2 ev2) k_J0_coder_7d493 m_1069 rfl rfl ⟨Nat.le_of_ble_eq_true rfl, Nat.le_of_ble_eq_true rfl⟩ hI rfl (h_me_eq ev2).1 rfl hl.1 rfl (Nat.le_of_ble_eq_true rfl) dJ5_inflateIfNeededFor_a7421_11 ⟨by decide, by decide⟩) hI (fun H locs hI => ?_)
  refine lv_icmp_eq (tgt := 21) hx hb dJ5_inflateIfNeededFor_a7421_14 (by decide) (fun c3 => ?_) (fun c3 => ?_)
  · replace hq := i_t c3 hq
    exact ge_Rv hx hb hlocks hr hI dJ5_inflateIfNeededFor_a7421_21
  · replace hq := i_f c3 hq
    cases hq

abbrev rm_J5_putStringAt_47b60 : Room := { frames := 4, cells := 0, slots := 0, locals := 163 }
set_option maxHeartbeats 4000000 in
set_option maxRecDepth 100000 in
theorem c_J5_putStringAt_47b60 (l : Launch) (V : Nat → Nat) (g : GH) (D : va_G) (cT : Nat → ClassId) (f : GH) (n : Nat) (a0 : Nat) (a1 : Int32) (a2 : Nat) (o : GH) (hq : p_J5_putStringAt_47b60 V g f a0 a1 a2 = some o) : Met l yJ5_putStringAt_47b60 (Cond.code yJ5_putStringAt_47b60 cJ5_putStringAt_47b60 3 none :: g_B) rm_J5_putStringAt_47b60 (va_Pc [.ref a0, .int a1, .ref a2] (g_I V g D cT f n)) (g_Wv V D cT o n) 0 0 (g_A V) := by
  refine g_begin (own := RJ5) [.ref a0, .int a1, .ref a2] [(0, .ref a0), (1, .int a1), (2, .ref a2)] (g_A V) (fun _ h => h) (by decide) rfl (Nat.le_of_ble_eq_true rfl) rfl ?_
  intro p e s m args below meth c hx hb hr hlocks hin hC hI ls hl
  obtain ⟨hx, hb, hml, hown, hB⟩ := id hC
  obtain ⟨H, hH⟩ : ∃ H, H = s.heap := ⟨_, rfl⟩
  obtain ⟨locs, hlocs⟩ : ∃ L : List Loc, L = [] := ⟨_, rfl⟩
  rw [← hH, ← hlocs] at hI ⊢
  clear hH hlocs
  unfold p_J5_putStringAt_47b60 at hq
  replace hq := (h_me_eq hq).2
  refine lv_aload_n hx hb dJ5_putStringAt_47b60_0 rfl (lv_at hl 0 rfl) ?_
  refine lv_aload_n hx hb dJ5_putStringAt_47b60_1 rfl (lv_at hl 2 rfl) ?_
  obtain ⟨v1, ev1, hq⟩ := b_s hq
  refine gr_v (g_runU (As := [.ref a2]) (rest := []) (ci := 1) hC (c_J5_inflateIfNeededFor_a7421 l V g D cT f n a0 a2 v1 ev1) (⟨⟨m_1068, m_9⟩, m_1067, m_1271, mx_2, rfl, by decide, by decide, by decide +kernel⟩ : g_CU "java/lang/StringBuilder" "java/lang/AbstractStringBuilder" (⟨"java/lang/AbstractStringBuilder", "inflateIfNeededFor", "(Ljava/lang/String;)V"⟩ : MethodName) yJ5_inflateIfNeededFor_a7421 cJ5_inflateIfNeededFor_a7421 2 none 1) m_1065 rfl rfl ⟨Nat.le_of_ble_eq_true rfl, Nat.le_of_ble_eq_true rfl⟩ hI rfl rfl (h_me_eq ev1).1 rfl hl.1 rfl (Nat.le_of_ble_eq_true rfl) dJ5_putStringAt_47b60_2 ⟨by decide, by decide⟩) hI (fun H locs hI => ?_)
  refine lv_aload_n hx hb dJ5_putStringAt_47b60_5 rfl (lv_at hl 2 rfl) ?_
  refine lv_aload_n hx hb dJ5_putStringAt_47b60_6 rfl (lv_at hl 0 rfl) ?_
  obtain ⟨v2, ev2, hq⟩ := b_s hq
  refine fa_gr (own := RJ5) (ref := "java/lang/AbstractStringBuilder") (k := 0) hx hb hB inB_RJ4 hown hI rfl (by decide) m_215 (fun _ h9 => h9) ev2 dJ5_putStringAt_47b60_7 ?_
  refine lv_iload_n hx hb dJ5_putStringAt_47b60_10 rfl (lv_at hl 1 rfl) ?_
  refine lv_aload_n hx hb dJ5_putStringAt_47b60_11 rfl (lv_at hl 0 rfl) ?_
  obtain ⟨v3, ev3, hq⟩ := b_s hq
  refine fa_gi (own := RJ5) (ref := "java/lang/AbstractStringBuilder") (k := 1) hx hb hB inB_RJ4 hown hI rfl (by decide) m_216 (fun _ h9 => h9) ev3 dJ5_putStringAt_47b60_12 ?_
  obtain ⟨v4, ev4, hq⟩ := b_s hq
  refine gw_v (g_runVs (As := [.ref v2, .int a1, .int v3]) (rest := []) (ci := 51) hC (c_J0_getBytes_840e7 l V g D cT f n a2 v2 a1 v3 v4 ev4) k_J0_getBytes_840e7 m_1089 rfl rfl ⟨Nat.le_of_ble_eq_true rfl, Nat.le_of_ble_eq_true rfl⟩ hI rfl (h_me_eq ev4).1 rfl hl.1 rfl (Nat.le_of_ble_eq_true rfl) dJ5_putStringAt_47b60_15 ⟨by decide, by decide⟩) hI (fun H locs hI => ?_)
  exact ge_Wv hx hb hlocks hr hI (Option.some.inj hq) dJ5_putStringAt_47b60_18

abbrev rm_J5_append_cf1ce : Room := { frames := 6, cells := 1, slots := 600, locals := 211 }
set_option maxHeartbeats 4000000 in
set_option maxRecDepth 100000 in
theorem c_J5_append_cf1ce (l : Launch) (V : Nat → Nat) (g : GH) (D : va_G) (cT : Nat → ClassId) (f : GH) (n : Nat) (a0 : Nat) (a1 : Nat) (o : Nat × GH × Nat) (hq : p_J5_append_cf1ce V g f n a0 a1 = some o) : Met l yJ5_append_cf1ce (Cond.code yJ5_append_cf1ce cJ5_append_cf1ce 3 (some (.object "java/lang/AbstractStringBuilder")) :: g_B) rm_J5_append_cf1ce (va_Pc [.ref a0, .ref a1] (g_I V g D cT f n)) (g_Wr V D cT o.1 o.2.1 o.2.2) 1 600 (g_A V) := by
  refine g_begin (own := RJ5) [.ref a0, .ref a1] [(0, .ref a0), (1, .ref a1)] (g_A V) (fun _ h => h) (by decide) rfl (Nat.le_of_ble_eq_true rfl) rfl ?_
  intro p e s m args below meth c hx hb hr hlocks hin hC hI ls hl
  obtain ⟨hx, hb, hml, hown, hB⟩ := id hC
  obtain ⟨H, hH⟩ : ∃ H, H = s.heap := ⟨_, rfl⟩
  obtain ⟨locs, hlocs⟩ : ∃ L : List Loc, L = [] := ⟨_, rfl⟩
  rw [← hH, ← hlocs] at hI ⊢
  clear hH hlocs
  unfold p_J5_append_cf1ce at hq
  replace hq := (h_me_eq hq).2
  refine lv_aload_n hx hb dJ5_append_cf1ce_0 rfl (lv_at hl 1 rfl) ?_
  refine lv_ifnonnull (tgt := 9) hx hb dJ5_append_cf1ce_1 (by decide) ?_
  refine lv_aload_n hx hb dJ5_append_cf1ce_9 rfl (lv_at hl 1 rfl) ?_
  obtain ⟨v1, ev1, hq⟩ := b_s hq
  refine gr_i (g_runVs (As := []) (rest := []) (ci := 51) hC (c_J0_length_8abf5 l V g D cT f n a1 v1 ev1) k_J0_length_8abf5 m_1060 rfl rfl ⟨Nat.le_of_ble_eq_true rfl, Nat.le_of_ble_eq_true rfl⟩ hI rfl (h_me_eq ev1).1 rfl hl.1 rfl (Nat.le_of_ble_eq_true rfl) dJ5_append_cf1ce_10 ⟨by decide, by decide⟩) hI (fun H locs hI => ?_)
  refine lv_istore_n (lv' := [(2, .int v1), (0, .ref a0), (1, .ref a1)]) hx hb dJ5_append_cf1ce_13 rfl hl (by decide) rfl (fun ls hl => ?_)
  refine lv_aload_n hx hb dJ5_append_cf1ce_14 rfl (lv_at hl 1 rfl) ?_
  refine lv_aload_n hx hb dJ5_append_cf1ce_15 rfl (lv_at hl 1 rfl) ?_
  obtain ⟨v2, ev2, hq⟩ := b_s hq
  refine fa_gi (own := RJ5) (ref := "java/lang/AbstractStringBuilder") (k := 3) hx hb hB inB_RJ4 hown hI rfl (by decide) m_218 (fun _ h9 => h9) ev2 dJ5_append_cf1ce_16 ?_
  refine lv_iload_n hx hb dJ5_append_cf1ce_19 rfl (lv_at hl 0 rfl) ?_
  refine lv_iadd hx hb dJ5_append_cf1ce_20 ?_
  obtain ⟨v3, ev3, hq⟩ := b_s hq
  refine gw_v (g_runU (As := [.int (v2 + v1)]) (rest := []) (ci := 1) hC (c_J5_ensureCapacityInternal_d00df l V g D cT f n a0 (v2 + v1) v3 ev3) (⟨⟨m_1014, m_9⟩, m_1013, m_1268, mx_0, rfl, by decide, by decide, by decide +kernel⟩ : g_CU "java/lang/StringBuilder" "java/lang/AbstractStringBuilder" (⟨"java/lang/AbstractStringBuilder", "ensureCapacityInternal", "(I)V"⟩ : MethodName) yJ5_ensureCapacityInternal_d00df cJ5_ensureCapacityInternal_d00df 3 none 1) m_1011 rfl rfl ⟨Nat.le_of_ble_eq_true rfl, Nat.le_of_ble_eq_true rfl⟩ hI rfl rfl (h_me_eq ev3).1 rfl hl.1 rfl (Nat.le_of_ble_eq_true rfl) dJ5_append_cf1ce_21 ⟨by decide, by decide⟩) hI (fun H locs hI => ?_)
  refine lv_aload_n hx hb dJ5_append_cf1ce_24 rfl (lv_at hl 1 rfl) ?_
  refine lv_aload_n hx hb dJ5_append_cf1ce_25 rfl (lv_at hl 1 rfl) ?_
  obtain ⟨v4, ev4, hq⟩ := b_s hq
  refine fa_gi (own := RJ5) (ref := "java/lang/AbstractStringBuilder") (k := 3) hx hb hB inB_RJ4 hown hI rfl (by decide) m_218 (fun _ h9 => h9) ev4 dJ5_append_cf1ce_26 ?_
  refine lv_aload_n hx hb dJ5_append_cf1ce_29 rfl (lv_at hl 2 rfl) ?_
  obtain ⟨v5, ev5, hq⟩ := b_s hq
  refine gw_v (g_runU (As := [.int v4, .ref a1]) (rest := []) (ci := 1) hC (c_J5_putStringAt_47b60 l V g D cT v3.1 v3.2 a0 v4 a1 v5 ev5) (⟨⟨m_1064, m_9⟩, m_1063, m_1270, mx_3, rfl, by decide, by decide, by decide +kernel⟩ : g_CU "java/lang/StringBuilder" "java/lang/AbstractStringBuilder" (⟨"java/lang/AbstractStringBuilder", "putStringAt", "(ILjava/lang/String;)V"⟩ : MethodName) yJ5_putStringAt_47b60 cJ5_putStringAt_47b60 3 none 2) m_1061 rfl rfl ⟨Nat.le_of_ble_eq_true rfl, Nat.le_of_ble_eq_true rfl⟩ hI rfl rfl (h_me_eq ev5).1 rfl hl.1 rfl (Nat.le_of_ble_eq_true rfl) dJ5_append_cf1ce_30 ⟨by decide, by decide⟩) hI (fun H locs hI => ?_)
  refine lv_aload_n hx hb dJ5_append_cf1ce_33 rfl (lv_at hl 1 rfl) ?_
  refine lv_dup hx hb dJ5_append_cf1ce_34 rfl ?_
  obtain ⟨v6, ev6, hq⟩ := b_s hq
  refine fa_gi (own := RJ5) (ref := "java/lang/AbstractStringBuilder") (k := 3) hx hb hB inB_RJ4 hown hI rfl (by decide) m_218 (fun _ h9 => h9) ev6 dJ5_append_cf1ce_35 ?_
  refine lv_iload_n hx hb dJ5_append_cf1ce_38 rfl (lv_at hl 0 rfl) ?_
  refine lv_iadd hx hb dJ5_append_cf1ce_39 ?_
  obtain ⟨f7, ef7, hq⟩ := b_s hq
  refine fa_pt (own := RJ5) (ref := "java/lang/AbstractStringBuilder") (k := 3) hx hb hB inB_RJ4 tyJ4_ok nmJ4 hown hI rfl (by decide) m_218 (fun _ h9 => h9) (by decide) rfl rfl ef7 dJ5_append_cf1ce_40 (fun H locs hI => ?_)
  refine lv_aload_n hx hb dJ5_append_cf1ce_43 rfl (lv_at hl 1 rfl) ?_
  obtain rfl := Option.some.inj hq
  exact ge_Wr hx hb hlocks hr (Or.inl ⟨_, rfl⟩) hI rfl rfl dJ5_append_cf1ce_44

abbrev rm_J4_append_15ec4 : Room := { frames := 7, cells := 1, slots := 600, locals := 233 }
theorem k_J4_append_15ec4 : g_CV yJ4_append_15ec4 cJ4_append_15ec4 2 (some (.object "java/lang/StringBuilder")) 1 := ⟨⟨m_1003, m_10, by decide +kernel⟩, m_1001, m_1002⟩
set_option maxHeartbeats 4000000 in
set_option maxRecDepth 100000 in
theorem c_J4_append_15ec4 (l : Launch) (V : Nat → Nat) (g : GH) (D : va_G) (cT : Nat → ClassId) (f : GH) (n : Nat) (a0 : Nat) (a1 : Nat) (o : Nat × GH × Nat) (hq : p_J4_append_15ec4 V g f n a0 a1 = some o) : Met l yJ4_append_15ec4 (Cond.code yJ4_append_15ec4 cJ4_append_15ec4 2 (some (.object "java/lang/StringBuilder")) :: g_B) rm_J4_append_15ec4 (va_Pc [.ref a0, .ref a1] (g_I V g D cT f n)) (g_Wr V D cT o.1 o.2.1 o.2.2) 1 600 (g_A V) := by
  refine g_begin (own := RJ4) [.ref a0, .ref a1] [(0, .ref a0), (1, .ref a1)] (g_A V) (fun _ h => h) (by decide) rfl (Nat.le_of_ble_eq_true rfl) rfl ?_
  intro p e s m args below meth c hx hb hr hlocks hin hC hI ls hl
  obtain ⟨hx, hb, hml, hown, hB⟩ := id hC
  obtain ⟨H, hH⟩ : ∃ H, H = s.heap := ⟨_, rfl⟩
  obtain ⟨locs, hlocs⟩ : ∃ L : List Loc, L = [] := ⟨_, rfl⟩
  rw [← hH, ← hlocs] at hI ⊢
  clear hH hlocs
  unfold p_J4_append_15ec4 at hq
  replace hq := (h_me_eq hq).2
  refine lv_aload_n hx hb dJ4_append_15ec4_0 rfl (lv_at hl 0 rfl) ?_
  refine lv_aload_n hx hb dJ4_append_15ec4_1 rfl (lv_at hl 1 rfl) ?_
  obtain ⟨v1, ev1, hq⟩ := b_s hq
  refine gw_r (g_runSU (As := [.ref a1]) (rest := []) (ci := 1) hC (c_J5_append_cf1ce l V g D cT f n a0 a1 v1 ev1) (⟨⟨m_1006, m_9⟩, m_1005, m_1266, m_227, by decide, by decide +kernel⟩ : g_CSU "java/lang/StringBuilder" yJ5_append_cf1ce cJ5_append_cf1ce 3 (some (.object "java/lang/AbstractStringBuilder")) 1) m_1004 rfl rfl ⟨Nat.le_of_ble_eq_true rfl, Nat.le_of_ble_eq_true rfl⟩ hI rfl (h_me_eq ev1).1 rfl hl.1 rfl (Nat.le_of_ble_eq_true rfl) dJ4_append_15ec4_2 ⟨by decide, by decide⟩) hI (fun H locs hI => ?_)
  refine lv_pop hx hb dJ4_append_15ec4_5 rfl ?_
  refine lv_aload_n hx hb dJ4_append_15ec4_6 rfl (lv_at hl 0 rfl) ?_
  obtain rfl := Option.some.inj hq
  exact ge_Wr hx hb hlocks hr (Or.inl ⟨_, rfl⟩) hI rfl rfl dJ4_append_15ec4_7

abbrev rm_J4_append_cf1ce : Room := { frames := 8, cells := 1, slots := 600, locals := 254 }
set_option maxHeartbeats 4000000 in
set_option maxRecDepth 100000 in
theorem c_J4_append_cf1ce (l : Launch) (V : Nat → Nat) (g : GH) (D : va_G) (cT : Nat → ClassId) (f : GH) (n : Nat) (a0 : Nat) (a1 : Nat) (o : Nat × GH × Nat) (hq : p_J4_append_cf1ce V g f n a0 a1 = some o) : Met l yJ4_append_cf1ce (Cond.code yJ4_append_cf1ce cJ4_append_cf1ce 2 (some (.object "java/lang/AbstractStringBuilder")) :: g_B) rm_J4_append_cf1ce (va_Pc [.ref a0, .ref a1] (g_I V g D cT f n)) (g_Wr V D cT o.1 o.2.1 o.2.2) 1 600 (g_A V) := by
  refine g_begin (own := RJ4) [.ref a0, .ref a1] [(0, .ref a0), (1, .ref a1)] (g_A V) (fun _ h => h) (by decide) rfl (Nat.le_of_ble_eq_true rfl) rfl ?_
  intro p e s m args below meth c hx hb hr hlocks hin hC hI ls hl
  obtain ⟨hx, hb, hml, hown, hB⟩ := id hC
  obtain ⟨H, hH⟩ : ∃ H, H = s.heap := ⟨_, rfl⟩
  obtain ⟨locs, hlocs⟩ : ∃ L : List Loc, L = [] := ⟨_, rfl⟩
  rw [← hH, ← hlocs] at hI ⊢
  clear hH hlocs
  unfold p_J4_append_cf1ce at hq
  replace hq := (h_me_eq hq).2
  refine lv_aload_n hx hb dJ4_append_cf1ce_0 rfl (lv_at hl 0 rfl) ?_
  refine lv_aload_n hx hb dJ4_append_cf1ce_1 rfl (lv_at hl 1 rfl) ?_
  obtain ⟨v1, ev1, hq⟩ := b_s hq
  refine gw_r (g_runV (As := [.ref a1]) (rest := []) (ci := 1) hC (c_J4_append_15ec4 l V g D cT f n a0 a1 v1 ev1) k_J4_append_15ec4 m_1247 rfl rfl ⟨Nat.le_of_ble_eq_true rfl, Nat.le_of_ble_eq_true rfl⟩ hI rfl rfl (h_me_eq ev1).1 rfl hl.1 rfl (Nat.le_of_ble_eq_true rfl) dJ4_append_cf1ce_2 ⟨by decide, by decide⟩) hI (fun H locs hI => ?_)
  obtain rfl := Option.some.inj hq
  exact ge_Wr hx hb hlocks hr (Or.inl ⟨_, rfl⟩) hI rfl rfl dJ4_append_cf1ce_5

abbrev rm_J5_init_a7421 : Room := { frames := 9, cells := 2, slots := 660, locals := 275 }
theorem k_J5_init_a7421 : g_CI yJ5_init_a7421 cJ5_init_a7421 5 1 := ⟨⟨m_1242, m_9, by decide +kernel⟩, rfl, m_1241⟩
set_option maxHeartbeats 4000000 in
set_option maxRecDepth 100000 in
theorem c_J5_init_a7421 (l : Launch) (V : Nat → Nat) (g : GH) (D : va_G) (cT : Nat → ClassId) (f : GH) (n : Nat) (a0 : Nat) (a1 : Nat) (o : GH × Nat) (hq : p_J5_init_a7421 V g f n a0 a1 = some o) : Met l yJ5_init_a7421 (Cond.code yJ5_init_a7421 cJ5_init_a7421 5 none :: g_B) rm_J5_init_a7421 (va_Pc [.ref a0, .ref a1] (g_I V g D cT f n)) (g_Wv V D cT o.1 o.2) 2 660 (g_A V) := by
  refine g_begin (own := RJ5) [.ref a0, .ref a1] [(0, .ref a0), (1, .ref a1)] (g_A V) (fun _ h => h) (by decide) rfl (Nat.le_of_ble_eq_true rfl) rfl ?_
  intro p e s m args below meth c hx hb hr hlocks hin hC hI ls hl
  obtain ⟨hx, hb, hml, hown, hB⟩ := id hC
  obtain ⟨H, hH⟩ : ∃ H, H = s.heap := ⟨_, rfl⟩
  obtain ⟨locs, hlocs⟩ : ∃ L : List Loc, L = [] := ⟨_, rfl⟩
  rw [← hH, ← hlocs] at hI ⊢
  clear hH hlocs
  unfold p_J5_init_a7421 at hq
  replace hq := (h_me_eq hq).2
  refine lv_aload_n hx hb dJ5_init_a7421_0 rfl (lv_at hl 0 rfl) ?_
  refine W.objInit hx hb hown (hB _ m_205) (hB _ m_33) (hB _ m_34) rfl (by rw [hml]; exact hl.1) rfl dJ5_init_a7421_1 (Nat.le_of_ble_eq_true rfl) (Nat.le_of_ble_eq_true rfl) ?_
  refine W.eq (g2 := F0 m 4 ls []) rfl ?_
  refine lv_aload_n hx hb dJ5_init_a7421_4 rfl (lv_at hl 1 rfl) ?_
  obtain ⟨v1, ev1, hq⟩ := b_s hq
  refine gr_i (g_runVs (As := []) (rest := []) (ci := 51) hC (c_J0_length_8abf5 l V g D cT f n a1 v1 ev1) k_J0_length_8abf5 m_1060 rfl rfl ⟨Nat.le_of_ble_eq_true rfl, Nat.le_of_ble_eq_true rfl⟩ hI rfl (h_me_eq ev1).1 rfl hl.1 rfl (Nat.le_of_ble_eq_true rfl) dJ5_init_a7421_5 ⟨by decide, by decide⟩) hI (fun H locs hI => ?_)
  refine lv_istore_n (lv' := [(2, .int v1), (0, .ref a0), (1, .ref a1)]) hx hb dJ5_init_a7421_8 rfl hl (by decide) rfl (fun ls hl => ?_)
  refine lv_iload_n hx hb dJ5_init_a7421_9 rfl (lv_at hl 0 rfl) ?_
  refine lv_ldc (own := RJ5) (index := 38) (v := (2147483631 : Int32)) hx hb hown (hB _ m_1243) dJ5_init_a7421_10 ?_
  refine lv_icmp_ge (tgt := 22) hx hb dJ5_init_a7421_12 (by decide) (fun c2 => ?_) (fun c2 => ?_)
  · replace hq := i_t c2 hq
    cases hq
  · replace hq := i_f c2 hq
    refine lv_iload_n hx hb dJ5_init_a7421_15 rfl (lv_at hl 0 rfl) ?_
    refine lv_bipush (v := (16 : Int32)) hx hb dJ5_init_a7421_16 (by decide) ?_
    refine lv_iadd hx hb dJ5_init_a7421_18 ?_
    refine lv_goto (tgt := 24) hx hb dJ5_init_a7421_19 (by decide) ?_
    refine lv_istore_n (lv' := [(3, .int (v1 + (16 : Int32))), (2, .int v1), (0, .ref a0), (1, .ref a1)]) hx hb dJ5_init_a7421_24 rfl hl (by decide) rfl (fun ls hl => ?_)
    refine lv_aload_n hx hb dJ5_init_a7421_25 rfl (lv_at hl 3 rfl) ?_
    obtain ⟨v3, ev3, hq⟩ := b_s hq
    refine gr_i (g_runVs (As := []) (rest := []) (ci := 51) hC (c_J0_coder_7d493 l V g D cT f n a1 v3 ev3) k_J0_coder_7d493 m_1069 rfl rfl ⟨Nat.le_of_ble_eq_true rfl, Nat.le_of_ble_eq_true rfl⟩ hI rfl (h_me_eq ev3).1 rfl hl.1 rfl (Nat.le_of_ble_eq_true rfl) dJ5_init_a7421_26 ⟨by decide, by decide⟩) hI (fun H locs hI => ?_)
    refine lv_istore (lv' := [(4, .int v3), (3, .int (v1 + (16 : Int32))), (2, .int v1), (0, .ref a0), (1, .ref a1)]) hx hb dJ5_init_a7421_29 hl (by decide) rfl (fun ls hl => ?_)
    refine lv_aload_n hx hb dJ5_init_a7421_31 rfl (lv_at hl 3 rfl) ?_
    refine lv_iload hx hb dJ5_init_a7421_32 (lv_at hl 0 rfl) ?_
    obtain ⟨_, ev4, hq⟩ := b_s hq
    obtain ⟨f5, ef5, hq⟩ := b_s hq
    refine fa_pt (own := RJ5) (ref := "java/lang/AbstractStringBuilder") (k := 1) hx hb hB inB_RJ4 tyJ4_ok nmJ4 hown hI rfl (by decide) m_216 (fun _ h9 => h9) (by decide) (h_yz_eq ev4).2.1 (h_yz_eq ev4).2.2 ef5 dJ5_init_a7421_34 (fun H locs hI => ?_)
    refine lv_aload_n hx hb dJ5_init_a7421_37 rfl (lv_at hl 3 rfl) ?_
    refine lv_iload hx hb dJ5_init_a7421_38 (lv_at hl 0 rfl) ?_
    refine lv_if_ne (tgt := 49) hx hb dJ5_init_a7421_40 (by decide) (fun c6 => ?_) (fun c6 => ?_)
    · replace hq := i_f c6 hq
      cases hq
    · replace hq := i_t c6 hq
      refine lv_iload_n hx hb dJ5_init_a7421_43 rfl (lv_at hl 1 rfl) ?_
      obtain ⟨f7, ef7, hq⟩ := b_s hq
      refine fa_newv (atype := .byte) (M := 60) (t := 1) hx hb hB m_129 rfl (by decide) (by decide) hI (by decide) (by decide) (by decide) ef7 dJ5_init_a7421_44 (fun H locs hI => ?_)
      refine lv_goto (tgt := 53) hx hb dJ5_init_a7421_46 (by decide) ?_
      obtain ⟨f8, ef8, hq⟩ := b_s hq
      refine fa_pt (own := RJ5) (ref := "java/lang/AbstractStringBuilder") (k := 0) hx hb hB inB_RJ4 tyJ4_ok nmJ4 hown hI rfl (by decide) m_215 (fun _ h9 => h9) (by decide) rfl rfl ef8 dJ5_init_a7421_53 (fun H locs hI => ?_)
      refine lv_aload_n hx hb dJ5_init_a7421_56 rfl (lv_at hl 3 rfl) ?_
      refine lv_aload_n hx hb dJ5_init_a7421_57 rfl (lv_at hl 4 rfl) ?_
      obtain ⟨v9, ev9, hq⟩ := b_s hq
      refine gw_r (g_runO (As := [.ref a1]) (rest := []) (ci := 1) hC (c_J4_append_cf1ce l V g D cT f8 (n + 1) a0 a1 v9 ev9) (⟨⟨m_1246, m_10⟩, m_1245, m_1266, m_1274, m_1005, m_1006, by decide, by decide, by decide +kernel⟩ : g_CO "java/lang/StringBuilder" "java/lang/AbstractStringBuilder" (⟨"java/lang/AbstractStringBuilder", "append", "(Ljava/lang/String;)Ljava/lang/AbstractStringBuilder;"⟩ : MethodName) yJ4_append_cf1ce cJ4_append_cf1ce 2 (some (.object "java/lang/AbstractStringBuilder")) 1 cJ5_append_cf1ce 3 (some (.object "java/lang/AbstractStringBuilder"))) m_1244 rfl rfl ⟨Nat.le_of_ble_eq_true rfl, Nat.le_of_ble_eq_true rfl⟩ hI rfl rfl (h_me_eq ev9).1 rfl hl.1 rfl (Nat.le_of_ble_eq_true rfl) dJ5_init_a7421_58 ⟨by decide, by decide⟩) hI (fun H locs hI => ?_)
      refine lv_pop hx hb dJ5_init_a7421_61 rfl ?_
      obtain rfl := Option.some.inj hq
      exact ge_Wv hx hb hlocks hr hI rfl dJ5_init_a7421_62

abbrev rm_J5_length_8abf5 : Room := { frames := 2, cells := 0, slots := 0, locals := 120 }
set_option maxHeartbeats 4000000 in
set_option maxRecDepth 100000 in
theorem c_J5_length_8abf5 (l : Launch) (V : Nat → Nat) (g : GH) (D : va_G) (cT : Nat → ClassId) (f : GH) (n : Nat) (a0 : Nat) (o : Int32) (hq : p_J5_length_8abf5 V g f a0 = some o) : Met l yJ5_length_8abf5 (Cond.code yJ5_length_8abf5 cJ5_length_8abf5 1 (some .int) :: g_B) rm_J5_length_8abf5 (va_Pc [.ref a0] (g_I V g D cT f n)) (g_Ri o n) 0 0 g_no := by
  refine g_begin (own := RJ5) [.ref a0] [(0, .ref a0)] g_no (fun _ h => h.elim) (by decide) rfl (Nat.le_of_ble_eq_true rfl) rfl ?_
  intro p e s m args below meth c hx hb hr hlocks hin hC hI ls hl
  obtain ⟨hx, hb, hml, hown, hB⟩ := id hC
  obtain ⟨H, hH⟩ : ∃ H, H = s.heap := ⟨_, rfl⟩
  obtain ⟨locs, hlocs⟩ : ∃ L : List Loc, L = [] := ⟨_, rfl⟩
  rw [← hH, ← hlocs] at hI ⊢
  clear hH hlocs
  unfold p_J5_length_8abf5 at hq
  replace hq := (h_me_eq hq).2
  refine lv_aload_n hx hb dJ5_length_8abf5_0 rfl (lv_at hl 0 rfl) ?_
  obtain ⟨v1, ev1, hq⟩ := b_s hq
  refine fa_gi (own := RJ5) (ref := "java/lang/AbstractStringBuilder") (k := 3) hx hb hB inB_RJ4 hown hI rfl (by decide) m_218 (fun _ h9 => h9) ev1 dJ5_length_8abf5_1 ?_
  exact ge_Ri hx hb hlocks hr rfl hI hq dJ5_length_8abf5_4

abbrev rm_J5_isLatin1_aae02 : Room := { frames := 2, cells := 0, slots := 0, locals := 120 }
set_option maxHeartbeats 4000000 in
set_option maxRecDepth 100000 in
theorem c_J5_isLatin1_aae02 (l : Launch) (V : Nat → Nat) (g : GH) (D : va_G) (cT : Nat → ClassId) (f : GH) (n : Nat) (a0 : Nat) (o : Int32) (hq : p_J5_isLatin1_aae02 V g f a0 = some o) : Met l yJ5_isLatin1_aae02 (Cond.code yJ5_isLatin1_aae02 cJ5_isLatin1_aae02 1 (some .boolean) :: g_B) rm_J5_isLatin1_aae02 (va_Pc [.ref a0] (g_I V g D cT f n)) (g_Ri o n) 0 0 g_no := by
  refine g_begin (own := RJ5) [.ref a0] [(0, .ref a0)] g_no (fun _ h => h.elim) (by decide) rfl (Nat.le_of_ble_eq_true rfl) rfl ?_
  intro p e s m args below meth c hx hb hr hlocks hin hC hI ls hl
  obtain ⟨hx, hb, hml, hown, hB⟩ := id hC
  obtain ⟨H, hH⟩ : ∃ H, H = s.heap := ⟨_, rfl⟩
  obtain ⟨locs, hlocs⟩ : ∃ L : List Loc, L = [] := ⟨_, rfl⟩
  rw [← hH, ← hlocs] at hI ⊢
  clear hH hlocs
  unfold p_J5_isLatin1_aae02 at hq
  replace hq := (h_me_eq hq).2
  refine fs_gs (i := 18) hx hb hown hI rfl (hB _ m_206) (fun _ h9 => h9) dJ5_isLatin1_aae02_0 ?_
  refine lv_if_eq (tgt := 17) hx hb dJ5_isLatin1_aae02_3 (by decide) (fun c => absurd c (by decide)) (fun _ => ?_)
  refine lv_aload_n hx hb dJ5_isLatin1_aae02_6 rfl (lv_at hl 0 rfl) ?_
  obtain ⟨v1, ev1, hq⟩ := b_s hq
  refine fa_gi (own := RJ5) (ref := "java/lang/AbstractStringBuilder") (k := 1) hx hb hB inB_RJ4 hown hI rfl (by decide) m_216 (fun _ h9 => h9) ev1 dJ5_isLatin1_aae02_7 ?_
  refine lv_if_ne (tgt := 17) hx hb dJ5_isLatin1_aae02_10 (by decide) (fun c2 => ?_) (fun c2 => ?_)
  · replace hq := i_f c2 hq
    refine lv_iconst (v := (0 : Int32)) hx hb dJ5_isLatin1_aae02_17 (by decide) ?_
    exact ge_Ri hx hb hlocks hr (by decide +kernel) hI hq dJ5_isLatin1_aae02_18
  · replace hq := i_t c2 hq
    refine lv_iconst (v := (1 : Int32)) hx hb dJ5_isLatin1_aae02_13 (by decide) ?_
    refine lv_goto (tgt := 18) hx hb dJ5_isLatin1_aae02_14 (by decide) ?_
    exact ge_Ri hx hb hlocks hr (by decide +kernel) hI hq dJ5_isLatin1_aae02_18

abbrev rm_J1_canEncode_fc78d : Room := { frames := 2, cells := 0, slots := 0, locals := 120 }
theorem k_J1_canEncode_fc78d : g_CS yJ1_canEncode_fc78d cJ1_canEncode_fc78d 1 (some .boolean) 1 := ⟨⟨m_1257, m_18, by decide +kernel⟩, m_1256⟩
set_option maxHeartbeats 4000000 in
set_option maxRecDepth 100000 in
theorem c_J1_canEncode_fc78d (l : Launch) (V : Nat → Nat) (g : GH) (D : va_G) (cT : Nat → ClassId) (f : GH) (n : Nat) (a0 : Int32) (o : Int32) (hq : p_J1_canEncode_fc78d V g f a0 = some o) : Met l yJ1_canEncode_fc78d (Cond.code yJ1_canEncode_fc78d cJ1_canEncode_fc78d 1 (some .boolean) :: g_B) rm_J1_canEncode_fc78d (va_Pc [.int a0] (g_I V g D cT f n)) (g_Ri o n) 0 0 g_no := by
  refine g_begin (own := RJ1) [.int a0] [(0, .int a0)] g_no (fun _ h => h.elim) (by decide) rfl (Nat.le_of_ble_eq_true rfl) rfl ?_
  intro p e s m args below meth c hx hb hr hlocks hin hC hI ls hl
  obtain ⟨hx, hb, hml, hown, hB⟩ := id hC
  obtain ⟨H, hH⟩ : ∃ H, H = s.heap := ⟨_, rfl⟩
  obtain ⟨locs, hlocs⟩ : ∃ L : List Loc, L = [] := ⟨_, rfl⟩
  rw [← hH, ← hlocs] at hI ⊢
  clear hH hlocs
  unfold p_J1_canEncode_fc78d at hq
  refine lv_iload_n hx hb dJ1_canEncode_fc78d_0 rfl (lv_at hl 0 rfl) ?_
  refine lv_sipush (v := (255 : Int32)) hx hb dJ1_canEncode_fc78d_1 (by decide) ?_
  refine lv_icmp_gt (tgt := 11) hx hb dJ1_canEncode_fc78d_4 (by decide) (fun c1 => ?_) (fun c1 => ?_)
  · replace hq := i_t c1 hq
    refine lv_iconst (v := (0 : Int32)) hx hb dJ1_canEncode_fc78d_11 (by decide) ?_
    exact ge_Ri hx hb hlocks hr (by decide +kernel) hI hq dJ1_canEncode_fc78d_12
  · replace hq := i_f c1 hq
    refine lv_iconst (v := (1 : Int32)) hx hb dJ1_canEncode_fc78d_7 (by decide) ?_
    refine lv_goto (tgt := 12) hx hb dJ1_canEncode_fc78d_8 (by decide) ?_
    exact ge_Ri hx hb hlocks hr (by decide +kernel) hI hq dJ1_canEncode_fc78d_12

abbrev rm_J5_append_3fe6f : Room := { frames := 6, cells := 1, slots := 600, locals := 211 }
set_option maxHeartbeats 4000000 in
set_option maxRecDepth 100000 in
theorem c_J5_append_3fe6f (l : Launch) (V : Nat → Nat) (g : GH) (D : va_G) (cT : Nat → ClassId) (f : GH) (n : Nat) (a0 : Nat) (a1 : Int32) (o : Nat × GH × Nat) (hq : p_J5_append_3fe6f V g f n a0 a1 = some o) : Met l yJ5_append_3fe6f (Cond.code yJ5_append_3fe6f cJ5_append_3fe6f 2 (some (.object "java/lang/AbstractStringBuilder")) :: g_B) rm_J5_append_3fe6f (va_Pc [.ref a0, .int a1] (g_I V g D cT f n)) (g_Wr V D cT o.1 o.2.1 o.2.2) 1 600 (g_A V) := by
  refine g_begin (own := RJ5) [.ref a0, .int a1] [(0, .ref a0), (1, .int a1)] (g_A V) (fun _ h => h) (by decide) rfl (Nat.le_of_ble_eq_true rfl) rfl ?_
  intro p e s m args below meth c hx hb hr hlocks hin hC hI ls hl
  obtain ⟨hx, hb, hml, hown, hB⟩ := id hC
  obtain ⟨H, hH⟩ : ∃ H, H = s.heap := ⟨_, rfl⟩
  obtain ⟨locs, hlocs⟩ : ∃ L : List Loc, L = [] := ⟨_, rfl⟩
  rw [← hH, ← hlocs] at hI ⊢
  clear hH hlocs
  unfold p_J5_append_3fe6f at hq
  replace hq := (h_me_eq hq).2
  refine lv_aload_n hx hb dJ5_append_3fe6f_0 rfl (lv_at hl 0 rfl) ?_
  refine lv_aload_n hx hb dJ5_append_3fe6f_1 rfl (lv_at hl 0 rfl) ?_
  obtain ⟨v1, ev1, hq⟩ := b_s hq
  refine fa_gi (own := RJ5) (ref := "java/lang/AbstractStringBuilder") (k := 3) hx hb hB inB_RJ4 hown hI rfl (by decide) m_218 (fun _ h9 => h9) ev1 dJ5_append_3fe6f_2 ?_
  refine lv_iconst (v := (1 : Int32)) hx hb dJ5_append_3fe6f_5 (by decide) ?_
  refine lv_iadd hx hb dJ5_append_3fe6f_6 ?_
  obtain ⟨v2, ev2, hq⟩ := b_s hq
  refine gw_v (g_runU (As := [.int (v1 + (1 : Int32))]) (rest := []) (ci := 1) hC (c_J5_ensureCapacityInternal_d00df l V g D cT f n a0 (v1 + (1 : Int32)) v2 ev2) (⟨⟨m_1014, m_9⟩, m_1013, m_1268, mx_0, rfl, by decide, by decide, by decide +kernel⟩ : g_CU "java/lang/StringBuilder" "java/lang/AbstractStringBuilder" (⟨"java/lang/AbstractStringBuilder", "ensureCapacityInternal", "(I)V"⟩ : MethodName) yJ5_ensureCapacityInternal_d00df cJ5_ensureCapacityInternal_d00df 3 none 1) m_1011 rfl rfl ⟨Nat.le_of_ble_eq_true rfl, Nat.le_of_ble_eq_true rfl⟩ hI rfl rfl (h_me_eq ev2).1 rfl hl.1 rfl (Nat.le_of_ble_eq_true rfl) dJ5_append_3fe6f_7 ⟨by decide, by decide⟩) hI (fun H locs hI => ?_)
  refine lv_aload_n hx hb dJ5_append_3fe6f_10 rfl (lv_at hl 0 rfl) ?_
  obtain ⟨v3, ev3, hq⟩ := b_s hq
  refine gr_i (g_runU (As := []) (rest := []) (ci := 1) hC (c_J5_isLatin1_aae02 l V g D cT v2.1 v2.2 a0 v3 ev3) (⟨⟨m_1044, m_9⟩, m_1041, m_1042, m_1043, rfl, by decide, by decide, by decide +kernel⟩ : g_CU "java/lang/StringBuilder" "java/lang/AbstractStringBuilder" (⟨"java/lang/AbstractStringBuilder", "isLatin1", "()Z"⟩ : MethodName) yJ5_isLatin1_aae02 cJ5_isLatin1_aae02 1 (some .boolean) 0) m_1040 rfl rfl ⟨Nat.le_of_ble_eq_true rfl, Nat.le_of_ble_eq_true rfl⟩ hI rfl rfl (h_me_eq ev3).1 rfl hl.1 rfl (Nat.le_of_ble_eq_true rfl) dJ5_append_3fe6f_11 ⟨by decide, by decide⟩) hI (fun H locs hI => ?_)
  refine lv_if_eq (tgt := 45) hx hb dJ5_append_3fe6f_14 (by decide) (fun c4 => ?_) (fun c4 => ?_)
  · replace hq := i_t c4 hq
    cases hq
  · replace hq := i_f c4 hq
    refine lv_iload_n hx hb dJ5_append_3fe6f_17 rfl (lv_at hl 1 rfl) ?_
    obtain ⟨v5, ev5, hq⟩ := b_s hq
    refine gr_i (g_runS (As := [.int a1]) (rest := []) hC (c_J1_canEncode_fc78d l V g D cT v2.1 v2.2 a1 v5 ev5) k_J1_canEncode_fc78d m_1255 rfl rfl ⟨Nat.le_of_ble_eq_true rfl, Nat.le_of_ble_eq_true rfl⟩ hI rfl hl.1 rfl (Nat.le_of_ble_eq_true rfl) dJ5_append_3fe6f_18 ⟨by decide, by decide⟩) hI (fun H locs hI => ?_)
    refine lv_if_eq (tgt := 45) hx hb dJ5_append_3fe6f_21 (by decide) (fun c6 => ?_) (fun c6 => ?_)
    · replace hq := i_t c6 hq
      cases hq
    · replace hq := i_f c6 hq
      refine lv_aload_n hx hb dJ5_append_3fe6f_24 rfl (lv_at hl 0 rfl) ?_
      obtain ⟨v7, ev7, hq⟩ := b_s hq
      refine fa_gr (own := RJ5) (ref := "java/lang/AbstractStringBuilder") (k := 0) hx hb hB inB_RJ4 hown hI rfl (by decide) m_215 (fun _ h9 => h9) ev7 dJ5_append_3fe6f_25 ?_
      refine lv_aload_n hx hb dJ5_append_3fe6f_28 rfl (lv_at hl 0 rfl) ?_
      refine lv_dup hx hb dJ5_append_3fe6f_29 rfl ?_
      obtain ⟨v8, ev8, hq⟩ := b_s hq
      refine fa_gi (own := RJ5) (ref := "java/lang/AbstractStringBuilder") (k := 3) hx hb hB inB_RJ4 hown hI rfl (by decide) m_218 (fun _ h9 => h9) ev8 dJ5_append_3fe6f_30 ?_
      refine lv_dup_x1 hx hb dJ5_append_3fe6f_33 rfl rfl ?_
      refine lv_iconst (v := (1 : Int32)) hx hb dJ5_append_3fe6f_34 (by decide) ?_
      refine lv_iadd hx hb dJ5_append_3fe6f_35 ?_
      obtain ⟨f9, ef9, hq⟩ := b_s hq
      refine fa_pt (own := RJ5) (ref := "java/lang/AbstractStringBuilder") (k := 3) hx hb hB inB_RJ4 tyJ4_ok nmJ4 hown hI rfl (by decide) m_218 (fun _ h9 => h9) (by decide) rfl rfl ef9 dJ5_append_3fe6f_36 (fun H locs hI => ?_)
      refine lv_iload_n hx hb dJ5_append_3fe6f_39 rfl (lv_at hl 1 rfl) ?_
      refine lv_i2b (v := a1.toInt8.toInt32) hx hb dJ5_append_3fe6f_40 rfl ?_
      obtain ⟨f10, ef10, hq⟩ := b_s hq
      refine fa_sb hx hb hI ef10 dJ5_append_3fe6f_41 (fun H locs hI => ?_)
      refine lv_goto (tgt := 75) hx hb dJ5_append_3fe6f_42 (by decide) ?_
      refine lv_aload_n hx hb dJ5_append_3fe6f_75 rfl (lv_at hl 0 rfl) ?_
      obtain rfl := Option.some.inj hq
      exact ge_Wr hx hb hlocks hr (Or.inl ⟨_, rfl⟩) hI rfl rfl dJ5_append_3fe6f_76

abbrev rm_J6_getChars_ba4f3 : Room := { frames := 2, cells := 0, slots := 0, locals := 120 }
theorem k_J6_getChars_ba4f3 : g_CS yJ6_getChars_ba4f3 cJ6_getChars_ba4f3 7 (some .int) 3 := ⟨⟨m_1107, m_19, by decide +kernel⟩, m_1106⟩
set_option maxHeartbeats 4000000 in
set_option maxRecDepth 100000 in
theorem c_J6_getChars_ba4f3 (l : Launch) (V : Nat → Nat) (g : GH) (D : va_G) (cT : Nat → ClassId) (f : GH) (n : Nat) (a0 : Int32) (a1 : Int32) (a2 : Nat) (o : Int32 × GH) (hq : p_J6_getChars_ba4f3 V g f a0 a1 a2 = some o) : Met l yJ6_getChars_ba4f3 (Cond.code yJ6_getChars_ba4f3 cJ6_getChars_ba4f3 7 (some .int) :: g_B) rm_J6_getChars_ba4f3 (va_Pc [.int a0, .int a1, .ref a2] (g_I V g D cT f n)) (g_Wi V D cT o.1 o.2 n) 0 0 (g_A V) := by
  refine g_begin (own := RJ6) [.int a0, .int a1, .ref a2] [(0, .int a0), (1, .int a1), (2, .ref a2)] (g_A V) (fun _ h => h) (by decide) rfl (Nat.le_of_ble_eq_true rfl) rfl ?_
  intro p e s m args below meth c hx hb hr hlocks hin hC hI ls hl
  obtain ⟨hx, hb, hml, hown, hB⟩ := id hC
  obtain ⟨H, hH⟩ : ∃ H, H = s.heap := ⟨_, rfl⟩
  obtain ⟨locs, hlocs⟩ : ∃ L : List Loc, L = [] := ⟨_, rfl⟩
  rw [← hH, ← hlocs] at hI ⊢
  clear hH hlocs
  unfold p_J6_getChars_ba4f3 at hq
  refine lv_iload_n hx hb dJ6_getChars_ba4f3_0 rfl (lv_at hl 1 rfl) ?_
  refine lv_istore (lv' := [(5, .int a1), (0, .int a0), (1, .int a1), (2, .ref a2)]) hx hb dJ6_getChars_ba4f3_1 hl (by decide) rfl (fun ls hl => ?_)
  refine lv_iload_n hx hb dJ6_getChars_ba4f3_3 rfl (lv_at hl 1 rfl) ?_
  have hj12 : ∀ (x0 : Int32) (x2 : Nat) (x5 : Int32) (t0 : Int32) (f : GH) (H : Heap) (locs : List Loc) (ls : Array Slot), g_at (g_A V) V g D cT f n s H locs → lv_has ls 7 [(0, .int x0), (2, .ref x2), (5, .int x5)] → p_J6_getChars_ba4f3_j12 V g x0 x2 x5 t0 f = some o → W p l e rm_J6_getChars_ba4f3 s m args below meth c H locs 0 0 (MQ below (g_Wi V D cT o.1 o.2 n) args s 0 0 (g_A V)) (F0 m 12 ls [.int t0]) := by
    intro x0 x2 x5 t0 f H locs ls hI hl hq
    unfold p_J6_getChars_ba4f3_j12 at hq
    refine lv_istore (lv' := [(6, .int t0), (0, .int x0), (2, .ref x2), (5, .int x5)]) hx hb dJ6_getChars_ba4f3_12 hl (by decide) rfl (fun ls hl => ?_)
    refine lv_iload hx hb dJ6_getChars_ba4f3_14 (lv_at hl 0 rfl) ?_
    refine lv_if_ne (tgt := 22) hx hb dJ6_getChars_ba4f3_16 (by decide) (fun c1 => ?_) (fun c1 => ?_)
    · replace hq := i_f c1 hq
      have hl22 : ∀ (K72 : Int32 → Nat → Int32 → Int32 → GH → Option (Int32 × GH)) (hK72 : ∀ (x0 : Int32) (x2 : Nat) (x5 : Int32) (x6 : Int32) (f : GH) (H : Heap) (locs : List Loc) (ls : Array Slot), g_at (g_A V) V g D cT f n s H locs → lv_has ls 7 [(0, .int x0), (2, .ref x2), (5, .int x5), (6, .int x6)] → K72 x0 x2 x5 x6 f = some o → W p l e rm_J6_getChars_ba4f3 s m args below meth c H locs 0 0 (MQ below (g_Wi V D cT o.1 o.2 n) args s 0 0 (g_A V)) (F0 m 72 ls [])) (N : Nat) (x0 : Int32) (x2 : Nat) (x5 : Int32) (x6 : Int32) (f : GH) (H : Heap) (locs : List Loc) (ls : Array Slot), g_at (g_A V) V g D cT f n s H locs → lv_has ls 7 [(0, .int x0), (2, .ref x2), (5, .int x5), (6, .int x6)] → p_J6_getChars_ba4f3_l22 V g K72 N x0 x2 x5 x6 f = some o → W p l e rm_J6_getChars_ba4f3 s m args below meth c H locs 0 0 (MQ below (g_Wi V D cT o.1 o.2 n) args s 0 0 (g_A V)) (F0 m 22 ls []) := by
        intro K72 hK72 N
        induction N with
        | zero =>
          intro x0 x2 x5 x6 f H locs ls hI hl hq
          rw [p_J6_getChars_ba4f3_l22] at hq
          cases hq
        | succ N ih =>
          intro x0 x2 x5 x6 f H locs ls hI hl hq
          rw [p_J6_getChars_ba4f3_l22] at hq
          refine lv_iload_n hx hb dJ6_getChars_ba4f3_22 rfl (lv_at hl 0 rfl) ?_
          refine lv_bipush (v := (-100 : Int32)) hx hb dJ6_getChars_ba4f3_23 (by decide) ?_
          refine lv_icmp_gt (tgt := 72) hx hb dJ6_getChars_ba4f3_25 (by decide) (fun c2 => ?_) (fun c2 => ?_)
          · replace hq := i_t c2 hq
            exact hK72 x0 x2 x5 x6 f H locs ls hI (lv_sub hl [0, 1, 2, 3] rfl) hq
          · replace hq := i_f c2 hq
            refine lv_iload_n hx hb dJ6_getChars_ba4f3_28 rfl (lv_at hl 0 rfl) ?_
            refine lv_bipush (v := (100 : Int32)) hx hb dJ6_getChars_ba4f3_29 (by decide) ?_
            refine lv_idiv hx hb dJ6_getChars_ba4f3_31 (by decide) ?_
            refine lv_istore_n (lv' := [(3, .int (x0 / (100 : Int32))), (0, .int x0), (2, .ref x2), (5, .int x5), (6, .int x6)]) hx hb dJ6_getChars_ba4f3_32 rfl hl (by decide) rfl (fun ls hl => ?_)
            refine lv_iload_n hx hb dJ6_getChars_ba4f3_33 rfl (lv_at hl 0 rfl) ?_
            refine lv_bipush (v := (100 : Int32)) hx hb dJ6_getChars_ba4f3_34 (by decide) ?_
            refine lv_imul hx hb dJ6_getChars_ba4f3_36 ?_
            refine lv_iload_n hx hb dJ6_getChars_ba4f3_37 rfl (lv_at hl 1 rfl) ?_
            refine lv_isub hx hb dJ6_getChars_ba4f3_38 ?_
            refine lv_istore (lv' := [(4, .int (((x0 / (100 : Int32)) * (100 : Int32)) - x0)), (3, .int (x0 / (100 : Int32))), (0, .int x0), (2, .ref x2), (5, .int x5), (6, .int x6)]) hx hb dJ6_getChars_ba4f3_39 hl (by decide) rfl (fun ls hl => ?_)
            refine lv_iload_n hx hb dJ6_getChars_ba4f3_41 rfl (lv_at hl 1 rfl) ?_
            refine lv_istore_n (lv' := [(0, .int (x0 / (100 : Int32))), (4, .int (((x0 / (100 : Int32)) * (100 : Int32)) - x0)), (3, .int (x0 / (100 : Int32))), (2, .ref x2), (5, .int x5), (6, .int x6)]) hx hb dJ6_getChars_ba4f3_42 rfl hl (by decide) rfl (fun ls hl => ?_)
            refine lv_aload_n hx hb dJ6_getChars_ba4f3_43 rfl (lv_at hl 3 rfl) ?_
            refine lv_iinc (v := x5 + (-1 : Int32)) (lv' := [(5, .int (x5 + (-1 : Int32))), (0, .int (x0 / (100 : Int32))), (4, .int (((x0 / (100 : Int32)) * (100 : Int32)) - x0)), (3, .int (x0 / (100 : Int32))), (2, .ref x2), (6, .int x6)]) hx hb dJ6_getChars_ba4f3_44 hl (k := 4) rfl rfl (by decide) rfl (fun ls hl => ?_)
            refine lv_iload hx hb dJ6_getChars_ba4f3_47 (lv_at hl 0 rfl) ?_
            refine fs_gs (i := 16) hx hb hown hI rfl (hB _ m_1108) (fun _ h9 => h9) dJ6_getChars_ba4f3_49 ?_
            refine lv_iload hx hb dJ6_getChars_ba4f3_52 (lv_at hl 2 rfl) ?_
            obtain ⟨v3, ev3, hq⟩ := b_s hq
            refine fs_lb hx hb hI ev3 dJ6_getChars_ba4f3_54 ?_
            obtain ⟨f4, ef4, hq⟩ := b_s hq
            refine fa_sb hx hb hI ef4 dJ6_getChars_ba4f3_55 (fun H locs hI => ?_)
            refine lv_aload_n hx hb dJ6_getChars_ba4f3_56 rfl (lv_at hl 4 rfl) ?_
            refine lv_iinc (v := (x5 + (-1 : Int32)) + (-1 : Int32)) (lv' := [(5, .int ((x5 + (-1 : Int32)) + (-1 : Int32))), (0, .int (x0 / (100 : Int32))), (4, .int (((x0 / (100 : Int32)) * (100 : Int32)) - x0)), (3, .int (x0 / (100 : Int32))), (2, .ref x2), (6, .int x6)]) hx hb dJ6_getChars_ba4f3_57 hl (k := 0) rfl rfl (by decide) rfl (fun ls hl => ?_)
            refine lv_iload hx hb dJ6_getChars_ba4f3_60 (lv_at hl 0 rfl) ?_
            refine fs_gs (i := 17) hx hb hown hI rfl (hB _ m_1110) (fun _ h9 => h9) dJ6_getChars_ba4f3_62 ?_
            refine lv_iload hx hb dJ6_getChars_ba4f3_65 (lv_at hl 2 rfl) ?_
            obtain ⟨v5, ev5, hq⟩ := b_s hq
            refine fs_lb hx hb hI ev5 dJ6_getChars_ba4f3_67 ?_
            obtain ⟨f6, ef6, hq⟩ := b_s hq
            refine fa_sb hx hb hI ef6 dJ6_getChars_ba4f3_68 (fun H locs hI => ?_)
            refine lv_goto (tgt := 22) hx hb dJ6_getChars_ba4f3_69 (by decide) ?_
            exact ih (x0 / (100 : Int32)) x2 ((x5 + (-1 : Int32)) + (-1 : Int32)) x6 f6 H locs ls hI (lv_sub hl [1, 4, 0, 5] rfl) hq
      refine hl22 _ ?_ FU x0 x2 x5 t0 f H locs ls hI (lv_sub hl [1, 2, 3, 0] rfl) hq
      · intro x0 x2 x5 x6 f H locs ls hI hl hq
        refine lv_aload_n hx hb dJ6_getChars_ba4f3_72 rfl (lv_at hl 1 rfl) ?_
        refine lv_iinc (v := x5 + (-1 : Int32)) (lv' := [(5, .int (x5 + (-1 : Int32))), (0, .int x0), (2, .ref x2), (6, .int x6)]) hx hb dJ6_getChars_ba4f3_73 hl (k := 2) rfl rfl (by decide) rfl (fun ls hl => ?_)
        refine lv_iload hx hb dJ6_getChars_ba4f3_76 (lv_at hl 0 rfl) ?_
        refine fs_gs (i := 16) hx hb hown hI rfl (hB _ m_1108) (fun _ h9 => h9) dJ6_getChars_ba4f3_78 ?_
        refine lv_iload_n hx hb dJ6_getChars_ba4f3_81 rfl (lv_at hl 1 rfl) ?_
        refine lv_ineg hx hb dJ6_getChars_ba4f3_82 ?_
        obtain ⟨v7, ev7, hq⟩ := b_s hq
        refine fs_lb hx hb hI ev7 dJ6_getChars_ba4f3_83 ?_
        obtain ⟨f8, ef8, hq⟩ := b_s hq
        refine fa_sb hx hb hI ef8 dJ6_getChars_ba4f3_84 (fun H locs hI => ?_)
        refine lv_iload_n hx hb dJ6_getChars_ba4f3_85 rfl (lv_at hl 1 rfl) ?_
        refine lv_bipush (v := (-9 : Int32)) hx hb dJ6_getChars_ba4f3_86 (by decide) ?_
        have hj104 : ∀ (x2 : Nat) (x5 : Int32) (x6 : Int32) (f : GH) (H : Heap) (locs : List Loc) (ls : Array Slot), g_at (g_A V) V g D cT f n s H locs → lv_has ls 7 [(2, .ref x2), (5, .int x5), (6, .int x6)] → p_J6_getChars_ba4f3_j104 V g x2 x5 x6 f = some o → W p l e rm_J6_getChars_ba4f3 s m args below meth c H locs 0 0 (MQ below (g_Wi V D cT o.1 o.2 n) args s 0 0 (g_A V)) (F0 m 104 ls []) := by
          intro x2 x5 x6 f H locs ls hI hl hq
          unfold p_J6_getChars_ba4f3_j104 at hq
          refine lv_iload hx hb dJ6_getChars_ba4f3_104 (lv_at hl 2 rfl) ?_
          refine lv_if_eq (tgt := 118) hx hb dJ6_getChars_ba4f3_106 (by decide) (fun c9 => ?_) (fun c9 => ?_)
          · replace hq := i_t c9 hq
            refine lv_iload hx hb dJ6_getChars_ba4f3_118 (lv_at hl 1 rfl) ?_
            exact ge_Wi hx hb hlocks hr rfl hI (congrArg (fun z => z.1) (Option.some.inj hq)) (congrArg (fun z => z.2) (Option.some.inj hq)) dJ6_getChars_ba4f3_120
          · replace hq := i_f c9 hq
            refine lv_aload_n hx hb dJ6_getChars_ba4f3_109 rfl (lv_at hl 0 rfl) ?_
            refine lv_iinc (v := x5 + (-1 : Int32)) (lv' := [(5, .int (x5 + (-1 : Int32))), (2, .ref x2), (6, .int x6)]) hx hb dJ6_getChars_ba4f3_110 hl (k := 1) rfl rfl (by decide) rfl (fun ls hl => ?_)
            refine lv_iload hx hb dJ6_getChars_ba4f3_113 (lv_at hl 0 rfl) ?_
            refine lv_bipush (v := (45 : Int32)) hx hb dJ6_getChars_ba4f3_115 (by decide) ?_
            obtain ⟨f10, ef10, hq⟩ := b_s hq
            refine fa_sb hx hb hI ef10 dJ6_getChars_ba4f3_117 (fun H locs hI => ?_)
            refine lv_iload hx hb dJ6_getChars_ba4f3_118 (lv_at hl 0 rfl) ?_
            exact ge_Wi hx hb hlocks hr rfl hI (congrArg (fun z => z.1) (Option.some.inj hq)) (congrArg (fun z => z.2) (Option.some.inj hq)) dJ6_getChars_ba4f3_120
        refine lv_icmp_ge (tgt := 104) hx hb dJ6_getChars_ba4f3_88 (by decide) (fun c11 => ?_) (fun c11 => ?_)
        · replace hq := i_t c11 hq
          exact hj104 x2 (x5 + (-1 : Int32)) x6 f8 H locs ls hI (lv_sub hl [2, 0, 3] rfl) hq
        · replace hq := i_f c11 hq
          refine lv_aload_n hx hb dJ6_getChars_ba4f3_91 rfl (lv_at hl 2 rfl) ?_
          refine lv_iinc (v := (x5 + (-1 : Int32)) + (-1 : Int32)) (lv' := [(5, .int ((x5 + (-1 : Int32)) + (-1 : Int32))), (0, .int x0), (2, .ref x2), (6, .int x6)]) hx hb dJ6_getChars_ba4f3_92 hl (k := 0) rfl rfl (by decide) rfl (fun ls hl => ?_)
          refine lv_iload hx hb dJ6_getChars_ba4f3_95 (lv_at hl 0 rfl) ?_
          refine fs_gs (i := 17) hx hb hown hI rfl (hB _ m_1110) (fun _ h9 => h9) dJ6_getChars_ba4f3_97 ?_
          refine lv_iload_n hx hb dJ6_getChars_ba4f3_100 rfl (lv_at hl 1 rfl) ?_
          refine lv_ineg hx hb dJ6_getChars_ba4f3_101 ?_
          obtain ⟨v12, ev12, hq⟩ := b_s hq
          refine fs_lb hx hb hI ev12 dJ6_getChars_ba4f3_102 ?_
          obtain ⟨f13, ef13, hq⟩ := b_s hq
          refine fa_sb hx hb hI ef13 dJ6_getChars_ba4f3_103 (fun H locs hI => ?_)
          exact hj104 x2 ((x5 + (-1 : Int32)) + (-1 : Int32)) x6 f13 H locs ls hI (lv_sub hl [2, 0, 3] rfl) hq
    · replace hq := i_t c1 hq
      refine lv_iload_n hx hb dJ6_getChars_ba4f3_19 rfl (lv_at hl 1 rfl) ?_
      refine lv_ineg hx hb dJ6_getChars_ba4f3_20 ?_
      refine lv_istore_n (lv' := [(0, .int (-x0)), (6, .int t0), (2, .ref x2), (5, .int x5)]) hx hb dJ6_getChars_ba4f3_21 rfl hl (by decide) rfl (fun ls hl => ?_)
      have hl22 : ∀ (K72 : Int32 → Nat → Int32 → Int32 → GH → Option (Int32 × GH)) (hK72 : ∀ (x0 : Int32) (x2 : Nat) (x5 : Int32) (x6 : Int32) (f : GH) (H : Heap) (locs : List Loc) (ls : Array Slot), g_at (g_A V) V g D cT f n s H locs → lv_has ls 7 [(0, .int x0), (2, .ref x2), (5, .int x5), (6, .int x6)] → K72 x0 x2 x5 x6 f = some o → W p l e rm_J6_getChars_ba4f3 s m args below meth c H locs 0 0 (MQ below (g_Wi V D cT o.1 o.2 n) args s 0 0 (g_A V)) (F0 m 72 ls [])) (N : Nat) (x0 : Int32) (x2 : Nat) (x5 : Int32) (x6 : Int32) (f : GH) (H : Heap) (locs : List Loc) (ls : Array Slot), g_at (g_A V) V g D cT f n s H locs → lv_has ls 7 [(0, .int x0), (2, .ref x2), (5, .int x5), (6, .int x6)] → p_J6_getChars_ba4f3_l22 V g K72 N x0 x2 x5 x6 f = some o → W p l e rm_J6_getChars_ba4f3 s m args below meth c H locs 0 0 (MQ below (g_Wi V D cT o.1 o.2 n) args s 0 0 (g_A V)) (F0 m 22 ls []) := by
        intro K72 hK72 N
        induction N with
        | zero =>
          intro x0 x2 x5 x6 f H locs ls hI hl hq
          rw [p_J6_getChars_ba4f3_l22] at hq
          cases hq
        | succ N ih =>
          intro x0 x2 x5 x6 f H locs ls hI hl hq
          rw [p_J6_getChars_ba4f3_l22] at hq
          refine lv_iload_n hx hb dJ6_getChars_ba4f3_22 rfl (lv_at hl 0 rfl) ?_
          refine lv_bipush (v := (-100 : Int32)) hx hb dJ6_getChars_ba4f3_23 (by decide) ?_
          refine lv_icmp_gt (tgt := 72) hx hb dJ6_getChars_ba4f3_25 (by decide) (fun c14 => ?_) (fun c14 => ?_)
          · replace hq := i_t c14 hq
            exact hK72 x0 x2 x5 x6 f H locs ls hI (lv_sub hl [0, 1, 2, 3] rfl) hq
          · replace hq := i_f c14 hq
            refine lv_iload_n hx hb dJ6_getChars_ba4f3_28 rfl (lv_at hl 0 rfl) ?_
            refine lv_bipush (v := (100 : Int32)) hx hb dJ6_getChars_ba4f3_29 (by decide) ?_
            refine lv_idiv hx hb dJ6_getChars_ba4f3_31 (by decide) ?_
            refine lv_istore_n (lv' := [(3, .int (x0 / (100 : Int32))), (0, .int x0), (2, .ref x2), (5, .int x5), (6, .int x6)]) hx hb dJ6_getChars_ba4f3_32 rfl hl (by decide) rfl (fun ls hl => ?_)
            refine lv_iload_n hx hb dJ6_getChars_ba4f3_33 rfl (lv_at hl 0 rfl) ?_
            refine lv_bipush (v := (100 : Int32)) hx hb dJ6_getChars_ba4f3_34 (by decide) ?_
            refine lv_imul hx hb dJ6_getChars_ba4f3_36 ?_
            refine lv_iload_n hx hb dJ6_getChars_ba4f3_37 rfl (lv_at hl 1 rfl) ?_
            refine lv_isub hx hb dJ6_getChars_ba4f3_38 ?_
            refine lv_istore (lv' := [(4, .int (((x0 / (100 : Int32)) * (100 : Int32)) - x0)), (3, .int (x0 / (100 : Int32))), (0, .int x0), (2, .ref x2), (5, .int x5), (6, .int x6)]) hx hb dJ6_getChars_ba4f3_39 hl (by decide) rfl (fun ls hl => ?_)
            refine lv_iload_n hx hb dJ6_getChars_ba4f3_41 rfl (lv_at hl 1 rfl) ?_
            refine lv_istore_n (lv' := [(0, .int (x0 / (100 : Int32))), (4, .int (((x0 / (100 : Int32)) * (100 : Int32)) - x0)), (3, .int (x0 / (100 : Int32))), (2, .ref x2), (5, .int x5), (6, .int x6)]) hx hb dJ6_getChars_ba4f3_42 rfl hl (by decide) rfl (fun ls hl => ?_)
            refine lv_aload_n hx hb dJ6_getChars_ba4f3_43 rfl (lv_at hl 3 rfl) ?_
            refine lv_iinc (v := x5 + (-1 : Int32)) (lv' := [(5, .int (x5 + (-1 : Int32))), (0, .int (x0 / (100 : Int32))), (4, .int (((x0 / (100 : Int32)) * (100 : Int32)) - x0)), (3, .int (x0 / (100 : Int32))), (2, .ref x2), (6, .int x6)]) hx hb dJ6_getChars_ba4f3_44 hl (k := 4) rfl rfl (by decide) rfl (fun ls hl => ?_)
            refine lv_iload hx hb dJ6_getChars_ba4f3_47 (lv_at hl 0 rfl) ?_
            refine fs_gs (i := 16) hx hb hown hI rfl (hB _ m_1108) (fun _ h9 => h9) dJ6_getChars_ba4f3_49 ?_
            refine lv_iload hx hb dJ6_getChars_ba4f3_52 (lv_at hl 2 rfl) ?_
            obtain ⟨v15, ev15, hq⟩ := b_s hq
            refine fs_lb hx hb hI ev15 dJ6_getChars_ba4f3_54 ?_
            obtain ⟨f16, ef16, hq⟩ := b_s hq
            refine fa_sb hx hb hI ef16 dJ6_getChars_ba4f3_55 (fun H locs hI => ?_)
            refine lv_aload_n hx hb dJ6_getChars_ba4f3_56 rfl (lv_at hl 4 rfl) ?_
            refine lv_iinc (v := (x5 + (-1 : Int32)) + (-1 : Int32)) (lv' := [(5, .int ((x5 + (-1 : Int32)) + (-1 : Int32))), (0, .int (x0 / (100 : Int32))), (4, .int (((x0 / (100 : Int32)) * (100 : Int32)) - x0)), (3, .int (x0 / (100 : Int32))), (2, .ref x2), (6, .int x6)]) hx hb dJ6_getChars_ba4f3_57 hl (k := 0) rfl rfl (by decide) rfl (fun ls hl => ?_)
            refine lv_iload hx hb dJ6_getChars_ba4f3_60 (lv_at hl 0 rfl) ?_
            refine fs_gs (i := 17) hx hb hown hI rfl (hB _ m_1110) (fun _ h9 => h9) dJ6_getChars_ba4f3_62 ?_
            refine lv_iload hx hb dJ6_getChars_ba4f3_65 (lv_at hl 2 rfl) ?_
            obtain ⟨v17, ev17, hq⟩ := b_s hq
            refine fs_lb hx hb hI ev17 dJ6_getChars_ba4f3_67 ?_
            obtain ⟨f18, ef18, hq⟩ := b_s hq
            refine fa_sb hx hb hI ef18 dJ6_getChars_ba4f3_68 (fun H locs hI => ?_)
            refine lv_goto (tgt := 22) hx hb dJ6_getChars_ba4f3_69 (by decide) ?_
            exact ih (x0 / (100 : Int32)) x2 ((x5 + (-1 : Int32)) + (-1 : Int32)) x6 f18 H locs ls hI (lv_sub hl [1, 4, 0, 5] rfl) hq
      refine hl22 _ ?_ FU (-x0) x2 x5 t0 f H locs ls hI (lv_sub hl [0, 2, 3, 1] rfl) hq
      · intro x0 x2 x5 x6 f H locs ls hI hl hq
        refine lv_aload_n hx hb dJ6_getChars_ba4f3_72 rfl (lv_at hl 1 rfl) ?_
        refine lv_iinc (v := x5 + (-1 : Int32)) (lv' := [(5, .int (x5 + (-1 : Int32))), (0, .int x0), (2, .ref x2), (6, .int x6)]) hx hb dJ6_getChars_ba4f3_73 hl (k := 2) rfl rfl (by decide) rfl (fun ls hl => ?_)
        refine lv_iload hx hb dJ6_getChars_ba4f3_76 (lv_at hl 0 rfl) ?_
        refine fs_gs (i := 16) hx hb hown hI rfl (hB _ m_1108) (fun _ h9 => h9) dJ6_getChars_ba4f3_78 ?_
        refine lv_iload_n hx hb dJ6_getChars_ba4f3_81 rfl (lv_at hl 1 rfl) ?_
        refine lv_ineg hx hb dJ6_getChars_ba4f3_82 ?_
        obtain ⟨v19, ev19, hq⟩ := b_s hq
        refine fs_lb hx hb hI ev19 dJ6_getChars_ba4f3_83 ?_
        obtain ⟨f20, ef20, hq⟩ := b_s hq
        refine fa_sb hx hb hI ef20 dJ6_getChars_ba4f3_84 (fun H locs hI => ?_)
        refine lv_iload_n hx hb dJ6_getChars_ba4f3_85 rfl (lv_at hl 1 rfl) ?_
        refine lv_bipush (v := (-9 : Int32)) hx hb dJ6_getChars_ba4f3_86 (by decide) ?_
        have hj104 : ∀ (x2 : Nat) (x5 : Int32) (x6 : Int32) (f : GH) (H : Heap) (locs : List Loc) (ls : Array Slot), g_at (g_A V) V g D cT f n s H locs → lv_has ls 7 [(2, .ref x2), (5, .int x5), (6, .int x6)] → p_J6_getChars_ba4f3_j104 V g x2 x5 x6 f = some o → W p l e rm_J6_getChars_ba4f3 s m args below meth c H locs 0 0 (MQ below (g_Wi V D cT o.1 o.2 n) args s 0 0 (g_A V)) (F0 m 104 ls []) := by
          intro x2 x5 x6 f H locs ls hI hl hq
          unfold p_J6_getChars_ba4f3_j104 at hq
          refine lv_iload hx hb dJ6_getChars_ba4f3_104 (lv_at hl 2 rfl) ?_
          refine lv_if_eq (tgt := 118) hx hb dJ6_getChars_ba4f3_106 (by decide) (fun c21 => ?_) (fun c21 => ?_)
          · replace hq := i_t c21 hq
            refine lv_iload hx hb dJ6_getChars_ba4f3_118 (lv_at hl 1 rfl) ?_
            exact ge_Wi hx hb hlocks hr rfl hI (congrArg (fun z => z.1) (Option.some.inj hq)) (congrArg (fun z => z.2) (Option.some.inj hq)) dJ6_getChars_ba4f3_120
          · replace hq := i_f c21 hq
            refine lv_aload_n hx hb dJ6_getChars_ba4f3_109 rfl (lv_at hl 0 rfl) ?_
            refine lv_iinc (v := x5 + (-1 : Int32)) (lv' := [(5, .int (x5 + (-1 : Int32))), (2, .ref x2), (6, .int x6)]) hx hb dJ6_getChars_ba4f3_110 hl (k := 1) rfl rfl (by decide) rfl (fun ls hl => ?_)
            refine lv_iload hx hb dJ6_getChars_ba4f3_113 (lv_at hl 0 rfl) ?_
            refine lv_bipush (v := (45 : Int32)) hx hb dJ6_getChars_ba4f3_115 (by decide) ?_
            obtain ⟨f22, ef22, hq⟩ := b_s hq
            refine fa_sb hx hb hI ef22 dJ6_getChars_ba4f3_117 (fun H locs hI => ?_)
            refine lv_iload hx hb dJ6_getChars_ba4f3_118 (lv_at hl 0 rfl) ?_
            exact ge_Wi hx hb hlocks hr rfl hI (congrArg (fun z => z.1) (Option.some.inj hq)) (congrArg (fun z => z.2) (Option.some.inj hq)) dJ6_getChars_ba4f3_120
        refine lv_icmp_ge (tgt := 104) hx hb dJ6_getChars_ba4f3_88 (by decide) (fun c23 => ?_) (fun c23 => ?_)
        · replace hq := i_t c23 hq
          exact hj104 x2 (x5 + (-1 : Int32)) x6 f20 H locs ls hI (lv_sub hl [2, 0, 3] rfl) hq
        · replace hq := i_f c23 hq
          refine lv_aload_n hx hb dJ6_getChars_ba4f3_91 rfl (lv_at hl 2 rfl) ?_
          refine lv_iinc (v := (x5 + (-1 : Int32)) + (-1 : Int32)) (lv' := [(5, .int ((x5 + (-1 : Int32)) + (-1 : Int32))), (0, .int x0), (2, .ref x2), (6, .int x6)]) hx hb dJ6_getChars_ba4f3_92 hl (k := 0) rfl rfl (by decide) rfl (fun ls hl => ?_)
          refine lv_iload hx hb dJ6_getChars_ba4f3_95 (lv_at hl 0 rfl) ?_
          refine fs_gs (i := 17) hx hb hown hI rfl (hB _ m_1110) (fun _ h9 => h9) dJ6_getChars_ba4f3_97 ?_
          refine lv_iload_n hx hb dJ6_getChars_ba4f3_100 rfl (lv_at hl 1 rfl) ?_
          refine lv_ineg hx hb dJ6_getChars_ba4f3_101 ?_
          obtain ⟨v24, ev24, hq⟩ := b_s hq
          refine fs_lb hx hb hI ev24 dJ6_getChars_ba4f3_102 ?_
          obtain ⟨f25, ef25, hq⟩ := b_s hq
          refine fa_sb hx hb hI ef25 dJ6_getChars_ba4f3_103 (fun H locs hI => ?_)
          exact hj104 x2 ((x5 + (-1 : Int32)) + (-1 : Int32)) x6 f25 H locs ls hI (lv_sub hl [2, 0, 3] rfl) hq
  refine lv_if_ge (tgt := 11) hx hb dJ6_getChars_ba4f3_4 (by decide) (fun c26 => ?_) (fun c26 => ?_)
  · replace hq := i_t c26 hq
    refine lv_iconst (v := (0 : Int32)) hx hb dJ6_getChars_ba4f3_11 (by decide) ?_
    exact hj12 a0 a2 a1 (0 : Int32) f H locs ls hI (lv_sub hl [1, 3, 0] rfl) hq
  · replace hq := i_f c26 hq
    refine lv_iconst (v := (1 : Int32)) hx hb dJ6_getChars_ba4f3_7 (by decide) ?_
    refine lv_goto (tgt := 12) hx hb dJ6_getChars_ba4f3_8 (by decide) ?_
    exact hj12 a0 a2 a1 (1 : Int32) f H locs ls hI (lv_sub hl [1, 3, 0] rfl) hq


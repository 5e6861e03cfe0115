abbrev rm_L_loadMap : Room := { frames := 11, cells := 1, slots := 6, locals := 316 }
set_option maxHeartbeats 4000000 in
set_option maxRecDepth 100000 in
theorem c_L_loadMap (l : Launch) (hl0 : l.stackTraces = false) (V : Nat → Nat) (g : GH) (D : va_G) (cT : Nat → ClassId) (f : GH) (n : Nat) (a0 : Nat) (a1 : Int32) (a2 : Nat) (o : Int32 × GH) (hq : p_L_loadMap V g f a0 a1 a2 = some o) : Met l yL_loadMap (Cond.codeWith yL_loadMap cL_loadMap 4 (some .int) [(0, 9, 12, 13)] :: g_B) rm_L_loadMap (va_Pc [.ref a0, .int a1, .ref a2] (g_I V g D cT f n)) (g_Wn V D cT o n) 1 6 (g_A V) := by
  refine gh_begin (own := RL) [.ref a0, .int a1, .ref a2] [(0, .ref a0), (1, .int a1), (2, .ref a2)] (by decide) rfl (Nat.le_of_ble_eq_true rfl) rfl ?_
  intro p e s m args below meth c hx hb hr hlocks hC ht hI ls hl
  obtain ⟨hx, hb, hml, hown, hB⟩ := id hC
  have hn0 : s.heap.size = n := hI.1
  obtain ⟨H, hH⟩ : ∃ H, H = s.heap := ⟨_, rfl⟩
  obtain ⟨locs, hlocs⟩ : ∃ L : List Loc, L = [] := ⟨_, rfl⟩
  rw [← hH, ← hlocs] at hI ⊢
  clear hH hlocs
  unfold p_L_loadMap at hq
  refine lv_aload_n hx hb dL_loadMap_0 rfl (lv_at hl 2 rfl) ?_
  refine lv_iconst (v := (0 : Int32)) hx hb dL_loadMap_1 (by decide) ?_
  refine lv_aload_n hx hb dL_loadMap_2 rfl (lv_at hl 0 rfl) ?_
  refine lv_iload_n hx hb dL_loadMap_3 rfl (lv_at hl 1 rfl) ?_
  split at hq
  · cases hq
  · rename_i z hz
    by_cases hz0 : z.1 = 1
    · obtain ⟨z, fz⟩ := z
      dsimp only at hz0
      subst hz0
      replace hq := i_t rfl hq
      refine gh_cW (name := "java/lang/IllegalArgumentException") (g_runVX (As := [.int a1]) (rest := [.int (0 : Int32), .ref a2]) (ci := 9) hC (c_X7_loadMap l hl0 V g D cT f n a0 a1 (.inl (1, fz)) hz) k_X7_loadMap m_610 rfl rfl ⟨Nat.le_of_ble_eq_true rfl, Nat.le_of_ble_eq_true rfl⟩ hI rfl rfl (h_me_eq hz).1 rfl hl.1 rfl (Nat.le_of_ble_eq_true rfl) dL_loadMap_4 ⟨by decide, by decide⟩) noy_i hI hown [] ⟨0, 9, 12, 13⟩ [] (by rw [ht]; rfl) (fun _ h => nomatch h) (by decide) (by decide) (hB _ m_609) (gh_ca hI (i := 5) (a := "java/lang/IllegalArgumentException") (b := "java/lang/IllegalArgumentException") rfl) (fun H locs q9 hI => ?_)
      refine lv_astore_n (lv' := [(3, .ref q9), (0, .ref a0), (1, .int a1), (2, .ref a2)]) hx hb dL_loadMap_12 rfl hl (by decide) rfl (fun ls hl => ?_)
      refine lv_iconst (v := (1 : Int32)) hx hb dL_loadMap_13 (by decide) ?_
      refine W.widen (k := 1) (n := 6) (by decide) (by decide) ?_
      exact ge_Ni hx hb hlocks hr hn0 hI hq dL_loadMap_14
    · replace hq := i_f hz0 hq
      cases hq
  · rename_i v hz
    obtain ⟨v, vf⟩ := v
    refine gy_i (g_runVX (As := [.int a1]) (rest := [.int (0 : Int32), .ref a2]) (ci := 9) hC (c_X7_loadMap l hl0 V g D cT f n a0 a1 (.inr (v, vf)) hz) k_X7_loadMap m_610 rfl rfl ⟨Nat.le_of_ble_eq_true rfl, Nat.le_of_ble_eq_true rfl⟩ hI rfl rfl (h_me_eq hz).1 rfl hl.1 rfl (Nat.le_of_ble_eq_true rfl) dL_loadMap_4 ⟨by decide, by decide⟩) hI (fun H locs hI => ?_)
    refine lv_i2l hx hb dL_loadMap_7 rfl ?_
    obtain ⟨f1, ef1, hq⟩ := b_s hq
    refine fa_sl hx hb hI ef1 dL_loadMap_8 (fun H locs hI => ?_)
    refine lv_goto (tgt := 15) hx hb dL_loadMap_9 (by decide) ?_
    refine lv_iconst (v := (0 : Int32)) hx hb dL_loadMap_15 (by decide) ?_
    refine W.widen (k := 1) (n := 6) (by decide) (by decide) ?_
    exact ge_Ni hx hb hlocks hr hn0 hI hq dL_loadMap_16
abbrev rm_L_isIsland : Room := { frames := 10, cells := 1, slots := 6, locals := 183 }
set_option maxHeartbeats 4000000 in
set_option maxRecDepth 100000 in
theorem c_L_isIsland (l : Launch) (hl0 : l.stackTraces = false) (V : Nat → Nat) (g : GH) (D : va_G) (cT : Nat → ClassId) (f : GH) (n : Nat) (a0 : Nat) (a1 : Int32) (a2 : Nat) (o : Int32 × GH) (hq : p_L_isIsland V g f a0 a1 a2 = some o) : Met l yL_isIsland (Cond.codeWith yL_isIsland cL_isIsland 4 (some .int) [(0, 16, 19, 19)] :: g_B) rm_L_isIsland (va_Pc [.ref a0, .int a1, .ref a2] (g_I V g D cT f n)) (g_Wn V D cT o n) 1 6 (g_A V) := by
  refine gh_begin (own := RL) [.ref a0, .int a1, .ref a2] [(0, .ref a0), (1, .int a1), (2, .ref a2)] (by decide) rfl (Nat.le_of_ble_eq_true rfl) rfl ?_
  intro p e s m args below meth c hx hb hr hlocks hC ht hI ls hl
  obtain ⟨hx, hb, hml, hown, hB⟩ := id hC
  have hn0 : s.heap.size = n := hI.1
  obtain ⟨H, hH⟩ : ∃ H, H = s.heap := ⟨_, rfl⟩
  obtain ⟨locs, hlocs⟩ : ∃ L : List Loc, L = [] := ⟨_, rfl⟩
  rw [← hH, ← hlocs] at hI ⊢
  clear hH hlocs
  unfold p_L_isIsland at hq
  refine lv_aload_n hx hb dL_isIsland_0 rfl (lv_at hl 2 rfl) ?_
  refine lv_iconst (v := (0 : Int32)) hx hb dL_isIsland_1 (by decide) ?_
  refine lv_aload_n hx hb dL_isIsland_2 rfl (lv_at hl 0 rfl) ?_
  refine lv_iload_n hx hb dL_isIsland_3 rfl (lv_at hl 1 rfl) ?_
  split at hq
  · cases hq
  · rename_i z hz
    by_cases hz0 : z = 0
    · subst hz0
      replace hq := i_t rfl hq
      refine gh_cR (name := "java/lang/IndexOutOfBoundsException") (g_runVX (As := [.int a1]) (rest := [.int (0 : Int32), .ref a2]) (ci := 9) hC (c_X7_isIsland l hl0 V g D cT f n a0 a1 (.inl 0) hz) k_X7_isIsland m_746 rfl rfl ⟨Nat.le_of_ble_eq_true rfl, Nat.le_of_ble_eq_true rfl⟩ hI rfl rfl (h_me_eq hz).1 rfl hl.1 rfl (Nat.le_of_ble_eq_true rfl) dL_isIsland_4 ⟨by decide, by decide⟩) no_i hI hown [] ⟨0, 16, 19, 19⟩ [] (by rw [ht]; rfl) (fun _ h => nomatch h) (by decide) (by decide) (hB _ m_745) (gh_ca hI (i := 4) (a := "java/lang/IndexOutOfBoundsException") (b := "java/lang/IndexOutOfBoundsException") rfl) (fun H locs q9 hI => ?_)
      refine lv_astore_n (lv' := [(3, .ref q9), (0, .ref a0), (1, .int a1), (2, .ref a2)]) hx hb dL_isIsland_19 rfl hl (by decide) rfl (fun ls hl => ?_)
      refine lv_iconst (v := (1 : Int32)) hx hb dL_isIsland_20 (by decide) ?_
      refine W.widen (k := 1) (n := 6) (by decide) (by decide) ?_
      exact ge_Ni hx hb hlocks hr hn0 hI hq dL_isIsland_21
    · replace hq := i_f hz0 hq
      cases hq
  · rename_i v hz
    refine gx_i (g_runVX (As := [.int a1]) (rest := [.int (0 : Int32), .ref a2]) (ci := 9) hC (c_X7_isIsland l hl0 V g D cT f n a0 a1 (.inr v) hz) k_X7_isIsland m_746 rfl rfl ⟨Nat.le_of_ble_eq_true rfl, Nat.le_of_ble_eq_true rfl⟩ hI rfl rfl (h_me_eq hz).1 rfl hl.1 rfl (Nat.le_of_ble_eq_true rfl) dL_isIsland_4 ⟨by decide, by decide⟩) hI (fun H locs hI => ?_)
    refine lv_if_eq (tgt := 14) hx hb dL_isIsland_7 (by decide) (fun c1 => ?_) (fun c1 => ?_)
    · replace hq := i_t c1 hq
      refine lv_lconst (v := 0) hx hb dL_isIsland_14 rfl ?_
      obtain ⟨f1, ef1, hq⟩ := b_s hq
      refine fa_sl hx hb hI ef1 dL_isIsland_15 (fun H locs hI => ?_)
      refine lv_goto (tgt := 22) hx hb dL_isIsland_16 (by decide) ?_
      refine lv_iconst (v := (0 : Int32)) hx hb dL_isIsland_22 (by decide) ?_
      refine W.widen (k := 1) (n := 6) (by decide) (by decide) ?_
      exact ge_Ni hx hb hlocks hr hn0 hI hq dL_isIsland_23
    · replace hq := i_f c1 hq
      refine lv_lconst (v := 1) hx hb dL_isIsland_10 rfl ?_
      refine lv_goto (tgt := 15) hx hb dL_isIsland_11 (by decide) ?_
      obtain ⟨f1, ef1, hq⟩ := b_s hq
      refine fa_sl hx hb hI ef1 dL_isIsland_15 (fun H locs hI => ?_)
      refine lv_goto (tgt := 22) hx hb dL_isIsland_16 (by decide) ?_
      refine lv_iconst (v := (0 : Int32)) hx hb dL_isIsland_22 (by decide) ?_
      refine W.widen (k := 1) (n := 6) (by decide) (by decide) ?_
      exact ge_Ni hx hb hlocks hr hn0 hI hq dL_isIsland_23
abbrev rm_L_pointCount : Room := { frames := 10, cells := 1, slots := 6, locals := 183 }
set_option maxHeartbeats 4000000 in
set_option maxRecDepth 100000 in
theorem c_L_pointCount (l : Launch) (hl0 : l.stackTraces = false) (V : Nat → Nat) (g : GH) (D : va_G) (cT : Nat → ClassId) (f : GH) (n : Nat) (a0 : Nat) (a1 : Int32) (a2 : Nat) (o : Int32 × GH) (hq : p_L_pointCount V g f a0 a1 a2 = some o) : Met l yL_pointCount (Cond.codeWith yL_pointCount cL_pointCount 4 (some .int) [(0, 9, 12, 19)] :: g_B) rm_L_pointCount (va_Pc [.ref a0, .int a1, .ref a2] (g_I V g D cT f n)) (g_Wn V D cT o n) 1 6 (g_A V) := by
  refine gh_begin (own := RL) [.ref a0, .int a1, .ref a2] [(0, .ref a0), (1, .int a1), (2, .ref a2)] (by decide) rfl (Nat.le_of_ble_eq_true rfl) rfl ?_
  intro p e s m args below meth c hx hb hr hlocks hC ht hI ls hl
  obtain ⟨hx, hb, hml, hown, hB⟩ := id hC
  have hn0 : s.heap.size = n := hI.1
  obtain ⟨H, hH⟩ : ∃ H, H = s.heap := ⟨_, rfl⟩
  obtain ⟨locs, hlocs⟩ : ∃ L : List Loc, L = [] := ⟨_, rfl⟩
  rw [← hH, ← hlocs] at hI ⊢
  clear hH hlocs
  unfold p_L_pointCount at hq
  refine lv_aload_n hx hb dL_pointCount_0 rfl (lv_at hl 2 rfl) ?_
  refine lv_iconst (v := (0 : Int32)) hx hb dL_pointCount_1 (by decide) ?_
  refine lv_aload_n hx hb dL_pointCount_2 rfl (lv_at hl 0 rfl) ?_
  refine lv_iload_n hx hb dL_pointCount_3 rfl (lv_at hl 1 rfl) ?_
  split at hq
  · cases hq
  · rename_i z hz
    by_cases hz0 : z = 0
    · subst hz0
      replace hq := i_t rfl hq
      refine gh_cR (name := "java/lang/IndexOutOfBoundsException") (g_runVX (As := [.int a1]) (rest := [.int (0 : Int32), .ref a2]) (ci := 9) hC (c_X7_pointCount l hl0 V g D cT f n a0 a1 (.inl 0) hz) k_X7_pointCount m_759 rfl rfl ⟨Nat.le_of_ble_eq_true rfl, Nat.le_of_ble_eq_true rfl⟩ hI rfl rfl (h_me_eq hz).1 rfl hl.1 rfl (Nat.le_of_ble_eq_true rfl) dL_pointCount_4 ⟨by decide, by decide⟩) no_i hI hown [] ⟨0, 9, 12, 19⟩ [] (by rw [ht]; rfl) (fun _ h => nomatch h) (by decide) (by decide) (hB _ m_745) (gh_ca hI (i := 4) (a := "java/lang/IndexOutOfBoundsException") (b := "java/lang/IndexOutOfBoundsException") rfl) (fun H locs q9 hI => ?_)
      refine lv_astore_n (lv' := [(3, .ref q9), (0, .ref a0), (1, .int a1), (2, .ref a2)]) hx hb dL_pointCount_12 rfl hl (by decide) rfl (fun ls hl => ?_)
      refine lv_iconst (v := (1 : Int32)) hx hb dL_pointCount_13 (by decide) ?_
      refine W.widen (k := 1) (n := 6) (by decide) (by decide) ?_
      exact ge_Ni hx hb hlocks hr hn0 hI hq dL_pointCount_14
    · replace hq := i_f hz0 hq
      cases hq
  · rename_i v hz
    refine gx_i (g_runVX (As := [.int a1]) (rest := [.int (0 : Int32), .ref a2]) (ci := 9) hC (c_X7_pointCount l hl0 V g D cT f n a0 a1 (.inr v) hz) k_X7_pointCount m_759 rfl rfl ⟨Nat.le_of_ble_eq_true rfl, Nat.le_of_ble_eq_true rfl⟩ hI rfl rfl (h_me_eq hz).1 rfl hl.1 rfl (Nat.le_of_ble_eq_true rfl) dL_pointCount_4 ⟨by decide, by decide⟩) hI (fun H locs hI => ?_)
    refine lv_i2l hx hb dL_pointCount_7 rfl ?_
    obtain ⟨f1, ef1, hq⟩ := b_s hq
    refine fa_sl hx hb hI ef1 dL_pointCount_8 (fun H locs hI => ?_)
    refine lv_goto (tgt := 15) hx hb dL_pointCount_9 (by decide) ?_
    refine lv_iconst (v := (0 : Int32)) hx hb dL_pointCount_15 (by decide) ?_
    refine W.widen (k := 1) (n := 6) (by decide) (by decide) ?_
    exact ge_Ni hx hb hlocks hr hn0 hI hq dL_pointCount_16
abbrev rm_L_pointX : Room := { frames := 11, cells := 2, slots := 12, locals := 207 }
set_option maxHeartbeats 4000000 in
set_option maxRecDepth 100000 in
theorem c_L_pointX (l : Launch) (hl0 : l.stackTraces = false) (V : Nat → Nat) (g : GH) (D : va_G) (cT : Nat → ClassId) (f : GH) (n : Nat) (a0 : Nat) (a1 : Int32) (a2 : Int32) (a3 : Nat) (o : Int32 × GH) (hq : p_L_pointX V g f a0 a1 a2 a3 = some o) : Met l yL_pointX (Cond.codeWith yL_pointX cL_pointX 5 (some .int) [(0, 10, 13, 19)] :: g_B) rm_L_pointX (va_Pc [.ref a0, .int a1, .int a2, .ref a3] (g_I V g D cT f n)) (g_Wn V D cT o n) 2 12 (g_A V) := by
  refine gh_begin (own := RL) [.ref a0, .int a1, .int a2, .ref a3] [(0, .ref a0), (1, .int a1), (2, .int a2), (3, .ref a3)] (by decide) rfl (Nat.le_of_ble_eq_true rfl) rfl ?_
  intro p e s m args below meth c hx hb hr hlocks hC ht hI ls hl
  obtain ⟨hx, hb, hml, hown, hB⟩ := id hC
  have hn0 : s.heap.size = n := hI.1
  obtain ⟨H, hH⟩ : ∃ H, H = s.heap := ⟨_, rfl⟩
  obtain ⟨locs, hlocs⟩ : ∃ L : List Loc, L = [] := ⟨_, rfl⟩
  rw [← hH, ← hlocs] at hI ⊢
  clear hH hlocs
  unfold p_L_pointX at hq
  refine lv_aload_n hx hb dL_pointX_0 rfl (lv_at hl 3 rfl) ?_
  refine lv_iconst (v := (0 : Int32)) hx hb dL_pointX_1 (by decide) ?_
  refine lv_aload_n hx hb dL_pointX_2 rfl (lv_at hl 0 rfl) ?_
  refine lv_iload_n hx hb dL_pointX_3 rfl (lv_at hl 1 rfl) ?_
  refine lv_iload_n hx hb dL_pointX_4 rfl (lv_at hl 2 rfl) ?_
  split at hq
  · cases hq
  · rename_i z hz
    by_cases hz0 : z = 0
    · subst hz0
      replace hq := i_t rfl hq
      refine gh_cR (name := "java/lang/IndexOutOfBoundsException") (g_runVX (As := [.int a1, .int a2]) (rest := [.int (0 : Int32), .ref a3]) (ci := 9) hC (c_X7_pointX l hl0 V g D cT f n a0 a1 a2 (.inl 0) hz) k_X7_pointX m_766 rfl rfl ⟨Nat.le_of_ble_eq_true rfl, Nat.le_of_ble_eq_true rfl⟩ hI rfl rfl (h_me_eq hz).1 rfl hl.1 rfl (Nat.le_of_ble_eq_true rfl) dL_pointX_5 ⟨by decide, by decide⟩) no_i hI hown [] ⟨0, 10, 13, 19⟩ [] (by rw [ht]; rfl) (fun _ h => nomatch h) (by decide) (by decide) (hB _ m_745) (gh_ca hI (i := 4) (a := "java/lang/IndexOutOfBoundsException") (b := "java/lang/IndexOutOfBoundsException") rfl) (fun H locs q9 hI => ?_)
      refine lv_astore (lv' := [(4, .ref q9), (0, .ref a0), (1, .int a1), (2, .int a2), (3, .ref a3)]) hx hb dL_pointX_13 hl (by decide) rfl (fun ls hl => ?_)
      refine lv_iconst (v := (1 : Int32)) hx hb dL_pointX_15 (by decide) ?_
      refine W.widen (k := 2) (n := 12) (by decide) (by decide) ?_
      exact ge_Ni hx hb hlocks hr hn0 hI hq dL_pointX_16
    · replace hq := i_f hz0 hq
      cases hq
  · rename_i v hz
    refine gx_i (g_runVX (As := [.int a1, .int a2]) (rest := [.int (0 : Int32), .ref a3]) (ci := 9) hC (c_X7_pointX l hl0 V g D cT f n a0 a1 a2 (.inr v) hz) k_X7_pointX m_766 rfl rfl ⟨Nat.le_of_ble_eq_true rfl, Nat.le_of_ble_eq_true rfl⟩ hI rfl rfl (h_me_eq hz).1 rfl hl.1 rfl (Nat.le_of_ble_eq_true rfl) dL_pointX_5 ⟨by decide, by decide⟩) hI (fun H locs hI => ?_)
    refine lv_i2l hx hb dL_pointX_8 rfl ?_
    obtain ⟨f1, ef1, hq⟩ := b_s hq
    refine fa_sl hx hb hI ef1 dL_pointX_9 (fun H locs hI => ?_)
    refine lv_goto (tgt := 17) hx hb dL_pointX_10 (by decide) ?_
    refine lv_iconst (v := (0 : Int32)) hx hb dL_pointX_17 (by decide) ?_
    refine W.widen (k := 2) (n := 12) (by decide) (by decide) ?_
    exact ge_Ni hx hb hlocks hr hn0 hI hq dL_pointX_18
abbrev rm_L_pointY : Room := { frames := 11, cells := 2, slots := 12, locals := 207 }
set_option maxHeartbeats 4000000 in
set_option maxRecDepth 100000 in
theorem c_L_pointY (l : Launch) (hl0 : l.stackTraces = false) (V : Nat → Nat) (g : GH) (D : va_G) (cT : Nat → ClassId) (f : GH) (n : Nat) (a0 : Nat) (a1 : Int32) (a2 : Int32) (a3 : Nat) (o : Int32 × GH) (hq : p_L_pointY V g f a0 a1 a2 a3 = some o) : Met l yL_pointY (Cond.codeWith yL_pointY cL_pointY 5 (some .int) [(0, 10, 13, 19)] :: g_B) rm_L_pointY (va_Pc [.ref a0, .int a1, .int a2, .ref a3] (g_I V g D cT f n)) (g_Wn V D cT o n) 2 12 (g_A V) := by
  refine gh_begin (own := RL) [.ref a0, .int a1, .int a2, .ref a3] [(0, .ref a0), (1, .int a1), (2, .int a2), (3, .ref a3)] (by decide) rfl (Nat.le_of_ble_eq_true rfl) rfl ?_
  intro p e s m args below meth c hx hb hr hlocks hC ht hI ls hl
  obtain ⟨hx, hb, hml, hown, hB⟩ := id hC
  have hn0 : s.heap.size = n := hI.1
  obtain ⟨H, hH⟩ : ∃ H, H = s.heap := ⟨_, rfl⟩
  obtain ⟨locs, hlocs⟩ : ∃ L : List Loc, L = [] := ⟨_, rfl⟩
  rw [← hH, ← hlocs] at hI ⊢
  clear hH hlocs
  unfold p_L_pointY at hq
  refine lv_aload_n hx hb dL_pointY_0 rfl (lv_at hl 3 rfl) ?_
  refine lv_iconst (v := (0 : Int32)) hx hb dL_pointY_1 (by decide) ?_
  refine lv_aload_n hx hb dL_pointY_2 rfl (lv_at hl 0 rfl) ?_
  refine lv_iload_n hx hb dL_pointY_3 rfl (lv_at hl 1 rfl) ?_
  refine lv_iload_n hx hb dL_pointY_4 rfl (lv_at hl 2 rfl) ?_
  split at hq
  · cases hq
  · rename_i z hz
    by_cases hz0 : z = 0
    · subst hz0
      replace hq := i_t rfl hq
      refine gh_cR (name := "java/lang/IndexOutOfBoundsException") (g_runVX (As := [.int a1, .int a2]) (rest := [.int (0 : Int32), .ref a3]) (ci := 9) hC (c_X7_pointY l hl0 V g D cT f n a0 a1 a2 (.inl 0) hz) k_X7_pointY m_778 rfl rfl ⟨Nat.le_of_ble_eq_true rfl, Nat.le_of_ble_eq_true rfl⟩ hI rfl rfl (h_me_eq hz).1 rfl hl.1 rfl (Nat.le_of_ble_eq_true rfl) dL_pointY_5 ⟨by decide, by decide⟩) no_i hI hown [] ⟨0, 10, 13, 19⟩ [] (by rw [ht]; rfl) (fun _ h => nomatch h) (by decide) (by decide) (hB _ m_745) (gh_ca hI (i := 4) (a := "java/lang/IndexOutOfBoundsException") (b := "java/lang/IndexOutOfBoundsException") rfl) (fun H locs q9 hI => ?_)
      refine lv_astore (lv' := [(4, .ref q9), (0, .ref a0), (1, .int a1), (2, .int a2), (3, .ref a3)]) hx hb dL_pointY_13 hl (by decide) rfl (fun ls hl => ?_)
      refine lv_iconst (v := (1 : Int32)) hx hb dL_pointY_15 (by decide) ?_
      refine W.widen (k := 2) (n := 12) (by decide) (by decide) ?_
      exact ge_Ni hx hb hlocks hr hn0 hI hq dL_pointY_16
    · replace hq := i_f hz0 hq
      cases hq
  · rename_i v hz
    refine gx_i (g_runVX (As := [.int a1, .int a2]) (rest := [.int (0 : Int32), .ref a3]) (ci := 9) hC (c_X7_pointY l hl0 V g D cT f n a0 a1 a2 (.inr v) hz) k_X7_pointY m_778 rfl rfl ⟨Nat.le_of_ble_eq_true rfl, Nat.le_of_ble_eq_true rfl⟩ hI rfl rfl (h_me_eq hz).1 rfl hl.1 rfl (Nat.le_of_ble_eq_true rfl) dL_pointY_5 ⟨by decide, by decide⟩) hI (fun H locs hI => ?_)
    refine lv_i2l hx hb dL_pointY_8 rfl ?_
    obtain ⟨f1, ef1, hq⟩ := b_s hq
    refine fa_sl hx hb hI ef1 dL_pointY_9 (fun H locs hI => ?_)
    refine lv_goto (tgt := 17) hx hb dL_pointY_10 (by decide) ?_
    refine lv_iconst (v := (0 : Int32)) hx hb dL_pointY_17 (by decide) ?_
    refine W.widen (k := 2) (n := 12) (by decide) (by decide) ?_
    exact ge_Ni hx hb hlocks hr hn0 hI hq dL_pointY_18
abbrev rm_L_pointDistance : Room := { frames := 11, cells := 4, slots := 24, locals := 213 }
set_option maxHeartbeats 4000000 in
set_option maxRecDepth 100000 in
theorem c_L_pointDistance (l : Launch) (hl0 : l.stackTraces = false) (V : Nat → Nat) (g : GH) (D : va_G) (cT : Nat → ClassId) (f : GH) (n : Nat) (a0 : Nat) (a1 : Int32) (a2 : Int32) (a3 : Int32) (a4 : Nat) (o : Int32 × GH) (hq : p_L_pointDistance V g f a0 a1 a2 a3 a4 = some o) : Met l yL_pointDistance (Cond.codeWith yL_pointDistance cL_pointDistance 6 (some .int) [(0, 12, 15, 19)] :: g_B) rm_L_pointDistance (va_Pc [.ref a0, .int a1, .int a2, .int a3, .ref a4] (g_I V g D cT f n)) (g_Wn V D cT o n) 4 24 (g_A V) := by
  refine gh_begin (own := RL) [.ref a0, .int a1, .int a2, .int a3, .ref a4] [(0, .ref a0), (1, .int a1), (2, .int a2), (3, .int a3), (4, .ref a4)] (by decide) rfl (Nat.le_of_ble_eq_true rfl) rfl ?_
  intro p e s m args below meth c hx hb hr hlocks hC ht hI ls hl
  obtain ⟨hx, hb, hml, hown, hB⟩ := id hC
  have hn0 : s.heap.size = n := hI.1
  obtain ⟨H, hH⟩ : ∃ H, H = s.heap := ⟨_, rfl⟩
  obtain ⟨locs, hlocs⟩ : ∃ L : List Loc, L = [] := ⟨_, rfl⟩
  rw [← hH, ← hlocs] at hI ⊢
  clear hH hlocs
  unfold p_L_pointDistance at hq
  refine lv_aload hx hb dL_pointDistance_0 (lv_at hl 4 rfl) ?_
  refine lv_iconst (v := (0 : Int32)) hx hb dL_pointDistance_2 (by decide) ?_
  refine lv_aload_n hx hb dL_pointDistance_3 rfl (lv_at hl 0 rfl) ?_
  refine lv_iload_n hx hb dL_pointDistance_4 rfl (lv_at hl 1 rfl) ?_
  refine lv_iload_n hx hb dL_pointDistance_5 rfl (lv_at hl 2 rfl) ?_
  refine lv_iload_n hx hb dL_pointDistance_6 rfl (lv_at hl 3 rfl) ?_
  split at hq
  · cases hq
  · rename_i z hz
    by_cases hz0 : z = 0
    · subst hz0
      replace hq := i_t rfl hq
      refine gh_cR (name := "java/lang/IndexOutOfBoundsException") (g_runVX (As := [.int a1, .int a2, .int a3]) (rest := [.int (0 : Int32), .ref a4]) (ci := 9) hC (c_X7_pointDistance l hl0 V g D cT f n a0 a1 a2 a3 (.inl 0) hz) k_X7_pointDistance m_785 rfl rfl ⟨Nat.le_of_ble_eq_true rfl, Nat.le_of_ble_eq_true rfl⟩ hI rfl rfl (h_me_eq hz).1 rfl hl.1 rfl (Nat.le_of_ble_eq_true rfl) dL_pointDistance_7 ⟨by decide, by decide⟩) no_i hI hown [] ⟨0, 12, 15, 19⟩ [] (by rw [ht]; rfl) (fun _ h => nomatch h) (by decide) (by decide) (hB _ m_745) (gh_ca hI (i := 4) (a := "java/lang/IndexOutOfBoundsException") (b := "java/lang/IndexOutOfBoundsException") rfl) (fun H locs q9 hI => ?_)
      refine lv_astore (lv' := [(5, .ref q9), (0, .ref a0), (1, .int a1), (2, .int a2), (3, .int a3), (4, .ref a4)]) hx hb dL_pointDistance_15 hl (by decide) rfl (fun ls hl => ?_)
      refine lv_iconst (v := (1 : Int32)) hx hb dL_pointDistance_17 (by decide) ?_
      refine W.widen (k := 4) (n := 24) (by decide) (by decide) ?_
      exact ge_Ni hx hb hlocks hr hn0 hI hq dL_pointDistance_18
    · replace hq := i_f hz0 hq
      cases hq
  · rename_i v hz
    refine gx_i (g_runVX (As := [.int a1, .int a2, .int a3]) (rest := [.int (0 : Int32), .ref a4]) (ci := 9) hC (c_X7_pointDistance l hl0 V g D cT f n a0 a1 a2 a3 (.inr v) hz) k_X7_pointDistance m_785 rfl rfl ⟨Nat.le_of_ble_eq_true rfl, Nat.le_of_ble_eq_true rfl⟩ hI rfl rfl (h_me_eq hz).1 rfl hl.1 rfl (Nat.le_of_ble_eq_true rfl) dL_pointDistance_7 ⟨by decide, by decide⟩) hI (fun H locs hI => ?_)
    refine lv_i2l hx hb dL_pointDistance_10 rfl ?_
    obtain ⟨f1, ef1, hq⟩ := b_s hq
    refine fa_sl hx hb hI ef1 dL_pointDistance_11 (fun H locs hI => ?_)
    refine lv_goto (tgt := 19) hx hb dL_pointDistance_12 (by decide) ?_
    refine lv_iconst (v := (0 : Int32)) hx hb dL_pointDistance_19 (by decide) ?_
    refine W.widen (k := 4) (n := 24) (by decide) (by decide) ?_
    exact ge_Ni hx hb hlocks hr hn0 hI hq dL_pointDistance_20
abbrev rm_L_nearestPoint : Room := { frames := 10, cells := 3, slots := 18, locals := 216 }
set_option maxHeartbeats 4000000 in
set_option maxRecDepth 100000 in
theorem c_L_nearestPoint (l : Launch) (hl0 : l.stackTraces = false) (V : Nat → Nat) (g : GH) (D : va_G) (cT : Nat → ClassId) (f : GH) (n : Nat) (a0 : Nat) (a1 : Int32) (a2 : Int32) (a3 : Int32) (a4 : Nat) (o : Int32 × GH) (hq : p_L_nearestPoint V g f a0 a1 a2 a3 a4 = some o) : Met l yL_nearestPoint (Cond.codeWith yL_nearestPoint cL_nearestPoint 6 (some .int) [(0, 12, 15, 19), (0, 12, 19, 13)] :: g_B) rm_L_nearestPoint (va_Pc [.ref a0, .int a1, .int a2, .int a3, .ref a4] (g_I V g D cT f n)) (g_Wn V D cT o n) 3 18 (g_A V) := by
  refine gh_begin (own := RL) [.ref a0, .int a1, .int a2, .int a3, .ref a4] [(0, .ref a0), (1, .int a1), (2, .int a2), (3, .int a3), (4, .ref a4)] (by decide) rfl (Nat.le_of_ble_eq_true rfl) rfl ?_
  intro p e s m args below meth c hx hb hr hlocks hC ht hI ls hl
  obtain ⟨hx, hb, hml, hown, hB⟩ := id hC
  have hn0 : s.heap.size = n := hI.1
  obtain ⟨H, hH⟩ : ∃ H, H = s.heap := ⟨_, rfl⟩
  obtain ⟨locs, hlocs⟩ : ∃ L : List Loc, L = [] := ⟨_, rfl⟩
  rw [← hH, ← hlocs] at hI ⊢
  clear hH hlocs
  unfold p_L_nearestPoint at hq
  refine lv_aload hx hb dL_nearestPoint_0 (lv_at hl 4 rfl) ?_
  refine lv_iconst (v := (0 : Int32)) hx hb dL_nearestPoint_2 (by decide) ?_
  refine lv_aload_n hx hb dL_nearestPoint_3 rfl (lv_at hl 0 rfl) ?_
  refine lv_iload_n hx hb dL_nearestPoint_4 rfl (lv_at hl 1 rfl) ?_
  refine lv_iload_n hx hb dL_nearestPoint_5 rfl (lv_at hl 2 rfl) ?_
  refine lv_iload_n hx hb dL_nearestPoint_6 rfl (lv_at hl 3 rfl) ?_
  split at hq
  · cases hq
  · rename_i z hz
    by_cases hz0 : z = 0
    · subst hz0
      replace hq := i_t rfl hq
      refine gh_cR (name := "java/lang/IndexOutOfBoundsException") (g_runVX (As := [.int a1, .int a2, .int a3]) (rest := [.int (0 : Int32), .ref a4]) (ci := 9) hC (c_X7_nearestPoint l hl0 V g D cT f n a0 a1 a2 a3 (.inl 0) hz) k_X7_nearestPoint m_797 rfl rfl ⟨Nat.le_of_ble_eq_true rfl, Nat.le_of_ble_eq_true rfl⟩ hI rfl rfl (h_me_eq hz).1 rfl hl.1 rfl (Nat.le_of_ble_eq_true rfl) dL_nearestPoint_7 ⟨by decide, by decide⟩) no_i hI hown [] ⟨0, 12, 15, 19⟩ [⟨0, 12, 19, 13⟩] (by rw [ht]; rfl) (fun _ h => nomatch h) (by decide) (by decide) (hB _ m_745) (gh_ca hI (i := 4) (a := "java/lang/IndexOutOfBoundsException") (b := "java/lang/IndexOutOfBoundsException") rfl) (fun H locs q9 hI => ?_)
      refine lv_astore (lv' := [(5, .ref q9), (0, .ref a0), (1, .int a1), (2, .int a2), (3, .int a3), (4, .ref a4)]) hx hb dL_nearestPoint_15 hl (by decide) rfl (fun ls hl => ?_)
      refine lv_iconst (v := (1 : Int32)) hx hb dL_nearestPoint_17 (by decide) ?_
      refine W.widen (k := 3) (n := 18) (by decide) (by decide) ?_
      exact ge_Ni hx hb hlocks hr hn0 hI hq dL_nearestPoint_18
    · replace hq := i_f hz0 hq
      by_cases hz1 : z = 1
      · subst hz1
        replace hq := i_t rfl hq
        refine gh_cR (name := "java/lang/IllegalArgumentException") (g_runVX (As := [.int a1, .int a2, .int a3]) (rest := [.int (0 : Int32), .ref a4]) (ci := 9) hC (c_X7_nearestPoint l hl0 V g D cT f n a0 a1 a2 a3 (.inl 1) hz) k_X7_nearestPoint m_797 rfl rfl ⟨Nat.le_of_ble_eq_true rfl, Nat.le_of_ble_eq_true rfl⟩ hI rfl rfl (h_me_eq hz).1 rfl hl.1 rfl (Nat.le_of_ble_eq_true rfl) dL_nearestPoint_7 ⟨by decide, by decide⟩) no_i hI hown [⟨0, 12, 15, 19⟩] ⟨0, 12, 19, 13⟩ [] (by rw [ht]; rfl) (fun y hy => by rw [List.mem_singleton.mp hy]; exact Or.inr ⟨by decide, "java/lang/IndexOutOfBoundsException", hB _ m_745, gh_nc hI (i := 2) (a := "java/lang/IllegalArgumentException") (b := "java/lang/IndexOutOfBoundsException") rfl⟩) (by decide) (by decide) (hB _ m_609) (gh_ca hI (i := 5) (a := "java/lang/IllegalArgumentException") (b := "java/lang/IllegalArgumentException") rfl) (fun H locs q9 hI => ?_)
        refine lv_astore (lv' := [(5, .ref q9), (0, .ref a0), (1, .int a1), (2, .int a2), (3, .int a3), (4, .ref a4)]) hx hb dL_nearestPoint_19 hl (by decide) rfl (fun ls hl => ?_)
        refine lv_iconst (v := (2 : Int32)) hx hb dL_nearestPoint_21 (by decide) ?_
        refine W.widen (k := 3) (n := 18) (by decide) (by decide) ?_
        exact ge_Ni hx hb hlocks hr hn0 hI hq dL_nearestPoint_22
      · replace hq := i_f hz1 hq
        cases hq
  · rename_i v hz
    refine gx_i (g_runVX (As := [.int a1, .int a2, .int a3]) (rest := [.int (0 : Int32), .ref a4]) (ci := 9) hC (c_X7_nearestPoint l hl0 V g D cT f n a0 a1 a2 a3 (.inr v) hz) k_X7_nearestPoint m_797 rfl rfl ⟨Nat.le_of_ble_eq_true rfl, Nat.le_of_ble_eq_true rfl⟩ hI rfl rfl (h_me_eq hz).1 rfl hl.1 rfl (Nat.le_of_ble_eq_true rfl) dL_nearestPoint_7 ⟨by decide, by decide⟩) hI (fun H locs hI => ?_)
    refine lv_i2l hx hb dL_nearestPoint_10 rfl ?_
    obtain ⟨f1, ef1, hq⟩ := b_s hq
    refine fa_sl hx hb hI ef1 dL_nearestPoint_11 (fun H locs hI => ?_)
    refine lv_goto (tgt := 23) hx hb dL_nearestPoint_12 (by decide) ?_
    refine lv_iconst (v := (0 : Int32)) hx hb dL_nearestPoint_23 (by decide) ?_
    refine W.widen (k := 3) (n := 18) (by decide) (by decide) ?_
    exact ge_Ni hx hb hlocks hr hn0 hI hq dL_nearestPoint_24
abbrev rm_L_lengthAt : Room := { frames := 10, cells := 2, slots := 12, locals := 261 }
set_option maxHeartbeats 4000000 in
set_option maxRecDepth 100000 in
theorem c_L_lengthAt (l : Launch) (hl0 : l.stackTraces = false) (V : Nat → Nat) (g : GH) (D : va_G) (cT : Nat → ClassId) (f : GH) (n : Nat) (a0 : Nat) (a1 : Int32) (a2 : Int32) (a3 : Nat) (o : Int32 × GH) (hq : p_L_lengthAt V g f a0 a1 a2 a3 = some o) : Met l yL_lengthAt (Cond.codeWith yL_lengthAt cL_lengthAt 5 (some .int) [(0, 10, 13, 19), (0, 10, 17, 13)] :: g_B) rm_L_lengthAt (va_Pc [.ref a0, .int a1, .int a2, .ref a3] (g_I V g D cT f n)) (g_Wn V D cT o n) 2 12 (g_A V) := by
  refine gh_begin (own := RL) [.ref a0, .int a1, .int a2, .ref a3] [(0, .ref a0), (1, .int a1), (2, .int a2), (3, .ref a3)] (by decide) rfl (Nat.le_of_ble_eq_true rfl) rfl ?_
  intro p e s m args below meth c hx hb hr hlocks hC ht hI ls hl
  obtain ⟨hx, hb, hml, hown, hB⟩ := id hC
  have hn0 : s.heap.size = n := hI.1
  obtain ⟨H, hH⟩ : ∃ H, H = s.heap := ⟨_, rfl⟩
  obtain ⟨locs, hlocs⟩ : ∃ L : List Loc, L = [] := ⟨_, rfl⟩
  rw [← hH, ← hlocs] at hI ⊢
  clear hH hlocs
  unfold p_L_lengthAt at hq
  refine lv_aload_n hx hb dL_lengthAt_0 rfl (lv_at hl 3 rfl) ?_
  refine lv_iconst (v := (0 : Int32)) hx hb dL_lengthAt_1 (by decide) ?_
  refine lv_aload_n hx hb dL_lengthAt_2 rfl (lv_at hl 0 rfl) ?_
  refine lv_iload_n hx hb dL_lengthAt_3 rfl (lv_at hl 1 rfl) ?_
  refine lv_iload_n hx hb dL_lengthAt_4 rfl (lv_at hl 2 rfl) ?_
  split at hq
  · cases hq
  · rename_i z hz
    by_cases hz0 : z = 0
    · subst hz0
      replace hq := i_t rfl hq
      refine gh_cR (name := "java/lang/IndexOutOfBoundsException") (g_runVX (As := [.int a1, .int a2]) (rest := [.int (0 : Int32), .ref a3]) (ci := 9) hC (c_X7_lengthAt l hl0 V g D cT f n a0 a1 a2 (.inl 0) hz) k_X7_lengthAt m_808 rfl rfl ⟨Nat.le_of_ble_eq_true rfl, Nat.le_of_ble_eq_true rfl⟩ hI rfl rfl (h_me_eq hz).1 rfl hl.1 rfl (Nat.le_of_ble_eq_true rfl) dL_lengthAt_5 ⟨by decide, by decide⟩) no_i hI hown [] ⟨0, 10, 13, 19⟩ [⟨0, 10, 17, 13⟩] (by rw [ht]; rfl) (fun _ h => nomatch h) (by decide) (by decide) (hB _ m_745) (gh_ca hI (i := 4) (a := "java/lang/IndexOutOfBoundsException") (b := "java/lang/IndexOutOfBoundsException") rfl) (fun H locs q9 hI => ?_)
      refine lv_astore (lv' := [(4, .ref q9), (0, .ref a0), (1, .int a1), (2, .int a2), (3, .ref a3)]) hx hb dL_lengthAt_13 hl (by decide) rfl (fun ls hl => ?_)
      refine lv_iconst (v := (1 : Int32)) hx hb dL_lengthAt_15 (by decide) ?_
      refine W.widen (k := 2) (n := 12) (by decide) (by decide) ?_
      exact ge_Ni hx hb hlocks hr hn0 hI hq dL_lengthAt_16
    · replace hq := i_f hz0 hq
      by_cases hz1 : z = 1
      · subst hz1
        replace hq := i_t rfl hq
        refine gh_cR (name := "java/lang/IllegalArgumentException") (g_runVX (As := [.int a1, .int a2]) (rest := [.int (0 : Int32), .ref a3]) (ci := 9) hC (c_X7_lengthAt l hl0 V g D cT f n a0 a1 a2 (.inl 1) hz) k_X7_lengthAt m_808 rfl rfl ⟨Nat.le_of_ble_eq_true rfl, Nat.le_of_ble_eq_true rfl⟩ hI rfl rfl (h_me_eq hz).1 rfl hl.1 rfl (Nat.le_of_ble_eq_true rfl) dL_lengthAt_5 ⟨by decide, by decide⟩) no_i hI hown [⟨0, 10, 13, 19⟩] ⟨0, 10, 17, 13⟩ [] (by rw [ht]; rfl) (fun y hy => by rw [List.mem_singleton.mp hy]; exact Or.inr ⟨by decide, "java/lang/IndexOutOfBoundsException", hB _ m_745, gh_nc hI (i := 2) (a := "java/lang/IllegalArgumentException") (b := "java/lang/IndexOutOfBoundsException") rfl⟩) (by decide) (by decide) (hB _ m_609) (gh_ca hI (i := 5) (a := "java/lang/IllegalArgumentException") (b := "java/lang/IllegalArgumentException") rfl) (fun H locs q9 hI => ?_)
        refine lv_astore (lv' := [(4, .ref q9), (0, .ref a0), (1, .int a1), (2, .int a2), (3, .ref a3)]) hx hb dL_lengthAt_17 hl (by decide) rfl (fun ls hl => ?_)
        refine lv_iconst (v := (2 : Int32)) hx hb dL_lengthAt_19 (by decide) ?_
        refine W.widen (k := 2) (n := 12) (by decide) (by decide) ?_
        exact ge_Ni hx hb hlocks hr hn0 hI hq dL_lengthAt_20
      · replace hq := i_f hz1 hq
        cases hq
  · rename_i v hz
    refine gx_i (g_runVX (As := [.int a1, .int a2]) (rest := [.int (0 : Int32), .ref a3]) (ci := 9) hC (c_X7_lengthAt l hl0 V g D cT f n a0 a1 a2 (.inr v) hz) k_X7_lengthAt m_808 rfl rfl ⟨Nat.le_of_ble_eq_true rfl, Nat.le_of_ble_eq_true rfl⟩ hI rfl rfl (h_me_eq hz).1 rfl hl.1 rfl (Nat.le_of_ble_eq_true rfl) dL_lengthAt_5 ⟨by decide, by decide⟩) hI (fun H locs hI => ?_)
    refine lv_i2l hx hb dL_lengthAt_8 rfl ?_
    obtain ⟨f1, ef1, hq⟩ := b_s hq
    refine fa_sl hx hb hI ef1 dL_lengthAt_9 (fun H locs hI => ?_)
    refine lv_goto (tgt := 21) hx hb dL_lengthAt_10 (by decide) ?_
    refine lv_iconst (v := (0 : Int32)) hx hb dL_lengthAt_21 (by decide) ?_
    refine W.widen (k := 2) (n := 12) (by decide) (by decide) ?_
    exact ge_Ni hx hb hlocks hr hn0 hI hq dL_lengthAt_22
abbrev rm_L_stickCount : Room := { frames := 10, cells := 2, slots := 12, locals := 185 }
set_option maxHeartbeats 4000000 in
set_option maxRecDepth 100000 in
theorem c_L_stickCount (l : Launch) (hl0 : l.stackTraces = false) (V : Nat → Nat) (g : GH) (D : va_G) (cT : Nat → ClassId) (f : GH) (n : Nat) (a0 : Nat) (a1 : Int32) (a2 : Int32) (a3 : Nat) (o : Int32 × GH) (hq : p_L_stickCount V g f a0 a1 a2 a3 = some o) : Met l yL_stickCount (Cond.codeWith yL_stickCount cL_stickCount 5 (some .int) [(0, 10, 13, 19), (0, 10, 17, 13)] :: g_B) rm_L_stickCount (va_Pc [.ref a0, .int a1, .int a2, .ref a3] (g_I V g D cT f n)) (g_Wn V D cT o n) 2 12 (g_A V) := by
  refine gh_begin (own := RL) [.ref a0, .int a1, .int a2, .ref a3] [(0, .ref a0), (1, .int a1), (2, .int a2), (3, .ref a3)] (by decide) rfl (Nat.le_of_ble_eq_true rfl) rfl ?_
  intro p e s m args below meth c hx hb hr hlocks hC ht hI ls hl
  obtain ⟨hx, hb, hml, hown, hB⟩ := id hC
  have hn0 : s.heap.size = n := hI.1
  obtain ⟨H, hH⟩ : ∃ H, H = s.heap := ⟨_, rfl⟩
  obtain ⟨locs, hlocs⟩ : ∃ L : List Loc, L = [] := ⟨_, rfl⟩
  rw [← hH, ← hlocs] at hI ⊢
  clear hH hlocs
  unfold p_L_stickCount at hq
  refine lv_aload_n hx hb dL_stickCount_0 rfl (lv_at hl 3 rfl) ?_
  refine lv_iconst (v := (0 : Int32)) hx hb dL_stickCount_1 (by decide) ?_
  refine lv_aload_n hx hb dL_stickCount_2 rfl (lv_at hl 0 rfl) ?_
  refine lv_iload_n hx hb dL_stickCount_3 rfl (lv_at hl 1 rfl) ?_
  refine lv_iload_n hx hb dL_stickCount_4 rfl (lv_at hl 2 rfl) ?_
  split at hq
  · cases hq
  · rename_i z hz
    by_cases hz0 : z = 0
    · subst hz0
      replace hq := i_t rfl hq
      refine gh_cR (name := "java/lang/IndexOutOfBoundsException") (g_runVX (As := [.int a1, .int a2]) (rest := [.int (0 : Int32), .ref a3]) (ci := 9) hC (c_X7_stickCount l hl0 V g D cT f n a0 a1 a2 (.inl 0) hz) k_X7_stickCount m_836 rfl rfl ⟨Nat.le_of_ble_eq_true rfl, Nat.le_of_ble_eq_true rfl⟩ hI rfl rfl (h_me_eq hz).1 rfl hl.1 rfl (Nat.le_of_ble_eq_true rfl) dL_stickCount_5 ⟨by decide, by decide⟩) no_i hI hown [] ⟨0, 10, 13, 19⟩ [⟨0, 10, 17, 13⟩] (by rw [ht]; rfl) (fun _ h => nomatch h) (by decide) (by decide) (hB _ m_745) (gh_ca hI (i := 4) (a := "java/lang/IndexOutOfBoundsException") (b := "java/lang/IndexOutOfBoundsException") rfl) (fun H locs q9 hI => ?_)
      refine lv_astore (lv' := [(4, .ref q9), (0, .ref a0), (1, .int a1), (2, .int a2), (3, .ref a3)]) hx hb dL_stickCount_13 hl (by decide) rfl (fun ls hl => ?_)
      refine lv_iconst (v := (1 : Int32)) hx hb dL_stickCount_15 (by decide) ?_
      refine W.widen (k := 2) (n := 12) (by decide) (by decide) ?_
      exact ge_Ni hx hb hlocks hr hn0 hI hq dL_stickCount_16
    · replace hq := i_f hz0 hq
      by_cases hz1 : z = 1
      · subst hz1
        replace hq := i_t rfl hq
        refine gh_cR (name := "java/lang/IllegalArgumentException") (g_runVX (As := [.int a1, .int a2]) (rest := [.int (0 : Int32), .ref a3]) (ci := 9) hC (c_X7_stickCount l hl0 V g D cT f n a0 a1 a2 (.inl 1) hz) k_X7_stickCount m_836 rfl rfl ⟨Nat.le_of_ble_eq_true rfl, Nat.le_of_ble_eq_true rfl⟩ hI rfl rfl (h_me_eq hz).1 rfl hl.1 rfl (Nat.le_of_ble_eq_true rfl) dL_stickCount_5 ⟨by decide, by decide⟩) no_i hI hown [⟨0, 10, 13, 19⟩] ⟨0, 10, 17, 13⟩ [] (by rw [ht]; rfl) (fun y hy => by rw [List.mem_singleton.mp hy]; exact Or.inr ⟨by decide, "java/lang/IndexOutOfBoundsException", hB _ m_745, gh_nc hI (i := 2) (a := "java/lang/IllegalArgumentException") (b := "java/lang/IndexOutOfBoundsException") rfl⟩) (by decide) (by decide) (hB _ m_609) (gh_ca hI (i := 5) (a := "java/lang/IllegalArgumentException") (b := "java/lang/IllegalArgumentException") rfl) (fun H locs q9 hI => ?_)
        refine lv_astore (lv' := [(4, .ref q9), (0, .ref a0), (1, .int a1), (2, .int a2), (3, .ref a3)]) hx hb dL_stickCount_17 hl (by decide) rfl (fun ls hl => ?_)
        refine lv_iconst (v := (2 : Int32)) hx hb dL_stickCount_19 (by decide) ?_
        refine W.widen (k := 2) (n := 12) (by decide) (by decide) ?_
        exact ge_Ni hx hb hlocks hr hn0 hI hq dL_stickCount_20
      · replace hq := i_f hz1 hq
        cases hq
  · rename_i v hz
    refine gx_i (g_runVX (As := [.int a1, .int a2]) (rest := [.int (0 : Int32), .ref a3]) (ci := 9) hC (c_X7_stickCount l hl0 V g D cT f n a0 a1 a2 (.inr v) hz) k_X7_stickCount m_836 rfl rfl ⟨Nat.le_of_ble_eq_true rfl, Nat.le_of_ble_eq_true rfl⟩ hI rfl rfl (h_me_eq hz).1 rfl hl.1 rfl (Nat.le_of_ble_eq_true rfl) dL_stickCount_5 ⟨by decide, by decide⟩) hI (fun H locs hI => ?_)
    refine lv_i2l hx hb dL_stickCount_8 rfl ?_
    obtain ⟨f1, ef1, hq⟩ := b_s hq
    refine fa_sl hx hb hI ef1 dL_stickCount_9 (fun H locs hI => ?_)
    refine lv_goto (tgt := 21) hx hb dL_stickCount_10 (by decide) ?_
    refine lv_iconst (v := (0 : Int32)) hx hb dL_stickCount_21 (by decide) ?_
    refine W.widen (k := 2) (n := 12) (by decide) (by decide) ?_
    exact ge_Ni hx hb hlocks hr hn0 hI hq dL_stickCount_22
abbrev rm_L_stickStart : Room := { frames := 11, cells := 3, slots := 18, locals := 189 }
set_option maxHeartbeats 4000000 in
set_option maxRecDepth 100000 in
theorem c_L_stickStart (l : Launch) (hl0 : l.stackTraces = false) (V : Nat → Nat) (g : GH) (D : va_G) (cT : Nat → ClassId) (f : GH) (n : Nat) (a0 : Nat) (a1 : Int32) (a2 : Int32) (a3 : Int32) (a4 : Nat) (o : Int32 × GH) (hq : p_L_stickStart V g f a0 a1 a2 a3 a4 = some o) : Met l yL_stickStart (Cond.codeWith yL_stickStart cL_stickStart 6 (some .int) [(0, 12, 15, 19), (0, 12, 19, 13)] :: g_B) rm_L_stickStart (va_Pc [.ref a0, .int a1, .int a2, .int a3, .ref a4] (g_I V g D cT f n)) (g_Wn V D cT o n) 3 18 (g_A V) := by
  refine gh_begin (own := RL) [.ref a0, .int a1, .int a2, .int a3, .ref a4] [(0, .ref a0), (1, .int a1), (2, .int a2), (3, .int a3), (4, .ref a4)] (by decide) rfl (Nat.le_of_ble_eq_true rfl) rfl ?_
  intro p e s m args below meth c hx hb hr hlocks hC ht hI ls hl
  obtain ⟨hx, hb, hml, hown, hB⟩ := id hC
  have hn0 : s.heap.size = n := hI.1
  obtain ⟨H, hH⟩ : ∃ H, H = s.heap := ⟨_, rfl⟩
  obtain ⟨locs, hlocs⟩ : ∃ L : List Loc, L = [] := ⟨_, rfl⟩
  rw [← hH, ← hlocs] at hI ⊢
  clear hH hlocs
  unfold p_L_stickStart at hq
  refine lv_aload hx hb dL_stickStart_0 (lv_at hl 4 rfl) ?_
  refine lv_iconst (v := (0 : Int32)) hx hb dL_stickStart_2 (by decide) ?_
  refine lv_aload_n hx hb dL_stickStart_3 rfl (lv_at hl 0 rfl) ?_
  refine lv_iload_n hx hb dL_stickStart_4 rfl (lv_at hl 1 rfl) ?_
  refine lv_iload_n hx hb dL_stickStart_5 rfl (lv_at hl 2 rfl) ?_
  refine lv_iload_n hx hb dL_stickStart_6 rfl (lv_at hl 3 rfl) ?_
  split at hq
  · cases hq
  · rename_i z hz
    by_cases hz0 : z = 0
    · subst hz0
      replace hq := i_t rfl hq
      refine gh_cR (name := "java/lang/IndexOutOfBoundsException") (g_runVX (As := [.int a1, .int a2, .int a3]) (rest := [.int (0 : Int32), .ref a4]) (ci := 9) hC (c_X7_stickStart l hl0 V g D cT f n a0 a1 a2 a3 (.inl 0) hz) k_X7_stickStart m_844 rfl rfl ⟨Nat.le_of_ble_eq_true rfl, Nat.le_of_ble_eq_true rfl⟩ hI rfl rfl (h_me_eq hz).1 rfl hl.1 rfl (Nat.le_of_ble_eq_true rfl) dL_stickStart_7 ⟨by decide, by decide⟩) no_i hI hown [] ⟨0, 12, 15, 19⟩ [⟨0, 12, 19, 13⟩] (by rw [ht]; rfl) (fun _ h => nomatch h) (by decide) (by decide) (hB _ m_745) (gh_ca hI (i := 4) (a := "java/lang/IndexOutOfBoundsException") (b := "java/lang/IndexOutOfBoundsException") rfl) (fun H locs q9 hI => ?_)
      refine lv_astore (lv' := [(5, .ref q9), (0, .ref a0), (1, .int a1), (2, .int a2), (3, .int a3), (4, .ref a4)]) hx hb dL_stickStart_15 hl (by decide) rfl (fun ls hl => ?_)
      refine lv_iconst (v := (1 : Int32)) hx hb dL_stickStart_17 (by decide) ?_
      refine W.widen (k := 3) (n := 18) (by decide) (by decide) ?_
      exact ge_Ni hx hb hlocks hr hn0 hI hq dL_stickStart_18
    · replace hq := i_f hz0 hq
      by_cases hz1 : z = 1
      · subst hz1
        replace hq := i_t rfl hq
        refine gh_cR (name := "java/lang/IllegalArgumentException") (g_runVX (As := [.int a1, .int a2, .int a3]) (rest := [.int (0 : Int32), .ref a4]) (ci := 9) hC (c_X7_stickStart l hl0 V g D cT f n a0 a1 a2 a3 (.inl 1) hz) k_X7_stickStart m_844 rfl rfl ⟨Nat.le_of_ble_eq_true rfl, Nat.le_of_ble_eq_true rfl⟩ hI rfl rfl (h_me_eq hz).1 rfl hl.1 rfl (Nat.le_of_ble_eq_true rfl) dL_stickStart_7 ⟨by decide, by decide⟩) no_i hI hown [⟨0, 12, 15, 19⟩] ⟨0, 12, 19, 13⟩ [] (by rw [ht]; rfl) (fun y hy => by rw [List.mem_singleton.mp hy]; exact Or.inr ⟨by decide, "java/lang/IndexOutOfBoundsException", hB _ m_745, gh_nc hI (i := 2) (a := "java/lang/IllegalArgumentException") (b := "java/lang/IndexOutOfBoundsException") rfl⟩) (by decide) (by decide) (hB _ m_609) (gh_ca hI (i := 5) (a := "java/lang/IllegalArgumentException") (b := "java/lang/IllegalArgumentException") rfl) (fun H locs q9 hI => ?_)
        refine lv_astore (lv' := [(5, .ref q9), (0, .ref a0), (1, .int a1), (2, .int a2), (3, .int a3), (4, .ref a4)]) hx hb dL_stickStart_19 hl (by decide) rfl (fun ls hl => ?_)
        refine lv_iconst (v := (2 : Int32)) hx hb dL_stickStart_21 (by decide) ?_
        refine W.widen (k := 3) (n := 18) (by decide) (by decide) ?_
        exact ge_Ni hx hb hlocks hr hn0 hI hq dL_stickStart_22
      · replace hq := i_f hz1 hq
        cases hq
  · rename_i v hz
    refine gx_i (g_runVX (As := [.int a1, .int a2, .int a3]) (rest := [.int (0 : Int32), .ref a4]) (ci := 9) hC (c_X7_stickStart l hl0 V g D cT f n a0 a1 a2 a3 (.inr v) hz) k_X7_stickStart m_844 rfl rfl ⟨Nat.le_of_ble_eq_true rfl, Nat.le_of_ble_eq_true rfl⟩ hI rfl rfl (h_me_eq hz).1 rfl hl.1 rfl (Nat.le_of_ble_eq_true rfl) dL_stickStart_7 ⟨by decide, by decide⟩) hI (fun H locs hI => ?_)
    refine lv_i2l hx hb dL_stickStart_10 rfl ?_
    obtain ⟨f1, ef1, hq⟩ := b_s hq
    refine fa_sl hx hb hI ef1 dL_stickStart_11 (fun H locs hI => ?_)
    refine lv_goto (tgt := 23) hx hb dL_stickStart_12 (by decide) ?_
    refine lv_iconst (v := (0 : Int32)) hx hb dL_stickStart_23 (by decide) ?_
    refine W.widen (k := 3) (n := 18) (by decide) (by decide) ?_
    exact ge_Ni hx hb hlocks hr hn0 hI hq dL_stickStart_24
abbrev rm_L_stickLength : Room := { frames := 11, cells := 3, slots := 18, locals := 237 }
set_option maxHeartbeats 4000000 in
set_option maxRecDepth 100000 in
theorem c_L_stickLength (l : Launch) (hl0 : l.stackTraces = false) (V : Nat → Nat) (g : GH) (D : va_G) (cT : Nat → ClassId) (f : GH) (n : Nat) (a0 : Nat) (a1 : Int32) (a2 : Int32) (a3 : Int32) (a4 : Nat) (o : Int32 × GH) (hq : p_L_stickLength V g f a0 a1 a2 a3 a4 = some o) : Met l yL_stickLength (Cond.codeWith yL_stickLength cL_stickLength 6 (some .int) [(0, 12, 15, 19), (0, 12, 19, 13)] :: g_B) rm_L_stickLength (va_Pc [.ref a0, .int a1, .int a2, .int a3, .ref a4] (g_I V g D cT f n)) (g_Wn V D cT o n) 3 18 (g_A V) := by
  refine gh_begin (own := RL) [.ref a0, .int a1, .int a2, .int a3, .ref a4] [(0, .ref a0), (1, .int a1), (2, .int a2), (3, .int a3), (4, .ref a4)] (by decide) rfl (Nat.le_of_ble_eq_true rfl) rfl ?_
  intro p e s m args below meth c hx hb hr hlocks hC ht hI ls hl
  obtain ⟨hx, hb, hml, hown, hB⟩ := id hC
  have hn0 : s.heap.size = n := hI.1
  obtain ⟨H, hH⟩ : ∃ H, H = s.heap := ⟨_, rfl⟩
  obtain ⟨locs, hlocs⟩ : ∃ L : List Loc, L = [] := ⟨_, rfl⟩
  rw [← hH, ← hlocs] at hI ⊢
  clear hH hlocs
  unfold p_L_stickLength at hq
  refine lv_aload hx hb dL_stickLength_0 (lv_at hl 4 rfl) ?_
  refine lv_iconst (v := (0 : Int32)) hx hb dL_stickLength_2 (by decide) ?_
  refine lv_aload_n hx hb dL_stickLength_3 rfl (lv_at hl 0 rfl) ?_
  refine lv_iload_n hx hb dL_stickLength_4 rfl (lv_at hl 1 rfl) ?_
  refine lv_iload_n hx hb dL_stickLength_5 rfl (lv_at hl 2 rfl) ?_
  refine lv_iload_n hx hb dL_stickLength_6 rfl (lv_at hl 3 rfl) ?_
  split at hq
  · cases hq
  · rename_i z hz
    by_cases hz0 : z = 0
    · subst hz0
      replace hq := i_t rfl hq
      refine gh_cR (name := "java/lang/IndexOutOfBoundsException") (g_runVX (As := [.int a1, .int a2, .int a3]) (rest := [.int (0 : Int32), .ref a4]) (ci := 9) hC (c_X7_stickLength l hl0 V g D cT f n a0 a1 a2 a3 (.inl 0) hz) k_X7_stickLength m_855 rfl rfl ⟨Nat.le_of_ble_eq_true rfl, Nat.le_of_ble_eq_true rfl⟩ hI rfl rfl (h_me_eq hz).1 rfl hl.1 rfl (Nat.le_of_ble_eq_true rfl) dL_stickLength_7 ⟨by decide, by decide⟩) no_i hI hown [] ⟨0, 12, 15, 19⟩ [⟨0, 12, 19, 13⟩] (by rw [ht]; rfl) (fun _ h => nomatch h) (by decide) (by decide) (hB _ m_745) (gh_ca hI (i := 4) (a := "java/lang/IndexOutOfBoundsException") (b := "java/lang/IndexOutOfBoundsException") rfl) (fun H locs q9 hI => ?_)
      refine lv_astore (lv' := [(5, .ref q9), (0, .ref a0), (1, .int a1), (2, .int a2), (3, .int a3), (4, .ref a4)]) hx hb dL_stickLength_15 hl (by decide) rfl (fun ls hl => ?_)
      refine lv_iconst (v := (1 : Int32)) hx hb dL_stickLength_17 (by decide) ?_
      refine W.widen (k := 3) (n := 18) (by decide) (by decide) ?_
      exact ge_Ni hx hb hlocks hr hn0 hI hq dL_stickLength_18
    · replace hq := i_f hz0 hq
      by_cases hz1 : z = 1
      · subst hz1
        replace hq := i_t rfl hq
        refine gh_cR (name := "java/lang/IllegalArgumentException") (g_runVX (As := [.int a1, .int a2, .int a3]) (rest := [.int (0 : Int32), .ref a4]) (ci := 9) hC (c_X7_stickLength l hl0 V g D cT f n a0 a1 a2 a3 (.inl 1) hz) k_X7_stickLength m_855 rfl rfl ⟨Nat.le_of_ble_eq_true rfl, Nat.le_of_ble_eq_true rfl⟩ hI rfl rfl (h_me_eq hz).1 rfl hl.1 rfl (Nat.le_of_ble_eq_true rfl) dL_stickLength_7 ⟨by decide, by decide⟩) no_i hI hown [⟨0, 12, 15, 19⟩] ⟨0, 12, 19, 13⟩ [] (by rw [ht]; rfl) (fun y hy => by rw [List.mem_singleton.mp hy]; exact Or.inr ⟨by decide, "java/lang/IndexOutOfBoundsException", hB _ m_745, gh_nc hI (i := 2) (a := "java/lang/IllegalArgumentException") (b := "java/lang/IndexOutOfBoundsException") rfl⟩) (by decide) (by decide) (hB _ m_609) (gh_ca hI (i := 5) (a := "java/lang/IllegalArgumentException") (b := "java/lang/IllegalArgumentException") rfl) (fun H locs q9 hI => ?_)
        refine lv_astore (lv' := [(5, .ref q9), (0, .ref a0), (1, .int a1), (2, .int a2), (3, .int a3), (4, .ref a4)]) hx hb dL_stickLength_19 hl (by decide) rfl (fun ls hl => ?_)
        refine lv_iconst (v := (2 : Int32)) hx hb dL_stickLength_21 (by decide) ?_
        refine W.widen (k := 3) (n := 18) (by decide) (by decide) ?_
        exact ge_Ni hx hb hlocks hr hn0 hI hq dL_stickLength_22
      · replace hq := i_f hz1 hq
        cases hq
  · rename_i v hz
    refine gx_i (g_runVX (As := [.int a1, .int a2, .int a3]) (rest := [.int (0 : Int32), .ref a4]) (ci := 9) hC (c_X7_stickLength l hl0 V g D cT f n a0 a1 a2 a3 (.inr v) hz) k_X7_stickLength m_855 rfl rfl ⟨Nat.le_of_ble_eq_true rfl, Nat.le_of_ble_eq_true rfl⟩ hI rfl rfl (h_me_eq hz).1 rfl hl.1 rfl (Nat.le_of_ble_eq_true rfl) dL_stickLength_7 ⟨by decide, by decide⟩) hI (fun H locs hI => ?_)
    refine lv_i2l hx hb dL_stickLength_10 rfl ?_
    obtain ⟨f1, ef1, hq⟩ := b_s hq
    refine fa_sl hx hb hI ef1 dL_stickLength_11 (fun H locs hI => ?_)
    refine lv_goto (tgt := 23) hx hb dL_stickLength_12 (by decide) ?_
    refine lv_iconst (v := (0 : Int32)) hx hb dL_stickLength_23 (by decide) ?_
    refine W.widen (k := 3) (n := 18) (by decide) (by decide) ?_
    exact ge_Ni hx hb hlocks hr hn0 hI hq dL_stickLength_24
abbrev rm_L_longestStick : Room := { frames := 10, cells := 2, slots := 12, locals := 241 }
set_option maxHeartbeats 4000000 in
set_option maxRecDepth 100000 in
theorem c_L_longestStick (l : Launch) (hl0 : l.stackTraces = false) (V : Nat → Nat) (g : GH) (D : va_G) (cT : Nat → ClassId) (f : GH) (n : Nat) (a0 : Nat) (a1 : Int32) (a2 : Int32) (a3 : Nat) (o : Int32 × GH) (hq : p_L_longestStick V g f a0 a1 a2 a3 = some o) : Met l yL_longestStick (Cond.codeWith yL_longestStick cL_longestStick 5 (some .int) [(0, 10, 13, 19), (0, 10, 17, 13)] :: g_B) rm_L_longestStick (va_Pc [.ref a0, .int a1, .int a2, .ref a3] (g_I V g D cT f n)) (g_Wn V D cT o n) 2 12 (g_A V) := by
  refine gh_begin (own := RL) [.ref a0, .int a1, .int a2, .ref a3] [(0, .ref a0), (1, .int a1), (2, .int a2), (3, .ref a3)] (by decide) rfl (Nat.le_of_ble_eq_true rfl) rfl ?_
  intro p e s m args below meth c hx hb hr hlocks hC ht hI ls hl
  obtain ⟨hx, hb, hml, hown, hB⟩ := id hC
  have hn0 : s.heap.size = n := hI.1
  obtain ⟨H, hH⟩ : ∃ H, H = s.heap := ⟨_, rfl⟩
  obtain ⟨locs, hlocs⟩ : ∃ L : List Loc, L = [] := ⟨_, rfl⟩
  rw [← hH, ← hlocs] at hI ⊢
  clear hH hlocs
  unfold p_L_longestStick at hq
  refine lv_aload_n hx hb dL_longestStick_0 rfl (lv_at hl 3 rfl) ?_
  refine lv_iconst (v := (0 : Int32)) hx hb dL_longestStick_1 (by decide) ?_
  refine lv_aload_n hx hb dL_longestStick_2 rfl (lv_at hl 0 rfl) ?_
  refine lv_iload_n hx hb dL_longestStick_3 rfl (lv_at hl 1 rfl) ?_
  refine lv_iload_n hx hb dL_longestStick_4 rfl (lv_at hl 2 rfl) ?_
  split at hq
  · cases hq
  · rename_i z hz
    by_cases hz0 : z = 0
    · subst hz0
      replace hq := i_t rfl hq
      refine gh_cR (name := "java/lang/IndexOutOfBoundsException") (g_runVX (As := [.int a1, .int a2]) (rest := [.int (0 : Int32), .ref a3]) (ci := 9) hC (c_X7_longestStick l hl0 V g D cT f n a0 a1 a2 (.inl 0) hz) k_X7_longestStick m_863 rfl rfl ⟨Nat.le_of_ble_eq_true rfl, Nat.le_of_ble_eq_true rfl⟩ hI rfl rfl (h_me_eq hz).1 rfl hl.1 rfl (Nat.le_of_ble_eq_true rfl) dL_longestStick_5 ⟨by decide, by decide⟩) no_i hI hown [] ⟨0, 10, 13, 19⟩ [⟨0, 10, 17, 13⟩] (by rw [ht]; rfl) (fun _ h => nomatch h) (by decide) (by decide) (hB _ m_745) (gh_ca hI (i := 4) (a := "java/lang/IndexOutOfBoundsException") (b := "java/lang/IndexOutOfBoundsException") rfl) (fun H locs q9 hI => ?_)
      refine lv_astore (lv' := [(4, .ref q9), (0, .ref a0), (1, .int a1), (2, .int a2), (3, .ref a3)]) hx hb dL_longestStick_13 hl (by decide) rfl (fun ls hl => ?_)
      refine lv_iconst (v := (1 : Int32)) hx hb dL_longestStick_15 (by decide) ?_
      refine W.widen (k := 2) (n := 12) (by decide) (by decide) ?_
      exact ge_Ni hx hb hlocks hr hn0 hI hq dL_longestStick_16
    · replace hq := i_f hz0 hq
      by_cases hz1 : z = 1
      · subst hz1
        replace hq := i_t rfl hq
        refine gh_cR (name := "java/lang/IllegalArgumentException") (g_runVX (As := [.int a1, .int a2]) (rest := [.int (0 : Int32), .ref a3]) (ci := 9) hC (c_X7_longestStick l hl0 V g D cT f n a0 a1 a2 (.inl 1) hz) k_X7_longestStick m_863 rfl rfl ⟨Nat.le_of_ble_eq_true rfl, Nat.le_of_ble_eq_true rfl⟩ hI rfl rfl (h_me_eq hz).1 rfl hl.1 rfl (Nat.le_of_ble_eq_true rfl) dL_longestStick_5 ⟨by decide, by decide⟩) no_i hI hown [⟨0, 10, 13, 19⟩] ⟨0, 10, 17, 13⟩ [] (by rw [ht]; rfl) (fun y hy => by rw [List.mem_singleton.mp hy]; exact Or.inr ⟨by decide, "java/lang/IndexOutOfBoundsException", hB _ m_745, gh_nc hI (i := 2) (a := "java/lang/IllegalArgumentException") (b := "java/lang/IndexOutOfBoundsException") rfl⟩) (by decide) (by decide) (hB _ m_609) (gh_ca hI (i := 5) (a := "java/lang/IllegalArgumentException") (b := "java/lang/IllegalArgumentException") rfl) (fun H locs q9 hI => ?_)
        refine lv_astore (lv' := [(4, .ref q9), (0, .ref a0), (1, .int a1), (2, .int a2), (3, .ref a3)]) hx hb dL_longestStick_17 hl (by decide) rfl (fun ls hl => ?_)
        refine lv_iconst (v := (2 : Int32)) hx hb dL_longestStick_19 (by decide) ?_
        refine W.widen (k := 2) (n := 12) (by decide) (by decide) ?_
        exact ge_Ni hx hb hlocks hr hn0 hI hq dL_longestStick_20
      · replace hq := i_f hz1 hq
        cases hq
  · rename_i v hz
    refine gx_i (g_runVX (As := [.int a1, .int a2]) (rest := [.int (0 : Int32), .ref a3]) (ci := 9) hC (c_X7_longestStick l hl0 V g D cT f n a0 a1 a2 (.inr v) hz) k_X7_longestStick m_863 rfl rfl ⟨Nat.le_of_ble_eq_true rfl, Nat.le_of_ble_eq_true rfl⟩ hI rfl rfl (h_me_eq hz).1 rfl hl.1 rfl (Nat.le_of_ble_eq_true rfl) dL_longestStick_5 ⟨by decide, by decide⟩) hI (fun H locs hI => ?_)
    refine lv_i2l hx hb dL_longestStick_8 rfl ?_
    obtain ⟨f1, ef1, hq⟩ := b_s hq
    refine fa_sl hx hb hI ef1 dL_longestStick_9 (fun H locs hI => ?_)
    refine lv_goto (tgt := 21) hx hb dL_longestStick_10 (by decide) ?_
    refine lv_iconst (v := (0 : Int32)) hx hb dL_longestStick_21 (by decide) ?_
    refine W.widen (k := 2) (n := 12) (by decide) (by decide) ?_
    exact ge_Ni hx hb hlocks hr hn0 hI hq dL_longestStick_22
abbrev rm_L_lengthGain : Room := { frames := 10, cells := 2, slots := 12, locals := 283 }
set_option maxHeartbeats 4000000 in
set_option maxRecDepth 100000 in
theorem c_L_lengthGain (l : Launch) (hl0 : l.stackTraces = false) (V : Nat → Nat) (g : GH) (D : va_G) (cT : Nat → ClassId) (f : GH) (n : Nat) (a0 : Nat) (a1 : Int32) (a2 : Int32) (a3 : Nat) (o : Int32 × GH) (hq : p_L_lengthGain V g f a0 a1 a2 a3 = some o) : Met l yL_lengthGain (Cond.codeWith yL_lengthGain cL_lengthGain 5 (some .int) [(0, 10, 13, 19), (0, 10, 17, 13)] :: g_B) rm_L_lengthGain (va_Pc [.ref a0, .int a1, .int a2, .ref a3] (g_I V g D cT f n)) (g_Wn V D cT o n) 2 12 (g_A V) := by
  refine gh_begin (own := RL) [.ref a0, .int a1, .int a2, .ref a3] [(0, .ref a0), (1, .int a1), (2, .int a2), (3, .ref a3)] (by decide) rfl (Nat.le_of_ble_eq_true rfl) rfl ?_
  intro p e s m args below meth c hx hb hr hlocks hC ht hI ls hl
  obtain ⟨hx, hb, hml, hown, hB⟩ := id hC
  have hn0 : s.heap.size = n := hI.1
  obtain ⟨H, hH⟩ : ∃ H, H = s.heap := ⟨_, rfl⟩
  obtain ⟨locs, hlocs⟩ : ∃ L : List Loc, L = [] := ⟨_, rfl⟩
  rw [← hH, ← hlocs] at hI ⊢
  clear hH hlocs
  unfold p_L_lengthGain at hq
  refine lv_aload_n hx hb dL_lengthGain_0 rfl (lv_at hl 3 rfl) ?_
  refine lv_iconst (v := (0 : Int32)) hx hb dL_lengthGain_1 (by decide) ?_
  refine lv_aload_n hx hb dL_lengthGain_2 rfl (lv_at hl 0 rfl) ?_
  refine lv_iload_n hx hb dL_lengthGain_3 rfl (lv_at hl 1 rfl) ?_
  refine lv_iload_n hx hb dL_lengthGain_4 rfl (lv_at hl 2 rfl) ?_
  split at hq
  · cases hq
  · rename_i z hz
    by_cases hz0 : z = 0
    · subst hz0
      replace hq := i_t rfl hq
      refine gh_cR (name := "java/lang/IndexOutOfBoundsException") (g_runVX (As := [.int a1, .int a2]) (rest := [.int (0 : Int32), .ref a3]) (ci := 9) hC (c_X7_lengthGain l hl0 V g D cT f n a0 a1 a2 (.inl 0) hz) k_X7_lengthGain m_870 rfl rfl ⟨Nat.le_of_ble_eq_true rfl, Nat.le_of_ble_eq_true rfl⟩ hI rfl rfl (h_me_eq hz).1 rfl hl.1 rfl (Nat.le_of_ble_eq_true rfl) dL_lengthGain_5 ⟨by decide, by decide⟩) no_i hI hown [] ⟨0, 10, 13, 19⟩ [⟨0, 10, 17, 13⟩] (by rw [ht]; rfl) (fun _ h => nomatch h) (by decide) (by decide) (hB _ m_745) (gh_ca hI (i := 4) (a := "java/lang/IndexOutOfBoundsException") (b := "java/lang/IndexOutOfBoundsException") rfl) (fun H locs q9 hI => ?_)
      refine lv_astore (lv' := [(4, .ref q9), (0, .ref a0), (1, .int a1), (2, .int a2), (3, .ref a3)]) hx hb dL_lengthGain_13 hl (by decide) rfl (fun ls hl => ?_)
      refine lv_iconst (v := (1 : Int32)) hx hb dL_lengthGain_15 (by decide) ?_
      refine W.widen (k := 2) (n := 12) (by decide) (by decide) ?_
      exact ge_Ni hx hb hlocks hr hn0 hI hq dL_lengthGain_16
    · replace hq := i_f hz0 hq
      by_cases hz1 : z = 1
      · subst hz1
        replace hq := i_t rfl hq
        refine gh_cR (name := "java/lang/IllegalArgumentException") (g_runVX (As := [.int a1, .int a2]) (rest := [.int (0 : Int32), .ref a3]) (ci := 9) hC (c_X7_lengthGain l hl0 V g D cT f n a0 a1 a2 (.inl 1) hz) k_X7_lengthGain m_870 rfl rfl ⟨Nat.le_of_ble_eq_true rfl, Nat.le_of_ble_eq_true rfl⟩ hI rfl rfl (h_me_eq hz).1 rfl hl.1 rfl (Nat.le_of_ble_eq_true rfl) dL_lengthGain_5 ⟨by decide, by decide⟩) no_i hI hown [⟨0, 10, 13, 19⟩] ⟨0, 10, 17, 13⟩ [] (by rw [ht]; rfl) (fun y hy => by rw [List.mem_singleton.mp hy]; exact Or.inr ⟨by decide, "java/lang/IndexOutOfBoundsException", hB _ m_745, gh_nc hI (i := 2) (a := "java/lang/IllegalArgumentException") (b := "java/lang/IndexOutOfBoundsException") rfl⟩) (by decide) (by decide) (hB _ m_609) (gh_ca hI (i := 5) (a := "java/lang/IllegalArgumentException") (b := "java/lang/IllegalArgumentException") rfl) (fun H locs q9 hI => ?_)
        refine lv_astore (lv' := [(4, .ref q9), (0, .ref a0), (1, .int a1), (2, .int a2), (3, .ref a3)]) hx hb dL_lengthGain_17 hl (by decide) rfl (fun ls hl => ?_)
        refine lv_iconst (v := (2 : Int32)) hx hb dL_lengthGain_19 (by decide) ?_
        refine W.widen (k := 2) (n := 12) (by decide) (by decide) ?_
        exact ge_Ni hx hb hlocks hr hn0 hI hq dL_lengthGain_20
      · replace hq := i_f hz1 hq
        cases hq
  · rename_i v hz
    refine gx_i (g_runVX (As := [.int a1, .int a2]) (rest := [.int (0 : Int32), .ref a3]) (ci := 9) hC (c_X7_lengthGain l hl0 V g D cT f n a0 a1 a2 (.inr v) hz) k_X7_lengthGain m_870 rfl rfl ⟨Nat.le_of_ble_eq_true rfl, Nat.le_of_ble_eq_true rfl⟩ hI rfl rfl (h_me_eq hz).1 rfl hl.1 rfl (Nat.le_of_ble_eq_true rfl) dL_lengthGain_5 ⟨by decide, by decide⟩) hI (fun H locs hI => ?_)
    refine lv_i2l hx hb dL_lengthGain_8 rfl ?_
    obtain ⟨f1, ef1, hq⟩ := b_s hq
    refine fa_sl hx hb hI ef1 dL_lengthGain_9 (fun H locs hI => ?_)
    refine lv_goto (tgt := 21) hx hb dL_lengthGain_10 (by decide) ?_
    refine lv_iconst (v := (0 : Int32)) hx hb dL_lengthGain_21 (by decide) ?_
    refine W.widen (k := 2) (n := 12) (by decide) (by decide) ?_
    exact ge_Ni hx hb hlocks hr hn0 hI hq dL_lengthGain_22
abbrev rm_L_levelOfGreatestGain : Room := { frames := 10, cells := 1, slots := 6, locals := 286 }
set_option maxHeartbeats 4000000 in
set_option maxRecDepth 100000 in
theorem c_L_levelOfGreatestGain (l : Launch) (hl0 : l.stackTraces = false) (V : Nat → Nat) (g : GH) (D : va_G) (cT : Nat → ClassId) (f : GH) (n : Nat) (a0 : Nat) (a1 : Int32) (a2 : Nat) (o : Int32 × GH) (hq : p_L_levelOfGreatestGain V g f a0 a1 a2 = some o) : Met l yL_levelOfGreatestGain (Cond.codeWith yL_levelOfGreatestGain cL_levelOfGreatestGain 4 (some .int) [(0, 9, 12, 19)] :: g_B) rm_L_levelOfGreatestGain (va_Pc [.ref a0, .int a1, .ref a2] (g_I V g D cT f n)) (g_Wn V D cT o n) 1 6 (g_A V) := by
  refine gh_begin (own := RL) [.ref a0, .int a1, .ref a2] [(0, .ref a0), (1, .int a1), (2, .ref a2)] (by decide) rfl (Nat.le_of_ble_eq_true rfl) rfl ?_
  intro p e s m args below meth c hx hb hr hlocks hC ht hI ls hl
  obtain ⟨hx, hb, hml, hown, hB⟩ := id hC
  have hn0 : s.heap.size = n := hI.1
  obtain ⟨H, hH⟩ : ∃ H, H = s.heap := ⟨_, rfl⟩
  obtain ⟨locs, hlocs⟩ : ∃ L : List Loc, L = [] := ⟨_, rfl⟩
  rw [← hH, ← hlocs] at hI ⊢
  clear hH hlocs
  unfold p_L_levelOfGreatestGain at hq
  refine lv_aload_n hx hb dL_levelOfGreatestGain_0 rfl (lv_at hl 2 rfl) ?_
  refine lv_iconst (v := (0 : Int32)) hx hb dL_levelOfGreatestGain_1 (by decide) ?_
  refine lv_aload_n hx hb dL_levelOfGreatestGain_2 rfl (lv_at hl 0 rfl) ?_
  refine lv_iload_n hx hb dL_levelOfGreatestGain_3 rfl (lv_at hl 1 rfl) ?_
  split at hq
  · cases hq
  · rename_i z hz
    by_cases hz0 : z = 0
    · subst hz0
      replace hq := i_t rfl hq
      refine gh_cR (name := "java/lang/IndexOutOfBoundsException") (g_runVX (As := [.int a1]) (rest := [.int (0 : Int32), .ref a2]) (ci := 9) hC (c_X7_levelOfGreatestGain l hl0 V g D cT f n a0 a1 (.inl 0) hz) k_X7_levelOfGreatestGain m_882 rfl rfl ⟨Nat.le_of_ble_eq_true rfl, Nat.le_of_ble_eq_true rfl⟩ hI rfl rfl (h_me_eq hz).1 rfl hl.1 rfl (Nat.le_of_ble_eq_true rfl) dL_levelOfGreatestGain_4 ⟨by decide, by decide⟩) no_i hI hown [] ⟨0, 9, 12, 19⟩ [] (by rw [ht]; rfl) (fun _ h => nomatch h) (by decide) (by decide) (hB _ m_745) (gh_ca hI (i := 4) (a := "java/lang/IndexOutOfBoundsException") (b := "java/lang/IndexOutOfBoundsException") rfl) (fun H locs q9 hI => ?_)
      refine lv_astore_n (lv' := [(3, .ref q9), (0, .ref a0), (1, .int a1), (2, .ref a2)]) hx hb dL_levelOfGreatestGain_12 rfl hl (by decide) rfl (fun ls hl => ?_)
      refine lv_iconst (v := (1 : Int32)) hx hb dL_levelOfGreatestGain_13 (by decide) ?_
      refine W.widen (k := 1) (n := 6) (by decide) (by decide) ?_
      exact ge_Ni hx hb hlocks hr hn0 hI hq dL_levelOfGreatestGain_14
    · replace hq := i_f hz0 hq
      cases hq
  · rename_i v hz
    refine gx_i (g_runVX (As := [.int a1]) (rest := [.int (0 : Int32), .ref a2]) (ci := 9) hC (c_X7_levelOfGreatestGain l hl0 V g D cT f n a0 a1 (.inr v) hz) k_X7_levelOfGreatestGain m_882 rfl rfl ⟨Nat.le_of_ble_eq_true rfl, Nat.le_of_ble_eq_true rfl⟩ hI rfl rfl (h_me_eq hz).1 rfl hl.1 rfl (Nat.le_of_ble_eq_true rfl) dL_levelOfGreatestGain_4 ⟨by decide, by decide⟩) hI (fun H locs hI => ?_)
    refine lv_i2l hx hb dL_levelOfGreatestGain_7 rfl ?_
    obtain ⟨f1, ef1, hq⟩ := b_s hq
    refine fa_sl hx hb hI ef1 dL_levelOfGreatestGain_8 (fun H locs hI => ?_)
    refine lv_goto (tgt := 15) hx hb dL_levelOfGreatestGain_9 (by decide) ?_
    refine lv_iconst (v := (0 : Int32)) hx hb dL_levelOfGreatestGain_15 (by decide) ?_
    refine W.widen (k := 1) (n := 6) (by decide) (by decide) ?_
    exact ge_Ni hx hb hlocks hr hn0 hI hq dL_levelOfGreatestGain_16
abbrev rm_L_coarsestLevelFor : Room := { frames := 10, cells := 2, slots := 12, locals := 284 }
set_option maxHeartbeats 4000000 in
set_option maxRecDepth 100000 in
theorem c_L_coarsestLevelFor (l : Launch) (hl0 : l.stackTraces = false) (V : Nat → Nat) (g : GH) (D : va_G) (cT : Nat → ClassId) (f : GH) (n : Nat) (a0 : Nat) (a1 : Int32) (a2 : Int32) (a3 : Nat) (o : Int32 × GH) (hq : p_L_coarsestLevelFor V g f a0 a1 a2 a3 = some o) : Met l yL_coarsestLevelFor (Cond.codeWith yL_coarsestLevelFor cL_coarsestLevelFor 5 (some .int) [(0, 10, 13, 19), (0, 10, 17, 13)] :: g_B) rm_L_coarsestLevelFor (va_Pc [.ref a0, .int a1, .int a2, .ref a3] (g_I V g D cT f n)) (g_Wn V D cT o n) 2 12 (g_A V) := by
  refine gh_begin (own := RL) [.ref a0, .int a1, .int a2, .ref a3] [(0, .ref a0), (1, .int a1), (2, .int a2), (3, .ref a3)] (by decide) rfl (Nat.le_of_ble_eq_true rfl) rfl ?_
  intro p e s m args below meth c hx hb hr hlocks hC ht hI ls hl
  obtain ⟨hx, hb, hml, hown, hB⟩ := id hC
  have hn0 : s.heap.size = n := hI.1
  obtain ⟨H, hH⟩ : ∃ H, H = s.heap := ⟨_, rfl⟩
  obtain ⟨locs, hlocs⟩ : ∃ L : List Loc, L = [] := ⟨_, rfl⟩
  rw [← hH, ← hlocs] at hI ⊢
  clear hH hlocs
  unfold p_L_coarsestLevelFor at hq
  refine lv_aload_n hx hb dL_coarsestLevelFor_0 rfl (lv_at hl 3 rfl) ?_
  refine lv_iconst (v := (0 : Int32)) hx hb dL_coarsestLevelFor_1 (by decide) ?_
  refine lv_aload_n hx hb dL_coarsestLevelFor_2 rfl (lv_at hl 0 rfl) ?_
  refine lv_iload_n hx hb dL_coarsestLevelFor_3 rfl (lv_at hl 1 rfl) ?_
  refine lv_iload_n hx hb dL_coarsestLevelFor_4 rfl (lv_at hl 2 rfl) ?_
  split at hq
  · cases hq
  · rename_i z hz
    by_cases hz0 : z = 0
    · subst hz0
      replace hq := i_t rfl hq
      refine gh_cR (name := "java/lang/IndexOutOfBoundsException") (g_runVX (As := [.int a1, .int a2]) (rest := [.int (0 : Int32), .ref a3]) (ci := 9) hC (c_X7_coarsestLevelFor l hl0 V g D cT f n a0 a1 a2 (.inl 0) hz) k_X7_coarsestLevelFor m_889 rfl rfl ⟨Nat.le_of_ble_eq_true rfl, Nat.le_of_ble_eq_true rfl⟩ hI rfl rfl (h_me_eq hz).1 rfl hl.1 rfl (Nat.le_of_ble_eq_true rfl) dL_coarsestLevelFor_5 ⟨by decide, by decide⟩) no_i hI hown [] ⟨0, 10, 13, 19⟩ [⟨0, 10, 17, 13⟩] (by rw [ht]; rfl) (fun _ h => nomatch h) (by decide) (by decide) (hB _ m_745) (gh_ca hI (i := 4) (a := "java/lang/IndexOutOfBoundsException") (b := "java/lang/IndexOutOfBoundsException") rfl) (fun H locs q9 hI => ?_)
      refine lv_astore (lv' := [(4, .ref q9), (0, .ref a0), (1, .int a1), (2, .int a2), (3, .ref a3)]) hx hb dL_coarsestLevelFor_13 hl (by decide) rfl (fun ls hl => ?_)
      refine lv_iconst (v := (1 : Int32)) hx hb dL_coarsestLevelFor_15 (by decide) ?_
      refine W.widen (k := 2) (n := 12) (by decide) (by decide) ?_
      exact ge_Ni hx hb hlocks hr hn0 hI hq dL_coarsestLevelFor_16
    · replace hq := i_f hz0 hq
      by_cases hz1 : z = 1
      · subst hz1
        replace hq := i_t rfl hq
        refine gh_cR (name := "java/lang/IllegalArgumentException") (g_runVX (As := [.int a1, .int a2]) (rest := [.int (0 : Int32), .ref a3]) (ci := 9) hC (c_X7_coarsestLevelFor l hl0 V g D cT f n a0 a1 a2 (.inl 1) hz) k_X7_coarsestLevelFor m_889 rfl rfl ⟨Nat.le_of_ble_eq_true rfl, Nat.le_of_ble_eq_true rfl⟩ hI rfl rfl (h_me_eq hz).1 rfl hl.1 rfl (Nat.le_of_ble_eq_true rfl) dL_coarsestLevelFor_5 ⟨by decide, by decide⟩) no_i hI hown [⟨0, 10, 13, 19⟩] ⟨0, 10, 17, 13⟩ [] (by rw [ht]; rfl) (fun y hy => by rw [List.mem_singleton.mp hy]; exact Or.inr ⟨by decide, "java/lang/IndexOutOfBoundsException", hB _ m_745, gh_nc hI (i := 2) (a := "java/lang/IllegalArgumentException") (b := "java/lang/IndexOutOfBoundsException") rfl⟩) (by decide) (by decide) (hB _ m_609) (gh_ca hI (i := 5) (a := "java/lang/IllegalArgumentException") (b := "java/lang/IllegalArgumentException") rfl) (fun H locs q9 hI => ?_)
        refine lv_astore (lv' := [(4, .ref q9), (0, .ref a0), (1, .int a1), (2, .int a2), (3, .ref a3)]) hx hb dL_coarsestLevelFor_17 hl (by decide) rfl (fun ls hl => ?_)
        refine lv_iconst (v := (2 : Int32)) hx hb dL_coarsestLevelFor_19 (by decide) ?_
        refine W.widen (k := 2) (n := 12) (by decide) (by decide) ?_
        exact ge_Ni hx hb hlocks hr hn0 hI hq dL_coarsestLevelFor_20
      · replace hq := i_f hz1 hq
        cases hq
  · rename_i v hz
    refine gx_i (g_runVX (As := [.int a1, .int a2]) (rest := [.int (0 : Int32), .ref a3]) (ci := 9) hC (c_X7_coarsestLevelFor l hl0 V g D cT f n a0 a1 a2 (.inr v) hz) k_X7_coarsestLevelFor m_889 rfl rfl ⟨Nat.le_of_ble_eq_true rfl, Nat.le_of_ble_eq_true rfl⟩ hI rfl rfl (h_me_eq hz).1 rfl hl.1 rfl (Nat.le_of_ble_eq_true rfl) dL_coarsestLevelFor_5 ⟨by decide, by decide⟩) hI (fun H locs hI => ?_)
    refine lv_i2l hx hb dL_coarsestLevelFor_8 rfl ?_
    obtain ⟨f1, ef1, hq⟩ := b_s hq
    refine fa_sl hx hb hI ef1 dL_coarsestLevelFor_9 (fun H locs hI => ?_)
    refine lv_goto (tgt := 21) hx hb dL_coarsestLevelFor_10 (by decide) ?_
    refine lv_iconst (v := (0 : Int32)) hx hb dL_coarsestLevelFor_21 (by decide) ?_
    refine W.widen (k := 2) (n := 12) (by decide) (by decide) ?_
    exact ge_Ni hx hb hlocks hr hn0 hI hq dL_coarsestLevelFor_22
abbrev rm_L_coarsestExactLevel : Room := { frames := 10, cells := 1, slots := 6, locals := 283 }
set_option maxHeartbeats 4000000 in
set_option maxRecDepth 100000 in
theorem c_L_coarsestExactLevel (l : Launch) (hl0 : l.stackTraces = false) (V : Nat → Nat) (g : GH) (D : va_G) (cT : Nat → ClassId) (f : GH) (n : Nat) (a0 : Nat) (a1 : Int32) (a2 : Nat) (o : Int32 × GH) (hq : p_L_coarsestExactLevel V g f a0 a1 a2 = some o) : Met l yL_coarsestExactLevel (Cond.codeWith yL_coarsestExactLevel cL_coarsestExactLevel 4 (some .int) [(0, 9, 12, 19)] :: g_B) rm_L_coarsestExactLevel (va_Pc [.ref a0, .int a1, .ref a2] (g_I V g D cT f n)) (g_Wn V D cT o n) 1 6 (g_A V) := by
  refine gh_begin (own := RL) [.ref a0, .int a1, .ref a2] [(0, .ref a0), (1, .int a1), (2, .ref a2)] (by decide) rfl (Nat.le_of_ble_eq_true rfl) rfl ?_
  intro p e s m args below meth c hx hb hr hlocks hC ht hI ls hl
  obtain ⟨hx, hb, hml, hown, hB⟩ := id hC
  have hn0 : s.heap.size = n := hI.1
  obtain ⟨H, hH⟩ : ∃ H, H = s.heap := ⟨_, rfl⟩
  obtain ⟨locs, hlocs⟩ : ∃ L : List Loc, L = [] := ⟨_, rfl⟩
  rw [← hH, ← hlocs] at hI ⊢
  clear hH hlocs
  unfold p_L_coarsestExactLevel at hq
  refine lv_aload_n hx hb dL_coarsestExactLevel_0 rfl (lv_at hl 2 rfl) ?_
  refine lv_iconst (v := (0 : Int32)) hx hb dL_coarsestExactLevel_1 (by decide) ?_
  refine lv_aload_n hx hb dL_coarsestExactLevel_2 rfl (lv_at hl 0 rfl) ?_
  refine lv_iload_n hx hb dL_coarsestExactLevel_3 rfl (lv_at hl 1 rfl) ?_
  split at hq
  · cases hq
  · rename_i z hz
    by_cases hz0 : z = 0
    · subst hz0
      replace hq := i_t rfl hq
      refine gh_cR (name := "java/lang/IndexOutOfBoundsException") (g_runVX (As := [.int a1]) (rest := [.int (0 : Int32), .ref a2]) (ci := 9) hC (c_X7_coarsestExactLevel l hl0 V g D cT f n a0 a1 (.inl 0) hz) k_X7_coarsestExactLevel m_901 rfl rfl ⟨Nat.le_of_ble_eq_true rfl, Nat.le_of_ble_eq_true rfl⟩ hI rfl rfl (h_me_eq hz).1 rfl hl.1 rfl (Nat.le_of_ble_eq_true rfl) dL_coarsestExactLevel_4 ⟨by decide, by decide⟩) no_i hI hown [] ⟨0, 9, 12, 19⟩ [] (by rw [ht]; rfl) (fun _ h => nomatch h) (by decide) (by decide) (hB _ m_745) (gh_ca hI (i := 4) (a := "java/lang/IndexOutOfBoundsException") (b := "java/lang/IndexOutOfBoundsException") rfl) (fun H locs q9 hI => ?_)
      refine lv_astore_n (lv' := [(3, .ref q9), (0, .ref a0), (1, .int a1), (2, .ref a2)]) hx hb dL_coarsestExactLevel_12 rfl hl (by decide) rfl (fun ls hl => ?_)
      refine lv_iconst (v := (1 : Int32)) hx hb dL_coarsestExactLevel_13 (by decide) ?_
      refine W.widen (k := 1) (n := 6) (by decide) (by decide) ?_
      exact ge_Ni hx hb hlocks hr hn0 hI hq dL_coarsestExactLevel_14
    · replace hq := i_f hz0 hq
      cases hq
  · rename_i v hz
    refine gx_i (g_runVX (As := [.int a1]) (rest := [.int (0 : Int32), .ref a2]) (ci := 9) hC (c_X7_coarsestExactLevel l hl0 V g D cT f n a0 a1 (.inr v) hz) k_X7_coarsestExactLevel m_901 rfl rfl ⟨Nat.le_of_ble_eq_true rfl, Nat.le_of_ble_eq_true rfl⟩ hI rfl rfl (h_me_eq hz).1 rfl hl.1 rfl (Nat.le_of_ble_eq_true rfl) dL_coarsestExactLevel_4 ⟨by decide, by decide⟩) hI (fun H locs hI => ?_)
    refine lv_i2l hx hb dL_coarsestExactLevel_7 rfl ?_
    obtain ⟨f1, ef1, hq⟩ := b_s hq
    refine fa_sl hx hb hI ef1 dL_coarsestExactLevel_8 (fun H locs hI => ?_)
    refine lv_goto (tgt := 15) hx hb dL_coarsestExactLevel_9 (by decide) ?_
    refine lv_iconst (v := (0 : Int32)) hx hb dL_coarsestExactLevel_15 (by decide) ?_
    refine W.widen (k := 1) (n := 6) (by decide) (by decide) ?_
    exact ge_Ni hx hb hlocks hr hn0 hI hq dL_coarsestExactLevel_16
abbrev rm_L_totalLength : Room := { frames := 10, cells := 1, slots := 6, locals := 261 }
set_option maxHeartbeats 4000000 in
set_option maxRecDepth 100000 in
theorem c_L_totalLength (l : Launch) (hl0 : l.stackTraces = false) (V : Nat → Nat) (g : GH) (D : va_G) (cT : Nat → ClassId) (f : GH) (n : Nat) (a0 : Nat) (a1 : Int32) (a2 : Nat) (o : Int32 × GH) (hq : p_L_totalLength V g f a0 a1 a2 = some o) : Met l yL_totalLength (Cond.codeWith yL_totalLength cL_totalLength 4 (some .int) [(0, 9, 12, 13)] :: g_B) rm_L_totalLength (va_Pc [.ref a0, .int a1, .ref a2] (g_I V g D cT f n)) (g_Wn V D cT o n) 1 6 (g_A V) := by
  refine gh_begin (own := RL) [.ref a0, .int a1, .ref a2] [(0, .ref a0), (1, .int a1), (2, .ref a2)] (by decide) rfl (Nat.le_of_ble_eq_true rfl) rfl ?_
  intro p e s m args below meth c hx hb hr hlocks hC ht hI ls hl
  obtain ⟨hx, hb, hml, hown, hB⟩ := id hC
  have hn0 : s.heap.size = n := hI.1
  obtain ⟨H, hH⟩ : ∃ H, H = s.heap := ⟨_, rfl⟩
  obtain ⟨locs, hlocs⟩ : ∃ L : List Loc, L = [] := ⟨_, rfl⟩
  rw [← hH, ← hlocs] at hI ⊢
  clear hH hlocs
  unfold p_L_totalLength at hq
  refine lv_aload_n hx hb dL_totalLength_0 rfl (lv_at hl 2 rfl) ?_
  refine lv_iconst (v := (0 : Int32)) hx hb dL_totalLength_1 (by decide) ?_
  refine lv_aload_n hx hb dL_totalLength_2 rfl (lv_at hl 0 rfl) ?_
  refine lv_iload_n hx hb dL_totalLength_3 rfl (lv_at hl 1 rfl) ?_
  split at hq
  · cases hq
  · rename_i z hz
    by_cases hz0 : z = 1
    · subst hz0
      replace hq := i_t rfl hq
      refine gh_cR (name := "java/lang/IllegalArgumentException") (g_runVX (As := [.int a1]) (rest := [.int (0 : Int32), .ref a2]) (ci := 9) hC (c_X7_totalLength l hl0 V g D cT f n a0 a1 (.inl 1) hz) k_X7_totalLength m_908 rfl rfl ⟨Nat.le_of_ble_eq_true rfl, Nat.le_of_ble_eq_true rfl⟩ hI rfl rfl (h_me_eq hz).1 rfl hl.1 rfl (Nat.le_of_ble_eq_true rfl) dL_totalLength_4 ⟨by decide, by decide⟩) no_i hI hown [] ⟨0, 9, 12, 13⟩ [] (by rw [ht]; rfl) (fun _ h => nomatch h) (by decide) (by decide) (hB _ m_609) (gh_ca hI (i := 5) (a := "java/lang/IllegalArgumentException") (b := "java/lang/IllegalArgumentException") rfl) (fun H locs q9 hI => ?_)
      refine lv_astore_n (lv' := [(3, .ref q9), (0, .ref a0), (1, .int a1), (2, .ref a2)]) hx hb dL_totalLength_12 rfl hl (by decide) rfl (fun ls hl => ?_)
      refine lv_iconst (v := (1 : Int32)) hx hb dL_totalLength_13 (by decide) ?_
      refine W.widen (k := 1) (n := 6) (by decide) (by decide) ?_
      exact ge_Ni hx hb hlocks hr hn0 hI hq dL_totalLength_14
    · replace hq := i_f hz0 hq
      cases hq
  · rename_i v hz
    refine gx_i (g_runVX (As := [.int a1]) (rest := [.int (0 : Int32), .ref a2]) (ci := 9) hC (c_X7_totalLength l hl0 V g D cT f n a0 a1 (.inr v) hz) k_X7_totalLength m_908 rfl rfl ⟨Nat.le_of_ble_eq_true rfl, Nat.le_of_ble_eq_true rfl⟩ hI rfl rfl (h_me_eq hz).1 rfl hl.1 rfl (Nat.le_of_ble_eq_true rfl) dL_totalLength_4 ⟨by decide, by decide⟩) hI (fun H locs hI => ?_)
    refine lv_i2l hx hb dL_totalLength_7 rfl ?_
    obtain ⟨f1, ef1, hq⟩ := b_s hq
    refine fa_sl hx hb hI ef1 dL_totalLength_8 (fun H locs hI => ?_)
    refine lv_goto (tgt := 15) hx hb dL_totalLength_9 (by decide) ?_
    refine lv_iconst (v := (0 : Int32)) hx hb dL_totalLength_15 (by decide) ?_
    refine W.widen (k := 1) (n := 6) (by decide) (by decide) ?_
    exact ge_Ni hx hb hlocks hr hn0 hI hq dL_totalLength_16
abbrev rm_L_longestCoast : Room := { frames := 10, cells := 1, slots := 6, locals := 263 }
set_option maxHeartbeats 4000000 in
set_option maxRecDepth 100000 in
theorem c_L_longestCoast (l : Launch) (hl0 : l.stackTraces = false) (V : Nat → Nat) (g : GH) (D : va_G) (cT : Nat → ClassId) (f : GH) (n : Nat) (a0 : Nat) (a1 : Int32) (a2 : Nat) (o : Int32 × GH) (hq : p_L_longestCoast V g f a0 a1 a2 = some o) : Met l yL_longestCoast (Cond.codeWith yL_longestCoast cL_longestCoast 4 (some .int) [(0, 9, 12, 13)] :: g_B) rm_L_longestCoast (va_Pc [.ref a0, .int a1, .ref a2] (g_I V g D cT f n)) (g_Wn V D cT o n) 1 6 (g_A V) := by
  refine gh_begin (own := RL) [.ref a0, .int a1, .ref a2] [(0, .ref a0), (1, .int a1), (2, .ref a2)] (by decide) rfl (Nat.le_of_ble_eq_true rfl) rfl ?_
  intro p e s m args below meth c hx hb hr hlocks hC ht hI ls hl
  obtain ⟨hx, hb, hml, hown, hB⟩ := id hC
  have hn0 : s.heap.size = n := hI.1
  obtain ⟨H, hH⟩ : ∃ H, H = s.heap := ⟨_, rfl⟩
  obtain ⟨locs, hlocs⟩ : ∃ L : List Loc, L = [] := ⟨_, rfl⟩
  rw [← hH, ← hlocs] at hI ⊢
  clear hH hlocs
  unfold p_L_longestCoast at hq
  refine lv_aload_n hx hb dL_longestCoast_0 rfl (lv_at hl 2 rfl) ?_
  refine lv_iconst (v := (0 : Int32)) hx hb dL_longestCoast_1 (by decide) ?_
  refine lv_aload_n hx hb dL_longestCoast_2 rfl (lv_at hl 0 rfl) ?_
  refine lv_iload_n hx hb dL_longestCoast_3 rfl (lv_at hl 1 rfl) ?_
  split at hq
  · cases hq
  · rename_i z hz
    by_cases hz0 : z = 1
    · subst hz0
      replace hq := i_t rfl hq
      refine gh_cR (name := "java/lang/IllegalArgumentException") (g_runVX (As := [.int a1]) (rest := [.int (0 : Int32), .ref a2]) (ci := 9) hC (c_X7_longestCoast l hl0 V g D cT f n a0 a1 (.inl 1) hz) k_X7_longestCoast m_915 rfl rfl ⟨Nat.le_of_ble_eq_true rfl, Nat.le_of_ble_eq_true rfl⟩ hI rfl rfl (h_me_eq hz).1 rfl hl.1 rfl (Nat.le_of_ble_eq_true rfl) dL_longestCoast_4 ⟨by decide, by decide⟩) no_i hI hown [] ⟨0, 9, 12, 13⟩ [] (by rw [ht]; rfl) (fun _ h => nomatch h) (by decide) (by decide) (hB _ m_609) (gh_ca hI (i := 5) (a := "java/lang/IllegalArgumentException") (b := "java/lang/IllegalArgumentException") rfl) (fun H locs q9 hI => ?_)
      refine lv_astore_n (lv' := [(3, .ref q9), (0, .ref a0), (1, .int a1), (2, .ref a2)]) hx hb dL_longestCoast_12 rfl hl (by decide) rfl (fun ls hl => ?_)
      refine lv_iconst (v := (1 : Int32)) hx hb dL_longestCoast_13 (by decide) ?_
      refine W.widen (k := 1) (n := 6) (by decide) (by decide) ?_
      exact ge_Ni hx hb hlocks hr hn0 hI hq dL_longestCoast_14
    · replace hq := i_f hz0 hq
      cases hq
  · rename_i v hz
    refine gx_i (g_runVX (As := [.int a1]) (rest := [.int (0 : Int32), .ref a2]) (ci := 9) hC (c_X7_longestCoast l hl0 V g D cT f n a0 a1 (.inr v) hz) k_X7_longestCoast m_915 rfl rfl ⟨Nat.le_of_ble_eq_true rfl, Nat.le_of_ble_eq_true rfl⟩ hI rfl rfl (h_me_eq hz).1 rfl hl.1 rfl (Nat.le_of_ble_eq_true rfl) dL_longestCoast_4 ⟨by decide, by decide⟩) hI (fun H locs hI => ?_)
    refine lv_i2l hx hb dL_longestCoast_7 rfl ?_
    obtain ⟨f1, ef1, hq⟩ := b_s hq
    refine fa_sl hx hb hI ef1 dL_longestCoast_8 (fun H locs hI => ?_)
    refine lv_goto (tgt := 15) hx hb dL_longestCoast_9 (by decide) ?_
    refine lv_iconst (v := (0 : Int32)) hx hb dL_longestCoast_15 (by decide) ?_
    refine W.widen (k := 1) (n := 6) (by decide) (by decide) ?_
    exact ge_Ni hx hb hlocks hr hn0 hI hq dL_longestCoast_16
abbrev rm_L_refinementRatio : Room := { frames := 10, cells := 2, slots := 12, locals := 262 }
set_option maxHeartbeats 4000000 in
set_option maxRecDepth 100000 in
theorem c_L_refinementRatio (l : Launch) (hl0 : l.stackTraces = false) (V : Nat → Nat) (g : GH) (D : va_G) (cT : Nat → ClassId) (f : GH) (n : Nat) (a0 : Nat) (a1 : Int32) (a2 : Int32) (a3 : Nat) (o : Int32 × GH) (hq : p_L_refinementRatio V g f a0 a1 a2 a3 = some o) : Met l yL_refinementRatio (Cond.codeWith yL_refinementRatio cL_refinementRatio 5 (some .int) [(0, 9, 12, 19), (0, 9, 16, 13)] :: g_B) rm_L_refinementRatio (va_Pc [.ref a0, .int a1, .int a2, .ref a3] (g_I V g D cT f n)) (g_Wn V D cT o n) 2 12 (g_A V) := by
  refine gh_begin (own := RL) [.ref a0, .int a1, .int a2, .ref a3] [(0, .ref a0), (1, .int a1), (2, .int a2), (3, .ref a3)] (by decide) rfl (Nat.le_of_ble_eq_true rfl) rfl ?_
  intro p e s m args below meth c hx hb hr hlocks hC ht hI ls hl
  obtain ⟨hx, hb, hml, hown, hB⟩ := id hC
  have hn0 : s.heap.size = n := hI.1
  obtain ⟨H, hH⟩ : ∃ H, H = s.heap := ⟨_, rfl⟩
  obtain ⟨locs, hlocs⟩ : ∃ L : List Loc, L = [] := ⟨_, rfl⟩
  rw [← hH, ← hlocs] at hI ⊢
  clear hH hlocs
  unfold p_L_refinementRatio at hq
  refine lv_aload_n hx hb dL_refinementRatio_0 rfl (lv_at hl 3 rfl) ?_
  refine lv_iconst (v := (0 : Int32)) hx hb dL_refinementRatio_1 (by decide) ?_
  refine lv_aload_n hx hb dL_refinementRatio_2 rfl (lv_at hl 0 rfl) ?_
  refine lv_iload_n hx hb dL_refinementRatio_3 rfl (lv_at hl 1 rfl) ?_
  refine lv_iload_n hx hb dL_refinementRatio_4 rfl (lv_at hl 2 rfl) ?_
  split at hq
  · cases hq
  · rename_i z hz
    by_cases hz0 : z = 0
    · subst hz0
      replace hq := i_t rfl hq
      refine gh_cR (name := "java/lang/IndexOutOfBoundsException") (g_runVX (As := [.int a1, .int a2]) (rest := [.int (0 : Int32), .ref a3]) (ci := 9) hC (c_X7_refinementRatio l hl0 V g D cT f n a0 a1 a2 (.inl 0) hz) k_X7_refinementRatio m_922 rfl rfl ⟨Nat.le_of_ble_eq_true rfl, Nat.le_of_ble_eq_true rfl⟩ hI rfl rfl (h_me_eq hz).1 rfl hl.1 rfl (Nat.le_of_ble_eq_true rfl) dL_refinementRatio_5 ⟨by decide, by decide⟩) no_d hI hown [] ⟨0, 9, 12, 19⟩ [⟨0, 9, 16, 13⟩] (by rw [ht]; rfl) (fun _ h => nomatch h) (by decide) (by decide) (hB _ m_745) (gh_ca hI (i := 4) (a := "java/lang/IndexOutOfBoundsException") (b := "java/lang/IndexOutOfBoundsException") rfl) (fun H locs q9 hI => ?_)
      refine lv_astore (lv' := [(4, .ref q9), (0, .ref a0), (1, .int a1), (2, .int a2), (3, .ref a3)]) hx hb dL_refinementRatio_12 hl (by decide) rfl (fun ls hl => ?_)
      refine lv_iconst (v := (1 : Int32)) hx hb dL_refinementRatio_14 (by decide) ?_
      refine W.widen (k := 2) (n := 12) (by decide) (by decide) ?_
      exact ge_Ni hx hb hlocks hr hn0 hI hq dL_refinementRatio_15
    · replace hq := i_f hz0 hq
      by_cases hz1 : z = 1
      · subst hz1
        replace hq := i_t rfl hq
        refine gh_cR (name := "java/lang/IllegalArgumentException") (g_runVX (As := [.int a1, .int a2]) (rest := [.int (0 : Int32), .ref a3]) (ci := 9) hC (c_X7_refinementRatio l hl0 V g D cT f n a0 a1 a2 (.inl 1) hz) k_X7_refinementRatio m_922 rfl rfl ⟨Nat.le_of_ble_eq_true rfl, Nat.le_of_ble_eq_true rfl⟩ hI rfl rfl (h_me_eq hz).1 rfl hl.1 rfl (Nat.le_of_ble_eq_true rfl) dL_refinementRatio_5 ⟨by decide, by decide⟩) no_d hI hown [⟨0, 9, 12, 19⟩] ⟨0, 9, 16, 13⟩ [] (by rw [ht]; rfl) (fun y hy => by rw [List.mem_singleton.mp hy]; exact Or.inr ⟨by decide, "java/lang/IndexOutOfBoundsException", hB _ m_745, gh_nc hI (i := 2) (a := "java/lang/IllegalArgumentException") (b := "java/lang/IndexOutOfBoundsException") rfl⟩) (by decide) (by decide) (hB _ m_609) (gh_ca hI (i := 5) (a := "java/lang/IllegalArgumentException") (b := "java/lang/IllegalArgumentException") rfl) (fun H locs q9 hI => ?_)
        refine lv_astore (lv' := [(4, .ref q9), (0, .ref a0), (1, .int a1), (2, .int a2), (3, .ref a3)]) hx hb dL_refinementRatio_16 hl (by decide) rfl (fun ls hl => ?_)
        refine lv_iconst (v := (2 : Int32)) hx hb dL_refinementRatio_18 (by decide) ?_
        refine W.widen (k := 2) (n := 12) (by decide) (by decide) ?_
        exact ge_Ni hx hb hlocks hr hn0 hI hq dL_refinementRatio_19
      · replace hq := i_f hz1 hq
        cases hq
  · rename_i v hz
    refine gx_d (g_runVX (As := [.int a1, .int a2]) (rest := [.int (0 : Int32), .ref a3]) (ci := 9) hC (c_X7_refinementRatio l hl0 V g D cT f n a0 a1 a2 (.inr v) hz) k_X7_refinementRatio m_922 rfl rfl ⟨Nat.le_of_ble_eq_true rfl, Nat.le_of_ble_eq_true rfl⟩ hI rfl rfl (h_me_eq hz).1 rfl hl.1 rfl (Nat.le_of_ble_eq_true rfl) dL_refinementRatio_5 ⟨by decide, by decide⟩) hI (fun H locs hI => ?_)
    obtain ⟨f1, ef1, hq⟩ := b_s hq
    refine fa_sd hx hb hI ef1 dL_refinementRatio_8 (fun H locs hI => ?_)
    refine lv_goto (tgt := 20) hx hb dL_refinementRatio_9 (by decide) ?_
    refine lv_iconst (v := (0 : Int32)) hx hb dL_refinementRatio_20 (by decide) ?_
    refine W.widen (k := 2) (n := 12) (by decide) (by decide) ?_
    exact ge_Ni hx hb hlocks hr hn0 hI hq dL_refinementRatio_21
abbrev rm_L_meanStickLength : Room := { frames := 10, cells := 2, slots := 12, locals := 262 }
set_option maxHeartbeats 4000000 in
set_option maxRecDepth 100000 in
theorem c_L_meanStickLength (l : Launch) (hl0 : l.stackTraces = false) (V : Nat → Nat) (g : GH) (D : va_G) (cT : Nat → ClassId) (f : GH) (n : Nat) (a0 : Nat) (a1 : Int32) (a2 : Int32) (a3 : Nat) (o : Int32 × GH) (hq : p_L_meanStickLength V g f a0 a1 a2 a3 = some o) : Met l yL_meanStickLength (Cond.codeWith yL_meanStickLength cL_meanStickLength 5 (some .int) [(0, 10, 13, 19), (0, 10, 17, 13)] :: g_B) rm_L_meanStickLength (va_Pc [.ref a0, .int a1, .int a2, .ref a3] (g_I V g D cT f n)) (g_Wn V D cT o n) 2 12 (g_A V) := by
  refine gh_begin (own := RL) [.ref a0, .int a1, .int a2, .ref a3] [(0, .ref a0), (1, .int a1), (2, .int a2), (3, .ref a3)] (by decide) rfl (Nat.le_of_ble_eq_true rfl) rfl ?_
  intro p e s m args below meth c hx hb hr hlocks hC ht hI ls hl
  obtain ⟨hx, hb, hml, hown, hB⟩ := id hC
  have hn0 : s.heap.size = n := hI.1
  obtain ⟨H, hH⟩ : ∃ H, H = s.heap := ⟨_, rfl⟩
  obtain ⟨locs, hlocs⟩ : ∃ L : List Loc, L = [] := ⟨_, rfl⟩
  rw [← hH, ← hlocs] at hI ⊢
  clear hH hlocs
  unfold p_L_meanStickLength at hq
  refine lv_aload_n hx hb dL_meanStickLength_0 rfl (lv_at hl 3 rfl) ?_
  refine lv_iconst (v := (0 : Int32)) hx hb dL_meanStickLength_1 (by decide) ?_
  refine lv_aload_n hx hb dL_meanStickLength_2 rfl (lv_at hl 0 rfl) ?_
  refine lv_iload_n hx hb dL_meanStickLength_3 rfl (lv_at hl 1 rfl) ?_
  refine lv_iload_n hx hb dL_meanStickLength_4 rfl (lv_at hl 2 rfl) ?_
  split at hq
  · cases hq
  · rename_i z hz
    by_cases hz0 : z = 0
    · subst hz0
      replace hq := i_t rfl hq
      refine gh_cR (name := "java/lang/IndexOutOfBoundsException") (g_runVX (As := [.int a1, .int a2]) (rest := [.int (0 : Int32), .ref a3]) (ci := 9) hC (c_X7_meanStickLength l hl0 V g D cT f n a0 a1 a2 (.inl 0) hz) k_X7_meanStickLength m_929 rfl rfl ⟨Nat.le_of_ble_eq_true rfl, Nat.le_of_ble_eq_true rfl⟩ hI rfl rfl (h_me_eq hz).1 rfl hl.1 rfl (Nat.le_of_ble_eq_true rfl) dL_meanStickLength_5 ⟨by decide, by decide⟩) no_f hI hown [] ⟨0, 10, 13, 19⟩ [⟨0, 10, 17, 13⟩] (by rw [ht]; rfl) (fun _ h => nomatch h) (by decide) (by decide) (hB _ m_745) (gh_ca hI (i := 4) (a := "java/lang/IndexOutOfBoundsException") (b := "java/lang/IndexOutOfBoundsException") rfl) (fun H locs q9 hI => ?_)
      refine lv_astore (lv' := [(4, .ref q9), (0, .ref a0), (1, .int a1), (2, .int a2), (3, .ref a3)]) hx hb dL_meanStickLength_13 hl (by decide) rfl (fun ls hl => ?_)
      refine lv_iconst (v := (1 : Int32)) hx hb dL_meanStickLength_15 (by decide) ?_
      refine W.widen (k := 2) (n := 12) (by decide) (by decide) ?_
      exact ge_Ni hx hb hlocks hr hn0 hI hq dL_meanStickLength_16
    · replace hq := i_f hz0 hq
      by_cases hz1 : z = 1
      · subst hz1
        replace hq := i_t rfl hq
        refine gh_cR (name := "java/lang/IllegalArgumentException") (g_runVX (As := [.int a1, .int a2]) (rest := [.int (0 : Int32), .ref a3]) (ci := 9) hC (c_X7_meanStickLength l hl0 V g D cT f n a0 a1 a2 (.inl 1) hz) k_X7_meanStickLength m_929 rfl rfl ⟨Nat.le_of_ble_eq_true rfl, Nat.le_of_ble_eq_true rfl⟩ hI rfl rfl (h_me_eq hz).1 rfl hl.1 rfl (Nat.le_of_ble_eq_true rfl) dL_meanStickLength_5 ⟨by decide, by decide⟩) no_f hI hown [⟨0, 10, 13, 19⟩] ⟨0, 10, 17, 13⟩ [] (by rw [ht]; rfl) (fun y hy => by rw [List.mem_singleton.mp hy]; exact Or.inr ⟨by decide, "java/lang/IndexOutOfBoundsException", hB _ m_745, gh_nc hI (i := 2) (a := "java/lang/IllegalArgumentException") (b := "java/lang/IndexOutOfBoundsException") rfl⟩) (by decide) (by decide) (hB _ m_609) (gh_ca hI (i := 5) (a := "java/lang/IllegalArgumentException") (b := "java/lang/IllegalArgumentException") rfl) (fun H locs q9 hI => ?_)
        refine lv_astore (lv' := [(4, .ref q9), (0, .ref a0), (1, .int a1), (2, .int a2), (3, .ref a3)]) hx hb dL_meanStickLength_17 hl (by decide) rfl (fun ls hl => ?_)
        refine lv_iconst (v := (2 : Int32)) hx hb dL_meanStickLength_19 (by decide) ?_
        refine W.widen (k := 2) (n := 12) (by decide) (by decide) ?_
        exact ge_Ni hx hb hlocks hr hn0 hI hq dL_meanStickLength_20
      · replace hq := i_f hz1 hq
        cases hq
  · rename_i v hz
    refine gx_f (g_runVX (As := [.int a1, .int a2]) (rest := [.int (0 : Int32), .ref a3]) (ci := 9) hC (c_X7_meanStickLength l hl0 V g D cT f n a0 a1 a2 (.inr v) hz) k_X7_meanStickLength m_929 rfl rfl ⟨Nat.le_of_ble_eq_true rfl, Nat.le_of_ble_eq_true rfl⟩ hI rfl rfl (h_me_eq hz).1 rfl hl.1 rfl (Nat.le_of_ble_eq_true rfl) dL_meanStickLength_5 ⟨by decide, by decide⟩) hI (fun H locs hI => ?_)
    obtain ⟨w, ew, hq⟩ := b_s hq
    obtain ⟨rfl, nw⟩ := h_f2d_eq ew
    refine lv_f2d hx hb dL_meanStickLength_8 nw ?_
    obtain ⟨f1, ef1, hq⟩ := b_s hq
    refine fa_sd hx hb hI ef1 dL_meanStickLength_9 (fun H locs hI => ?_)
    refine lv_goto (tgt := 21) hx hb dL_meanStickLength_10 (by decide) ?_
    refine lv_iconst (v := (0 : Int32)) hx hb dL_meanStickLength_21 (by decide) ?_
    refine W.widen (k := 2) (n := 12) (by decide) (by decide) ?_
    exact ge_Ni hx hb hlocks hr hn0 hI hq dL_meanStickLength_22
abbrev rm_L_doubledArea : Room := { frames := 11, cells := 2, slots := 12, locals := 205 }
set_option maxHeartbeats 4000000 in
set_option maxRecDepth 100000 in
theorem c_L_doubledArea (l : Launch) (hl0 : l.stackTraces = false) (V : Nat → Nat) (g : GH) (D : va_G) (cT : Nat → ClassId) (f : GH) (n : Nat) (a0 : Nat) (a1 : Int32) (a2 : Nat) (o : Int32 × GH) (hq : p_L_doubledArea V g f a0 a1 a2 = some o) : Met l yL_doubledArea (Cond.codeWith yL_doubledArea cL_doubledArea 4 (some .int) [(0, 9, 12, 19), (0, 9, 15, 82)] :: g_B) rm_L_doubledArea (va_Pc [.ref a0, .int a1, .ref a2] (g_I V g D cT f n)) (g_Wn V D cT o n) 2 12 (g_A V) := by
  refine gh_begin (own := RL) [.ref a0, .int a1, .ref a2] [(0, .ref a0), (1, .int a1), (2, .ref a2)] (by decide) rfl (Nat.le_of_ble_eq_true rfl) rfl ?_
  intro p e s m args below meth c hx hb hr hlocks hC ht hI ls hl
  obtain ⟨hx, hb, hml, hown, hB⟩ := id hC
  have hn0 : s.heap.size = n := hI.1
  obtain ⟨H, hH⟩ : ∃ H, H = s.heap := ⟨_, rfl⟩
  obtain ⟨locs, hlocs⟩ : ∃ L : List Loc, L = [] := ⟨_, rfl⟩
  rw [← hH, ← hlocs] at hI ⊢
  clear hH hlocs
  unfold p_L_doubledArea at hq
  refine lv_aload_n hx hb dL_doubledArea_0 rfl (lv_at hl 2 rfl) ?_
  refine lv_iconst (v := (0 : Int32)) hx hb dL_doubledArea_1 (by decide) ?_
  refine lv_aload_n hx hb dL_doubledArea_2 rfl (lv_at hl 0 rfl) ?_
  refine lv_iload_n hx hb dL_doubledArea_3 rfl (lv_at hl 1 rfl) ?_
  split at hq
  · cases hq
  · rename_i z hz
    by_cases hz0 : z = 0
    · subst hz0
      replace hq := i_t rfl hq
      refine gh_cR (name := "java/lang/IndexOutOfBoundsException") (g_runVX (As := [.int a1]) (rest := [.int (0 : Int32), .ref a2]) (ci := 9) hC (c_X7_doubledArea l hl0 V g D cT f n a0 a1 (.inl 0) hz) k_X7_doubledArea m_937 rfl rfl ⟨Nat.le_of_ble_eq_true rfl, Nat.le_of_ble_eq_true rfl⟩ hI rfl rfl (h_me_eq hz).1 rfl hl.1 rfl (Nat.le_of_ble_eq_true rfl) dL_doubledArea_4 ⟨by decide, by decide⟩) no_i hI hown [] ⟨0, 9, 12, 19⟩ [⟨0, 9, 15, 82⟩] (by rw [ht]; rfl) (fun _ h => nomatch h) (by decide) (by decide) (hB _ m_745) (gh_ca hI (i := 4) (a := "java/lang/IndexOutOfBoundsException") (b := "java/lang/IndexOutOfBoundsException") rfl) (fun H locs q9 hI => ?_)
      refine lv_astore_n (lv' := [(3, .ref q9), (0, .ref a0), (1, .int a1), (2, .ref a2)]) hx hb dL_doubledArea_12 rfl hl (by decide) rfl (fun ls hl => ?_)
      refine lv_iconst (v := (1 : Int32)) hx hb dL_doubledArea_13 (by decide) ?_
      refine W.widen (k := 2) (n := 12) (by decide) (by decide) ?_
      exact ge_Ni hx hb hlocks hr hn0 hI hq dL_doubledArea_14
    · replace hq := i_f hz0 hq
      by_cases hz1 : z = 2
      · subst hz1
        replace hq := i_t rfl hq
        refine gh_cR (name := "java/lang/IllegalStateException") (g_runVX (As := [.int a1]) (rest := [.int (0 : Int32), .ref a2]) (ci := 9) hC (c_X7_doubledArea l hl0 V g D cT f n a0 a1 (.inl 2) hz) k_X7_doubledArea m_937 rfl rfl ⟨Nat.le_of_ble_eq_true rfl, Nat.le_of_ble_eq_true rfl⟩ hI rfl rfl (h_me_eq hz).1 rfl hl.1 rfl (Nat.le_of_ble_eq_true rfl) dL_doubledArea_4 ⟨by decide, by decide⟩) no_i hI hown [⟨0, 9, 12, 19⟩] ⟨0, 9, 15, 82⟩ [] (by rw [ht]; rfl) (fun y hy => by rw [List.mem_singleton.mp hy]; exact Or.inr ⟨by decide, "java/lang/IndexOutOfBoundsException", hB _ m_745, gh_nc hI (i := 4) (a := "java/lang/IllegalStateException") (b := "java/lang/IndexOutOfBoundsException") rfl⟩) (by decide) (by decide) (hB _ m_936) (gh_ca hI (i := 6) (a := "java/lang/IllegalStateException") (b := "java/lang/IllegalStateException") rfl) (fun H locs q9 hI => ?_)
        refine lv_astore_n (lv' := [(3, .ref q9), (0, .ref a0), (1, .int a1), (2, .ref a2)]) hx hb dL_doubledArea_15 rfl hl (by decide) rfl (fun ls hl => ?_)
        refine lv_iconst (v := (2 : Int32)) hx hb dL_doubledArea_16 (by decide) ?_
        refine W.widen (k := 2) (n := 12) (by decide) (by decide) ?_
        exact ge_Ni hx hb hlocks hr hn0 hI hq dL_doubledArea_17
      · replace hq := i_f hz1 hq
        cases hq
  · rename_i v hz
    refine gx_i (g_runVX (As := [.int a1]) (rest := [.int (0 : Int32), .ref a2]) (ci := 9) hC (c_X7_doubledArea l hl0 V g D cT f n a0 a1 (.inr v) hz) k_X7_doubledArea m_937 rfl rfl ⟨Nat.le_of_ble_eq_true rfl, Nat.le_of_ble_eq_true rfl⟩ hI rfl rfl (h_me_eq hz).1 rfl hl.1 rfl (Nat.le_of_ble_eq_true rfl) dL_doubledArea_4 ⟨by decide, by decide⟩) hI (fun H locs hI => ?_)
    refine lv_i2l hx hb dL_doubledArea_7 rfl ?_
    obtain ⟨f1, ef1, hq⟩ := b_s hq
    refine fa_sl hx hb hI ef1 dL_doubledArea_8 (fun H locs hI => ?_)
    refine lv_goto (tgt := 18) hx hb dL_doubledArea_9 (by decide) ?_
    refine lv_iconst (v := (0 : Int32)) hx hb dL_doubledArea_18 (by decide) ?_
    refine W.widen (k := 2) (n := 12) (by decide) (by decide) ?_
    exact ge_Ni hx hb hlocks hr hn0 hI hq dL_doubledArea_19
abbrev rm_L_isCounterclockwise : Room := { frames := 11, cells := 2, slots := 12, locals := 205 }
set_option maxHeartbeats 4000000 in
set_option maxRecDepth 100000 in
theorem c_L_isCounterclockwise (l : Launch) (hl0 : l.stackTraces = false) (V : Nat → Nat) (g : GH) (D : va_G) (cT : Nat → ClassId) (f : GH) (n : Nat) (a0 : Nat) (a1 : Int32) (a2 : Nat) (o : Int32 × GH) (hq : p_L_isCounterclockwise V g f a0 a1 a2 = some o) : Met l yL_isCounterclockwise (Cond.codeWith yL_isCounterclockwise cL_isCounterclockwise 4 (some .int) [(0, 16, 19, 19), (0, 16, 22, 82)] :: g_B) rm_L_isCounterclockwise (va_Pc [.ref a0, .int a1, .ref a2] (g_I V g D cT f n)) (g_Wn V D cT o n) 2 12 (g_A V) := by
  refine gh_begin (own := RL) [.ref a0, .int a1, .ref a2] [(0, .ref a0), (1, .int a1), (2, .ref a2)] (by decide) rfl (Nat.le_of_ble_eq_true rfl) rfl ?_
  intro p e s m args below meth c hx hb hr hlocks hC ht hI ls hl
  obtain ⟨hx, hb, hml, hown, hB⟩ := id hC
  have hn0 : s.heap.size = n := hI.1
  obtain ⟨H, hH⟩ : ∃ H, H = s.heap := ⟨_, rfl⟩
  obtain ⟨locs, hlocs⟩ : ∃ L : List Loc, L = [] := ⟨_, rfl⟩
  rw [← hH, ← hlocs] at hI ⊢
  clear hH hlocs
  unfold p_L_isCounterclockwise at hq
  refine lv_aload_n hx hb dL_isCounterclockwise_0 rfl (lv_at hl 2 rfl) ?_
  refine lv_iconst (v := (0 : Int32)) hx hb dL_isCounterclockwise_1 (by decide) ?_
  refine lv_aload_n hx hb dL_isCounterclockwise_2 rfl (lv_at hl 0 rfl) ?_
  refine lv_iload_n hx hb dL_isCounterclockwise_3 rfl (lv_at hl 1 rfl) ?_
  split at hq
  · cases hq
  · rename_i z hz
    by_cases hz0 : z = 0
    · subst hz0
      replace hq := i_t rfl hq
      refine gh_cR (name := "java/lang/IndexOutOfBoundsException") (g_runVX (As := [.int a1]) (rest := [.int (0 : Int32), .ref a2]) (ci := 9) hC (c_X7_isCounterclockwise l hl0 V g D cT f n a0 a1 (.inl 0) hz) k_X7_isCounterclockwise m_953 rfl rfl ⟨Nat.le_of_ble_eq_true rfl, Nat.le_of_ble_eq_true rfl⟩ hI rfl rfl (h_me_eq hz).1 rfl hl.1 rfl (Nat.le_of_ble_eq_true rfl) dL_isCounterclockwise_4 ⟨by decide, by decide⟩) no_i hI hown [] ⟨0, 16, 19, 19⟩ [⟨0, 16, 22, 82⟩] (by rw [ht]; rfl) (fun _ h => nomatch h) (by decide) (by decide) (hB _ m_745) (gh_ca hI (i := 4) (a := "java/lang/IndexOutOfBoundsException") (b := "java/lang/IndexOutOfBoundsException") rfl) (fun H locs q9 hI => ?_)
      refine lv_astore_n (lv' := [(3, .ref q9), (0, .ref a0), (1, .int a1), (2, .ref a2)]) hx hb dL_isCounterclockwise_19 rfl hl (by decide) rfl (fun ls hl => ?_)
      refine lv_iconst (v := (1 : Int32)) hx hb dL_isCounterclockwise_20 (by decide) ?_
      refine W.widen (k := 2) (n := 12) (by decide) (by decide) ?_
      exact ge_Ni hx hb hlocks hr hn0 hI hq dL_isCounterclockwise_21
    · replace hq := i_f hz0 hq
      by_cases hz1 : z = 2
      · subst hz1
        replace hq := i_t rfl hq
        refine gh_cR (name := "java/lang/IllegalStateException") (g_runVX (As := [.int a1]) (rest := [.int (0 : Int32), .ref a2]) (ci := 9) hC (c_X7_isCounterclockwise l hl0 V g D cT f n a0 a1 (.inl 2) hz) k_X7_isCounterclockwise m_953 rfl rfl ⟨Nat.le_of_ble_eq_true rfl, Nat.le_of_ble_eq_true rfl⟩ hI rfl rfl (h_me_eq hz).1 rfl hl.1 rfl (Nat.le_of_ble_eq_true rfl) dL_isCounterclockwise_4 ⟨by decide, by decide⟩) no_i hI hown [⟨0, 16, 19, 19⟩] ⟨0, 16, 22, 82⟩ [] (by rw [ht]; rfl) (fun y hy => by rw [List.mem_singleton.mp hy]; exact Or.inr ⟨by decide, "java/lang/IndexOutOfBoundsException", hB _ m_745, gh_nc hI (i := 4) (a := "java/lang/IllegalStateException") (b := "java/lang/IndexOutOfBoundsException") rfl⟩) (by decide) (by decide) (hB _ m_936) (gh_ca hI (i := 6) (a := "java/lang/IllegalStateException") (b := "java/lang/IllegalStateException") rfl) (fun H locs q9 hI => ?_)
        refine lv_astore_n (lv' := [(3, .ref q9), (0, .ref a0), (1, .int a1), (2, .ref a2)]) hx hb dL_isCounterclockwise_22 rfl hl (by decide) rfl (fun ls hl => ?_)
        refine lv_iconst (v := (2 : Int32)) hx hb dL_isCounterclockwise_23 (by decide) ?_
        refine W.widen (k := 2) (n := 12) (by decide) (by decide) ?_
        exact ge_Ni hx hb hlocks hr hn0 hI hq dL_isCounterclockwise_24
      · replace hq := i_f hz1 hq
        cases hq
  · rename_i v hz
    refine gx_i (g_runVX (As := [.int a1]) (rest := [.int (0 : Int32), .ref a2]) (ci := 9) hC (c_X7_isCounterclockwise l hl0 V g D cT f n a0 a1 (.inr v) hz) k_X7_isCounterclockwise m_953 rfl rfl ⟨Nat.le_of_ble_eq_true rfl, Nat.le_of_ble_eq_true rfl⟩ hI rfl rfl (h_me_eq hz).1 rfl hl.1 rfl (Nat.le_of_ble_eq_true rfl) dL_isCounterclockwise_4 ⟨by decide, by decide⟩) hI (fun H locs hI => ?_)
    refine lv_if_eq (tgt := 14) hx hb dL_isCounterclockwise_7 (by decide) (fun c1 => ?_) (fun c1 => ?_)
    · replace hq := i_t c1 hq
      refine lv_lconst (v := 0) hx hb dL_isCounterclockwise_14 rfl ?_
      obtain ⟨f1, ef1, hq⟩ := b_s hq
      refine fa_sl hx hb hI ef1 dL_isCounterclockwise_15 (fun H locs hI => ?_)
      refine lv_goto (tgt := 25) hx hb dL_isCounterclockwise_16 (by decide) ?_
      refine lv_iconst (v := (0 : Int32)) hx hb dL_isCounterclockwise_25 (by decide) ?_
      refine W.widen (k := 2) (n := 12) (by decide) (by decide) ?_
      exact ge_Ni hx hb hlocks hr hn0 hI hq dL_isCounterclockwise_26
    · replace hq := i_f c1 hq
      refine lv_lconst (v := 1) hx hb dL_isCounterclockwise_10 rfl ?_
      refine lv_goto (tgt := 15) hx hb dL_isCounterclockwise_11 (by decide) ?_
      obtain ⟨f1, ef1, hq⟩ := b_s hq
      refine fa_sl hx hb hI ef1 dL_isCounterclockwise_15 (fun H locs hI => ?_)
      refine lv_goto (tgt := 25) hx hb dL_isCounterclockwise_16 (by decide) ?_
      refine lv_iconst (v := (0 : Int32)) hx hb dL_isCounterclockwise_25 (by decide) ?_
      refine W.widen (k := 2) (n := 12) (by decide) (by decide) ?_
      exact ge_Ni hx hb hlocks hr hn0 hI hq dL_isCounterclockwise_26

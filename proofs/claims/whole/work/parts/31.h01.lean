abbrev rm_L_contains : Room := { frames := 11, cells := 4, slots := 24, locals := 239 }
set_option maxHeartbeats 4000000 in
set_option maxRecDepth 100000 in
theorem c_L_contains (l : Launch) (hl0 : l.stackTraces = false) (V : Nat → Nat) (g : GH) (D : va_G) (cT : Nat → ClassId) (f : GH) (n : Nat) (a0 : Nat) (a1 : Int32) (a2 : Int32) (a3 : Int32) (a4 : Nat) (o : Int32 × GH) (hq : p_L_contains V g f a0 a1 a2 a3 a4 = some o) : Met l yL_contains (Cond.codeWith yL_contains cL_contains 6 (some .int) [(0, 19, 22, 19), (0, 19, 26, 82), (0, 19, 30, 13)] :: g_B) rm_L_contains (va_Pc [.ref a0, .int a1, .int a2, .int a3, .ref a4] (g_I V g D cT f n)) (g_Wn V D cT o n) 4 24 (g_A V) := by
  refine gh_begin (own := RL) [.ref a0, .int a1, .int a2, .int a3, .ref a4] [(0, .ref a0), (1, .int a1), (2, .int a2), (3, .int a3), (4, .ref a4)] (by decide) rfl (Nat.le_of_ble_eq_true rfl) rfl ?_
  intro p e s m args below meth c hx hb hr hlocks hC ht hI ls hl
  obtain ⟨hx, hb, hml, hown, hB⟩ := id hC
  have hn0 : s.heap.size = n := hI.1
  obtain ⟨H, hH⟩ : ∃ H, H = s.heap := ⟨_, rfl⟩
  obtain ⟨locs, hlocs⟩ : ∃ L : List Loc, L = [] := ⟨_, rfl⟩
  rw [← hH, ← hlocs] at hI ⊢
  clear hH hlocs
  unfold p_L_contains at hq
  refine lv_aload hx hb dL_contains_0 (lv_at hl 4 rfl) ?_
  refine lv_iconst (v := (0 : Int32)) hx hb dL_contains_2 (by decide) ?_
  refine lv_aload_n hx hb dL_contains_3 rfl (lv_at hl 0 rfl) ?_
  refine lv_iload_n hx hb dL_contains_4 rfl (lv_at hl 1 rfl) ?_
  refine lv_iload_n hx hb dL_contains_5 rfl (lv_at hl 2 rfl) ?_
  refine lv_iload_n hx hb dL_contains_6 rfl (lv_at hl 3 rfl) ?_
  split at hq
  · cases hq
  · rename_i z hz
    by_cases hz0 : z = 0
    · subst hz0
      replace hq := i_t rfl hq
      refine gh_cR (name := "java/lang/IndexOutOfBoundsException") (g_runVX (As := [.int a1, .int a2, .int a3]) (rest := [.int (0 : Int32), .ref a4]) (ci := 9) hC (c_X7_contains l hl0 V g D cT f n a0 a1 a2 a3 (.inl 0) hz) k_X7_contains m_960 rfl rfl ⟨Nat.le_of_ble_eq_true rfl, Nat.le_of_ble_eq_true rfl⟩ hI rfl rfl (h_me_eq hz).1 rfl hl.1 rfl (Nat.le_of_ble_eq_true rfl) dL_contains_7 ⟨by decide, by decide⟩) no_i hI hown [] ⟨0, 19, 22, 19⟩ [⟨0, 19, 26, 82⟩, ⟨0, 19, 30, 13⟩] (by rw [ht]; rfl) (fun _ h => nomatch h) (by decide) (by decide) (hB _ m_745) (gh_ca hI (i := 4) (a := "java/lang/IndexOutOfBoundsException") (b := "java/lang/IndexOutOfBoundsException") rfl) (fun H locs q9 hI => ?_)
      refine lv_astore (lv' := [(5, .ref q9), (0, .ref a0), (1, .int a1), (2, .int a2), (3, .int a3), (4, .ref a4)]) hx hb dL_contains_22 hl (by decide) rfl (fun ls hl => ?_)
      refine lv_iconst (v := (1 : Int32)) hx hb dL_contains_24 (by decide) ?_
      refine W.widen (k := 4) (n := 24) (by decide) (by decide) ?_
      exact ge_Ni hx hb hlocks hr hn0 hI hq dL_contains_25
    · replace hq := i_f hz0 hq
      by_cases hz1 : z = 2
      · subst hz1
        replace hq := i_t rfl hq
        refine gh_cR (name := "java/lang/IllegalStateException") (g_runVX (As := [.int a1, .int a2, .int a3]) (rest := [.int (0 : Int32), .ref a4]) (ci := 9) hC (c_X7_contains l hl0 V g D cT f n a0 a1 a2 a3 (.inl 2) hz) k_X7_contains m_960 rfl rfl ⟨Nat.le_of_ble_eq_true rfl, Nat.le_of_ble_eq_true rfl⟩ hI rfl rfl (h_me_eq hz).1 rfl hl.1 rfl (Nat.le_of_ble_eq_true rfl) dL_contains_7 ⟨by decide, by decide⟩) no_i hI hown [⟨0, 19, 22, 19⟩] ⟨0, 19, 26, 82⟩ [⟨0, 19, 30, 13⟩] (by rw [ht]; rfl) (fun y hy => by rw [List.mem_singleton.mp hy]; exact Or.inr ⟨by decide, "java/lang/IndexOutOfBoundsException", hB _ m_745, gh_nc hI (i := 4) (a := "java/lang/IllegalStateException") (b := "java/lang/IndexOutOfBoundsException") rfl⟩) (by decide) (by decide) (hB _ m_936) (gh_ca hI (i := 6) (a := "java/lang/IllegalStateException") (b := "java/lang/IllegalStateException") rfl) (fun H locs q9 hI => ?_)
        refine lv_astore (lv' := [(5, .ref q9), (0, .ref a0), (1, .int a1), (2, .int a2), (3, .int a3), (4, .ref a4)]) hx hb dL_contains_26 hl (by decide) rfl (fun ls hl => ?_)
        refine lv_iconst (v := (2 : Int32)) hx hb dL_contains_28 (by decide) ?_
        refine W.widen (k := 4) (n := 24) (by decide) (by decide) ?_
        exact ge_Ni hx hb hlocks hr hn0 hI hq dL_contains_29
      · replace hq := i_f hz1 hq
        by_cases hz2 : z = 1
        · subst hz2
          replace hq := i_t rfl hq
          refine gh_cR (name := "java/lang/IllegalArgumentException") (g_runVX (As := [.int a1, .int a2, .int a3]) (rest := [.int (0 : Int32), .ref a4]) (ci := 9) hC (c_X7_contains l hl0 V g D cT f n a0 a1 a2 a3 (.inl 1) hz) k_X7_contains m_960 rfl rfl ⟨Nat.le_of_ble_eq_true rfl, Nat.le_of_ble_eq_true rfl⟩ hI rfl rfl (h_me_eq hz).1 rfl hl.1 rfl (Nat.le_of_ble_eq_true rfl) dL_contains_7 ⟨by decide, by decide⟩) no_i hI hown [⟨0, 19, 22, 19⟩, ⟨0, 19, 26, 82⟩] ⟨0, 19, 30, 13⟩ [] (by rw [ht]; rfl) (fun y hy => by
            rcases List.mem_cons.mp hy with rfl | hy
            · exact Or.inr ⟨by decide, "java/lang/IndexOutOfBoundsException", hB _ m_745, gh_nc hI (i := 2) (a := "java/lang/IllegalArgumentException") (b := "java/lang/IndexOutOfBoundsException") rfl⟩
            · rw [List.mem_singleton.mp hy]; exact Or.inr ⟨by decide, "java/lang/IllegalStateException", hB _ m_936, gh_nc hI (i := 3) (a := "java/lang/IllegalArgumentException") (b := "java/lang/IllegalStateException") rfl⟩) (by decide) (by decide) (hB _ m_609) (gh_ca hI (i := 5) (a := "java/lang/IllegalArgumentException") (b := "java/lang/IllegalArgumentException") rfl) (fun H locs q9 hI => ?_)
          refine lv_astore (lv' := [(5, .ref q9), (0, .ref a0), (1, .int a1), (2, .int a2), (3, .int a3), (4, .ref a4)]) hx hb dL_contains_30 hl (by decide) rfl (fun ls hl => ?_)
          refine lv_iconst (v := (3 : Int32)) hx hb dL_contains_32 (by decide) ?_
          refine W.widen (k := 4) (n := 24) (by decide) (by decide) ?_
          exact ge_Ni hx hb hlocks hr hn0 hI hq dL_contains_33
        · replace hq := i_f hz2 hq
          cases hq
  · rename_i v hz
    refine gx_i (g_runVX (As := [.int a1, .int a2, .int a3]) (rest := [.int (0 : Int32), .ref a4]) (ci := 9) hC (c_X7_contains l hl0 V g D cT f n a0 a1 a2 a3 (.inr v) hz) k_X7_contains m_960 rfl rfl ⟨Nat.le_of_ble_eq_true rfl, Nat.le_of_ble_eq_true rfl⟩ hI rfl rfl (h_me_eq hz).1 rfl hl.1 rfl (Nat.le_of_ble_eq_true rfl) dL_contains_7 ⟨by decide, by decide⟩) hI (fun H locs hI => ?_)
    refine lv_if_eq (tgt := 17) hx hb dL_contains_10 (by decide) (fun c1 => ?_) (fun c1 => ?_)
    · replace hq := i_t c1 hq
      refine lv_lconst (v := 0) hx hb dL_contains_17 rfl ?_
      obtain ⟨f1, ef1, hq⟩ := b_s hq
      refine fa_sl hx hb hI ef1 dL_contains_18 (fun H locs hI => ?_)
      refine lv_goto (tgt := 34) hx hb dL_contains_19 (by decide) ?_
      refine lv_iconst (v := (0 : Int32)) hx hb dL_contains_34 (by decide) ?_
      refine W.widen (k := 4) (n := 24) (by decide) (by decide) ?_
      exact ge_Ni hx hb hlocks hr hn0 hI hq dL_contains_35
    · replace hq := i_f c1 hq
      refine lv_lconst (v := 1) hx hb dL_contains_13 rfl ?_
      refine lv_goto (tgt := 18) hx hb dL_contains_14 (by decide) ?_
      obtain ⟨f1, ef1, hq⟩ := b_s hq
      refine fa_sl hx hb hI ef1 dL_contains_18 (fun H locs hI => ?_)
      refine lv_goto (tgt := 34) hx hb dL_contains_19 (by decide) ?_
      refine lv_iconst (v := (0 : Int32)) hx hb dL_contains_34 (by decide) ?_
      refine W.widen (k := 4) (n := 24) (by decide) (by decide) ?_
      exact ge_Ni hx hb hlocks hr hn0 hI hq dL_contains_35
abbrev rm_L_encloses : Room := { frames := 11, cells := 3, slots := 18, locals := 261 }
set_option maxHeartbeats 4000000 in
set_option maxRecDepth 100000 in
theorem c_L_encloses (l : Launch) (hl0 : l.stackTraces = false) (V : Nat → Nat) (g : GH) (D : va_G) (cT : Nat → ClassId) (f : GH) (n : Nat) (a0 : Nat) (a1 : Int32) (a2 : Int32) (a3 : Nat) (o : Int32 × GH) (hq : p_L_encloses V g f a0 a1 a2 a3 = some o) : Met l yL_encloses (Cond.codeWith yL_encloses cL_encloses 5 (some .int) [(0, 17, 20, 19), (0, 17, 24, 82)] :: g_B) rm_L_encloses (va_Pc [.ref a0, .int a1, .int a2, .ref a3] (g_I V g D cT f n)) (g_Wn V D cT o n) 3 18 (g_A V) := by
  refine gh_begin (own := RL) [.ref a0, .int a1, .int a2, .ref a3] [(0, .ref a0), (1, .int a1), (2, .int a2), (3, .ref a3)] (by decide) rfl (Nat.le_of_ble_eq_true rfl) rfl ?_
  intro p e s m args below meth c hx hb hr hlocks hC ht hI ls hl
  obtain ⟨hx, hb, hml, hown, hB⟩ := id hC
  have hn0 : s.heap.size = n := hI.1
  obtain ⟨H, hH⟩ : ∃ H, H = s.heap := ⟨_, rfl⟩
  obtain ⟨locs, hlocs⟩ : ∃ L : List Loc, L = [] := ⟨_, rfl⟩
  rw [← hH, ← hlocs] at hI ⊢
  clear hH hlocs
  unfold p_L_encloses at hq
  refine lv_aload_n hx hb dL_encloses_0 rfl (lv_at hl 3 rfl) ?_
  refine lv_iconst (v := (0 : Int32)) hx hb dL_encloses_1 (by decide) ?_
  refine lv_aload_n hx hb dL_encloses_2 rfl (lv_at hl 0 rfl) ?_
  refine lv_iload_n hx hb dL_encloses_3 rfl (lv_at hl 1 rfl) ?_
  refine lv_iload_n hx hb dL_encloses_4 rfl (lv_at hl 2 rfl) ?_
  split at hq
  · cases hq
  · rename_i z hz
    by_cases hz0 : z = 0
    · subst hz0
      replace hq := i_t rfl hq
      refine gh_cR (name := "java/lang/IndexOutOfBoundsException") (g_runVX (As := [.int a1, .int a2]) (rest := [.int (0 : Int32), .ref a3]) (ci := 9) hC (c_X7_encloses l hl0 V g D cT f n a0 a1 a2 (.inl 0) hz) k_X7_encloses m_986 rfl rfl ⟨Nat.le_of_ble_eq_true rfl, Nat.le_of_ble_eq_true rfl⟩ hI rfl rfl (h_me_eq hz).1 rfl hl.1 rfl (Nat.le_of_ble_eq_true rfl) dL_encloses_5 ⟨by decide, by decide⟩) no_i hI hown [] ⟨0, 17, 20, 19⟩ [⟨0, 17, 24, 82⟩] (by rw [ht]; rfl) (fun _ h => nomatch h) (by decide) (by decide) (hB _ m_745) (gh_ca hI (i := 4) (a := "java/lang/IndexOutOfBoundsException") (b := "java/lang/IndexOutOfBoundsException") rfl) (fun H locs q9 hI => ?_)
      refine lv_astore (lv' := [(4, .ref q9), (0, .ref a0), (1, .int a1), (2, .int a2), (3, .ref a3)]) hx hb dL_encloses_20 hl (by decide) rfl (fun ls hl => ?_)
      refine lv_iconst (v := (1 : Int32)) hx hb dL_encloses_22 (by decide) ?_
      refine W.widen (k := 3) (n := 18) (by decide) (by decide) ?_
      exact ge_Ni hx hb hlocks hr hn0 hI hq dL_encloses_23
    · replace hq := i_f hz0 hq
      by_cases hz1 : z = 2
      · subst hz1
        replace hq := i_t rfl hq
        refine gh_cR (name := "java/lang/IllegalStateException") (g_runVX (As := [.int a1, .int a2]) (rest := [.int (0 : Int32), .ref a3]) (ci := 9) hC (c_X7_encloses l hl0 V g D cT f n a0 a1 a2 (.inl 2) hz) k_X7_encloses m_986 rfl rfl ⟨Nat.le_of_ble_eq_true rfl, Nat.le_of_ble_eq_true rfl⟩ hI rfl rfl (h_me_eq hz).1 rfl hl.1 rfl (Nat.le_of_ble_eq_true rfl) dL_encloses_5 ⟨by decide, by decide⟩) no_i hI hown [⟨0, 17, 20, 19⟩] ⟨0, 17, 24, 82⟩ [] (by rw [ht]; rfl) (fun y hy => by rw [List.mem_singleton.mp hy]; exact Or.inr ⟨by decide, "java/lang/IndexOutOfBoundsException", hB _ m_745, gh_nc hI (i := 4) (a := "java/lang/IllegalStateException") (b := "java/lang/IndexOutOfBoundsException") rfl⟩) (by decide) (by decide) (hB _ m_936) (gh_ca hI (i := 6) (a := "java/lang/IllegalStateException") (b := "java/lang/IllegalStateException") rfl) (fun H locs q9 hI => ?_)
        refine lv_astore (lv' := [(4, .ref q9), (0, .ref a0), (1, .int a1), (2, .int a2), (3, .ref a3)]) hx hb dL_encloses_24 hl (by decide) rfl (fun ls hl => ?_)
        refine lv_iconst (v := (2 : Int32)) hx hb dL_encloses_26 (by decide) ?_
        refine W.widen (k := 3) (n := 18) (by decide) (by decide) ?_
        exact ge_Ni hx hb hlocks hr hn0 hI hq dL_encloses_27
      · replace hq := i_f hz1 hq
        cases hq
  · rename_i v hz
    refine gx_i (g_runVX (As := [.int a1, .int a2]) (rest := [.int (0 : Int32), .ref a3]) (ci := 9) hC (c_X7_encloses l hl0 V g D cT f n a0 a1 a2 (.inr v) hz) k_X7_encloses m_986 rfl rfl ⟨Nat.le_of_ble_eq_true rfl, Nat.le_of_ble_eq_true rfl⟩ hI rfl rfl (h_me_eq hz).1 rfl hl.1 rfl (Nat.le_of_ble_eq_true rfl) dL_encloses_5 ⟨by decide, by decide⟩) hI (fun H locs hI => ?_)
    refine lv_if_eq (tgt := 15) hx hb dL_encloses_8 (by decide) (fun c1 => ?_) (fun c1 => ?_)
    · replace hq := i_t c1 hq
      refine lv_lconst (v := 0) hx hb dL_encloses_15 rfl ?_
      obtain ⟨f1, ef1, hq⟩ := b_s hq
      refine fa_sl hx hb hI ef1 dL_encloses_16 (fun H locs hI => ?_)
      refine lv_goto (tgt := 28) hx hb dL_encloses_17 (by decide) ?_
      refine lv_iconst (v := (0 : Int32)) hx hb dL_encloses_28 (by decide) ?_
      refine W.widen (k := 3) (n := 18) (by decide) (by decide) ?_
      exact ge_Ni hx hb hlocks hr hn0 hI hq dL_encloses_29
    · replace hq := i_f c1 hq
      refine lv_lconst (v := 1) hx hb dL_encloses_11 rfl ?_
      refine lv_goto (tgt := 16) hx hb dL_encloses_12 (by decide) ?_
      obtain ⟨f1, ef1, hq⟩ := b_s hq
      refine fa_sl hx hb hI ef1 dL_encloses_16 (fun H locs hI => ?_)
      refine lv_goto (tgt := 28) hx hb dL_encloses_17 (by decide) ?_
      refine lv_iconst (v := (0 : Int32)) hx hb dL_encloses_28 (by decide) ?_
      refine W.widen (k := 3) (n := 18) (by decide) (by decide) ?_
      exact ge_Ni hx hb hlocks hr hn0 hI hq dL_encloses_29
abbrev rm_L_innermostIslandAround : Room := { frames := 10, cells := 1, slots := 6, locals := 284 }
set_option maxHeartbeats 4000000 in
set_option maxRecDepth 100000 in
theorem c_L_innermostIslandAround (l : Launch) (hl0 : l.stackTraces = false) (V : Nat → Nat) (g : GH) (D : va_G) (cT : Nat → ClassId) (f : GH) (n : Nat) (a0 : Nat) (a1 : Int32) (a2 : Nat) (o : Int32 × GH) (hq : p_L_innermostIslandAround V g f a0 a1 a2 = some o) : Met l yL_innermostIslandAround (Cond.codeWith yL_innermostIslandAround cL_innermostIslandAround 4 (some .int) [(0, 9, 12, 19)] :: g_B) rm_L_innermostIslandAround (va_Pc [.ref a0, .int a1, .ref a2] (g_I V g D cT f n)) (g_Wn V D cT o n) 1 6 (g_A V) := by
  refine gh_begin (own := RL) [.ref a0, .int a1, .ref a2] [(0, .ref a0), (1, .int a1), (2, .ref a2)] (by decide) rfl (Nat.le_of_ble_eq_true rfl) rfl ?_
  intro p e s m args below meth c hx hb hr hlocks hC ht hI ls hl
  obtain ⟨hx, hb, hml, hown, hB⟩ := id hC
  have hn0 : s.heap.size = n := hI.1
  obtain ⟨H, hH⟩ : ∃ H, H = s.heap := ⟨_, rfl⟩
  obtain ⟨locs, hlocs⟩ : ∃ L : List Loc, L = [] := ⟨_, rfl⟩
  rw [← hH, ← hlocs] at hI ⊢
  clear hH hlocs
  unfold p_L_innermostIslandAround at hq
  refine lv_aload_n hx hb dL_innermostIslandAround_0 rfl (lv_at hl 2 rfl) ?_
  refine lv_iconst (v := (0 : Int32)) hx hb dL_innermostIslandAround_1 (by decide) ?_
  refine lv_aload_n hx hb dL_innermostIslandAround_2 rfl (lv_at hl 0 rfl) ?_
  refine lv_iload_n hx hb dL_innermostIslandAround_3 rfl (lv_at hl 1 rfl) ?_
  split at hq
  · cases hq
  · rename_i z hz
    by_cases hz0 : z = 0
    · subst hz0
      replace hq := i_t rfl hq
      refine gh_cR (name := "java/lang/IndexOutOfBoundsException") (g_runVX (As := [.int a1]) (rest := [.int (0 : Int32), .ref a2]) (ci := 9) hC (c_X7_innermostIslandAround l hl0 V g D cT f n a0 a1 (.inl 0) hz) k_X7_innermostIslandAround m_998 rfl rfl ⟨Nat.le_of_ble_eq_true rfl, Nat.le_of_ble_eq_true rfl⟩ hI rfl rfl (h_me_eq hz).1 rfl hl.1 rfl (Nat.le_of_ble_eq_true rfl) dL_innermostIslandAround_4 ⟨by decide, by decide⟩) no_i hI hown [] ⟨0, 9, 12, 19⟩ [] (by rw [ht]; rfl) (fun _ h => nomatch h) (by decide) (by decide) (hB _ m_745) (gh_ca hI (i := 4) (a := "java/lang/IndexOutOfBoundsException") (b := "java/lang/IndexOutOfBoundsException") rfl) (fun H locs q9 hI => ?_)
      refine lv_astore_n (lv' := [(3, .ref q9), (0, .ref a0), (1, .int a1), (2, .ref a2)]) hx hb dL_innermostIslandAround_12 rfl hl (by decide) rfl (fun ls hl => ?_)
      refine lv_iconst (v := (1 : Int32)) hx hb dL_innermostIslandAround_13 (by decide) ?_
      refine W.widen (k := 1) (n := 6) (by decide) (by decide) ?_
      exact ge_Ni hx hb hlocks hr hn0 hI hq dL_innermostIslandAround_14
    · replace hq := i_f hz0 hq
      cases hq
  · rename_i v hz
    refine gx_i (g_runVX (As := [.int a1]) (rest := [.int (0 : Int32), .ref a2]) (ci := 9) hC (c_X7_innermostIslandAround l hl0 V g D cT f n a0 a1 (.inr v) hz) k_X7_innermostIslandAround m_998 rfl rfl ⟨Nat.le_of_ble_eq_true rfl, Nat.le_of_ble_eq_true rfl⟩ hI rfl rfl (h_me_eq hz).1 rfl hl.1 rfl (Nat.le_of_ble_eq_true rfl) dL_innermostIslandAround_4 ⟨by decide, by decide⟩) hI (fun H locs hI => ?_)
    refine lv_i2l hx hb dL_innermostIslandAround_7 rfl ?_
    obtain ⟨f1, ef1, hq⟩ := b_s hq
    refine fa_sl hx hb hI ef1 dL_innermostIslandAround_8 (fun H locs hI => ?_)
    refine lv_goto (tgt := 15) hx hb dL_innermostIslandAround_9 (by decide) ?_
    refine lv_iconst (v := (0 : Int32)) hx hb dL_innermostIslandAround_15 (by decide) ?_
    refine W.widen (k := 1) (n := 6) (by decide) (by decide) ?_
    exact ge_Ni hx hb hlocks hr hn0 hI hq dL_innermostIslandAround_16
abbrev rm_L_ringDepth : Room := { frames := 10, cells := 1, slots := 6, locals := 282 }
set_option maxHeartbeats 4000000 in
set_option maxRecDepth 100000 in
theorem c_L_ringDepth (l : Launch) (hl0 : l.stackTraces = false) (V : Nat → Nat) (g : GH) (D : va_G) (cT : Nat → ClassId) (f : GH) (n : Nat) (a0 : Nat) (a1 : Int32) (a2 : Nat) (o : Int32 × GH) (hq : p_L_ringDepth V g f a0 a1 a2 = some o) : Met l yL_ringDepth (Cond.codeWith yL_ringDepth cL_ringDepth 4 (some .int) [(0, 9, 12, 19)] :: g_B) rm_L_ringDepth (va_Pc [.ref a0, .int a1, .ref a2] (g_I V g D cT f n)) (g_Wn V D cT o n) 1 6 (g_A V) := by
  refine gh_begin (own := RL) [.ref a0, .int a1, .ref a2] [(0, .ref a0), (1, .int a1), (2, .ref a2)] (by decide) rfl (Nat.le_of_ble_eq_true rfl) rfl ?_
  intro p e s m args below meth c hx hb hr hlocks hC ht hI ls hl
  obtain ⟨hx, hb, hml, hown, hB⟩ := id hC
  have hn0 : s.heap.size = n := hI.1
  obtain ⟨H, hH⟩ : ∃ H, H = s.heap := ⟨_, rfl⟩
  obtain ⟨locs, hlocs⟩ : ∃ L : List Loc, L = [] := ⟨_, rfl⟩
  rw [← hH, ← hlocs] at hI ⊢
  clear hH hlocs
  unfold p_L_ringDepth at hq
  refine lv_aload_n hx hb dL_ringDepth_0 rfl (lv_at hl 2 rfl) ?_
  refine lv_iconst (v := (0 : Int32)) hx hb dL_ringDepth_1 (by decide) ?_
  refine lv_aload_n hx hb dL_ringDepth_2 rfl (lv_at hl 0 rfl) ?_
  refine lv_iload_n hx hb dL_ringDepth_3 rfl (lv_at hl 1 rfl) ?_
  split at hq
  · cases hq
  · rename_i z hz
    by_cases hz0 : z = 0
    · subst hz0
      replace hq := i_t rfl hq
      refine gh_cR (name := "java/lang/IndexOutOfBoundsException") (g_runVX (As := [.int a1]) (rest := [.int (0 : Int32), .ref a2]) (ci := 9) hC (c_X7_ringDepth l hl0 V g D cT f n a0 a1 (.inl 0) hz) k_X7_ringDepth m_1010 rfl rfl ⟨Nat.le_of_ble_eq_true rfl, Nat.le_of_ble_eq_true rfl⟩ hI rfl rfl (h_me_eq hz).1 rfl hl.1 rfl (Nat.le_of_ble_eq_true rfl) dL_ringDepth_4 ⟨by decide, by decide⟩) no_i hI hown [] ⟨0, 9, 12, 19⟩ [] (by rw [ht]; rfl) (fun _ h => nomatch h) (by decide) (by decide) (hB _ m_745) (gh_ca hI (i := 4) (a := "java/lang/IndexOutOfBoundsException") (b := "java/lang/IndexOutOfBoundsException") rfl) (fun H locs q9 hI => ?_)
      refine lv_astore_n (lv' := [(3, .ref q9), (0, .ref a0), (1, .int a1), (2, .ref a2)]) hx hb dL_ringDepth_12 rfl hl (by decide) rfl (fun ls hl => ?_)
      refine lv_iconst (v := (1 : Int32)) hx hb dL_ringDepth_13 (by decide) ?_
      refine W.widen (k := 1) (n := 6) (by decide) (by decide) ?_
      exact ge_Ni hx hb hlocks hr hn0 hI hq dL_ringDepth_14
    · replace hq := i_f hz0 hq
      cases hq
  · rename_i v hz
    refine gx_i (g_runVX (As := [.int a1]) (rest := [.int (0 : Int32), .ref a2]) (ci := 9) hC (c_X7_ringDepth l hl0 V g D cT f n a0 a1 (.inr v) hz) k_X7_ringDepth m_1010 rfl rfl ⟨Nat.le_of_ble_eq_true rfl, Nat.le_of_ble_eq_true rfl⟩ hI rfl rfl (h_me_eq hz).1 rfl hl.1 rfl (Nat.le_of_ble_eq_true rfl) dL_ringDepth_4 ⟨by decide, by decide⟩) hI (fun H locs hI => ?_)
    refine lv_i2l hx hb dL_ringDepth_7 rfl ?_
    obtain ⟨f1, ef1, hq⟩ := b_s hq
    refine fa_sl hx hb hI ef1 dL_ringDepth_8 (fun H locs hI => ?_)
    refine lv_goto (tgt := 15) hx hb dL_ringDepth_9 (by decide) ?_
    refine lv_iconst (v := (0 : Int32)) hx hb dL_ringDepth_15 (by decide) ?_
    refine W.widen (k := 1) (n := 6) (by decide) (by decide) ?_
    exact ge_Ni hx hb hlocks hr hn0 hI hq dL_ringDepth_16
abbrev rm_L_boxWidth : Room := { frames := 10, cells := 1, slots := 6, locals := 187 }
set_option maxHeartbeats 4000000 in
set_option maxRecDepth 100000 in
theorem c_L_boxWidth (l : Launch) (hl0 : l.stackTraces = false) (V : Nat → Nat) (g : GH) (D : va_G) (cT : Nat → ClassId) (f : GH) (n : Nat) (a0 : Nat) (a1 : Int32) (a2 : Nat) (o : Int32 × GH) (hq : p_L_boxWidth V g f a0 a1 a2 = some o) : Met l yL_boxWidth (Cond.codeWith yL_boxWidth cL_boxWidth 4 (some .int) [(0, 9, 12, 19)] :: g_B) rm_L_boxWidth (va_Pc [.ref a0, .int a1, .ref a2] (g_I V g D cT f n)) (g_Wn V D cT o n) 1 6 (g_A V) := by
  refine gh_begin (own := RL) [.ref a0, .int a1, .ref a2] [(0, .ref a0), (1, .int a1), (2, .ref a2)] (by decide) rfl (Nat.le_of_ble_eq_true rfl) rfl ?_
  intro p e s m args below meth c hx hb hr hlocks hC ht hI ls hl
  obtain ⟨hx, hb, hml, hown, hB⟩ := id hC
  have hn0 : s.heap.size = n := hI.1
  obtain ⟨H, hH⟩ : ∃ H, H = s.heap := ⟨_, rfl⟩
  obtain ⟨locs, hlocs⟩ : ∃ L : List Loc, L = [] := ⟨_, rfl⟩
  rw [← hH, ← hlocs] at hI ⊢
  clear hH hlocs
  unfold p_L_boxWidth at hq
  refine lv_aload_n hx hb dL_boxWidth_0 rfl (lv_at hl 2 rfl) ?_
  refine lv_iconst (v := (0 : Int32)) hx hb dL_boxWidth_1 (by decide) ?_
  refine lv_aload_n hx hb dL_boxWidth_2 rfl (lv_at hl 0 rfl) ?_
  refine lv_iload_n hx hb dL_boxWidth_3 rfl (lv_at hl 1 rfl) ?_
  split at hq
  · cases hq
  · rename_i z hz
    by_cases hz0 : z = 0
    · subst hz0
      replace hq := i_t rfl hq
      refine gh_cR (name := "java/lang/IndexOutOfBoundsException") (g_runVX (As := [.int a1]) (rest := [.int (0 : Int32), .ref a2]) (ci := 9) hC (c_X7_boxWidth l hl0 V g D cT f n a0 a1 (.inl 0) hz) k_X7_boxWidth m_1017 rfl rfl ⟨Nat.le_of_ble_eq_true rfl, Nat.le_of_ble_eq_true rfl⟩ hI rfl rfl (h_me_eq hz).1 rfl hl.1 rfl (Nat.le_of_ble_eq_true rfl) dL_boxWidth_4 ⟨by decide, by decide⟩) no_i hI hown [] ⟨0, 9, 12, 19⟩ [] (by rw [ht]; rfl) (fun _ h => nomatch h) (by decide) (by decide) (hB _ m_745) (gh_ca hI (i := 4) (a := "java/lang/IndexOutOfBoundsException") (b := "java/lang/IndexOutOfBoundsException") rfl) (fun H locs q9 hI => ?_)
      refine lv_astore_n (lv' := [(3, .ref q9), (0, .ref a0), (1, .int a1), (2, .ref a2)]) hx hb dL_boxWidth_12 rfl hl (by decide) rfl (fun ls hl => ?_)
      refine lv_iconst (v := (1 : Int32)) hx hb dL_boxWidth_13 (by decide) ?_
      refine W.widen (k := 1) (n := 6) (by decide) (by decide) ?_
      exact ge_Ni hx hb hlocks hr hn0 hI hq dL_boxWidth_14
    · replace hq := i_f hz0 hq
      cases hq
  · rename_i v hz
    refine gx_i (g_runVX (As := [.int a1]) (rest := [.int (0 : Int32), .ref a2]) (ci := 9) hC (c_X7_boxWidth l hl0 V g D cT f n a0 a1 (.inr v) hz) k_X7_boxWidth m_1017 rfl rfl ⟨Nat.le_of_ble_eq_true rfl, Nat.le_of_ble_eq_true rfl⟩ hI rfl rfl (h_me_eq hz).1 rfl hl.1 rfl (Nat.le_of_ble_eq_true rfl) dL_boxWidth_4 ⟨by decide, by decide⟩) hI (fun H locs hI => ?_)
    refine lv_i2l hx hb dL_boxWidth_7 rfl ?_
    obtain ⟨f1, ef1, hq⟩ := b_s hq
    refine fa_sl hx hb hI ef1 dL_boxWidth_8 (fun H locs hI => ?_)
    refine lv_goto (tgt := 15) hx hb dL_boxWidth_9 (by decide) ?_
    refine lv_iconst (v := (0 : Int32)) hx hb dL_boxWidth_15 (by decide) ?_
    refine W.widen (k := 1) (n := 6) (by decide) (by decide) ?_
    exact ge_Ni hx hb hlocks hr hn0 hI hq dL_boxWidth_16
abbrev rm_L_boxHeight : Room := { frames := 10, cells := 1, slots := 6, locals := 187 }
set_option maxHeartbeats 4000000 in
set_option maxRecDepth 100000 in
theorem c_L_boxHeight (l : Launch) (hl0 : l.stackTraces = false) (V : Nat → Nat) (g : GH) (D : va_G) (cT : Nat → ClassId) (f : GH) (n : Nat) (a0 : Nat) (a1 : Int32) (a2 : Nat) (o : Int32 × GH) (hq : p_L_boxHeight V g f a0 a1 a2 = some o) : Met l yL_boxHeight (Cond.codeWith yL_boxHeight cL_boxHeight 4 (some .int) [(0, 9, 12, 19)] :: g_B) rm_L_boxHeight (va_Pc [.ref a0, .int a1, .ref a2] (g_I V g D cT f n)) (g_Wn V D cT o n) 1 6 (g_A V) := by
  refine gh_begin (own := RL) [.ref a0, .int a1, .ref a2] [(0, .ref a0), (1, .int a1), (2, .ref a2)] (by decide) rfl (Nat.le_of_ble_eq_true rfl) rfl ?_
  intro p e s m args below meth c hx hb hr hlocks hC ht hI ls hl
  obtain ⟨hx, hb, hml, hown, hB⟩ := id hC
  have hn0 : s.heap.size = n := hI.1
  obtain ⟨H, hH⟩ : ∃ H, H = s.heap := ⟨_, rfl⟩
  obtain ⟨locs, hlocs⟩ : ∃ L : List Loc, L = [] := ⟨_, rfl⟩
  rw [← hH, ← hlocs] at hI ⊢
  clear hH hlocs
  unfold p_L_boxHeight at hq
  refine lv_aload_n hx hb dL_boxHeight_0 rfl (lv_at hl 2 rfl) ?_
  refine lv_iconst (v := (0 : Int32)) hx hb dL_boxHeight_1 (by decide) ?_
  refine lv_aload_n hx hb dL_boxHeight_2 rfl (lv_at hl 0 rfl) ?_
  refine lv_iload_n hx hb dL_boxHeight_3 rfl (lv_at hl 1 rfl) ?_
  split at hq
  · cases hq
  · rename_i z hz
    by_cases hz0 : z = 0
    · subst hz0
      replace hq := i_t rfl hq
      refine gh_cR (name := "java/lang/IndexOutOfBoundsException") (g_runVX (As := [.int a1]) (rest := [.int (0 : Int32), .ref a2]) (ci := 9) hC (c_X7_boxHeight l hl0 V g D cT f n a0 a1 (.inl 0) hz) k_X7_boxHeight m_1029 rfl rfl ⟨Nat.le_of_ble_eq_true rfl, Nat.le_of_ble_eq_true rfl⟩ hI rfl rfl (h_me_eq hz).1 rfl hl.1 rfl (Nat.le_of_ble_eq_true rfl) dL_boxHeight_4 ⟨by decide, by decide⟩) no_i hI hown [] ⟨0, 9, 12, 19⟩ [] (by rw [ht]; rfl) (fun _ h => nomatch h) (by decide) (by decide) (hB _ m_745) (gh_ca hI (i := 4) (a := "java/lang/IndexOutOfBoundsException") (b := "java/lang/IndexOutOfBoundsException") rfl) (fun H locs q9 hI => ?_)
      refine lv_astore_n (lv' := [(3, .ref q9), (0, .ref a0), (1, .int a1), (2, .ref a2)]) hx hb dL_boxHeight_12 rfl hl (by decide) rfl (fun ls hl => ?_)
      refine lv_iconst (v := (1 : Int32)) hx hb dL_boxHeight_13 (by decide) ?_
      refine W.widen (k := 1) (n := 6) (by decide) (by decide) ?_
      exact ge_Ni hx hb hlocks hr hn0 hI hq dL_boxHeight_14
    · replace hq := i_f hz0 hq
      cases hq
  · rename_i v hz
    refine gx_i (g_runVX (As := [.int a1]) (rest := [.int (0 : Int32), .ref a2]) (ci := 9) hC (c_X7_boxHeight l hl0 V g D cT f n a0 a1 (.inr v) hz) k_X7_boxHeight m_1029 rfl rfl ⟨Nat.le_of_ble_eq_true rfl, Nat.le_of_ble_eq_true rfl⟩ hI rfl rfl (h_me_eq hz).1 rfl hl.1 rfl (Nat.le_of_ble_eq_true rfl) dL_boxHeight_4 ⟨by decide, by decide⟩) hI (fun H locs hI => ?_)
    refine lv_i2l hx hb dL_boxHeight_7 rfl ?_
    obtain ⟨f1, ef1, hq⟩ := b_s hq
    refine fa_sl hx hb hI ef1 dL_boxHeight_8 (fun H locs hI => ?_)
    refine lv_goto (tgt := 15) hx hb dL_boxHeight_9 (by decide) ?_
    refine lv_iconst (v := (0 : Int32)) hx hb dL_boxHeight_15 (by decide) ?_
    refine W.widen (k := 1) (n := 6) (by decide) (by decide) ?_
    exact ge_Ni hx hb hlocks hr hn0 hI hq dL_boxHeight_16
abbrev rm_L_foldObstacle : Room := { frames := 10, cells := 2, slots := 12, locals := 231 }
set_option maxHeartbeats 4000000 in
set_option maxRecDepth 100000 in
theorem c_L_foldObstacle (l : Launch) (hl0 : l.stackTraces = false) (V : Nat → Nat) (g : GH) (D : va_G) (cT : Nat → ClassId) (f : GH) (n : Nat) (a0 : Nat) (a1 : Int32) (a2 : Int32) (a3 : Nat) (o : Int32 × GH) (hq : p_L_foldObstacle V g f a0 a1 a2 a3 = some o) : Met l yL_foldObstacle (Cond.codeWith yL_foldObstacle cL_foldObstacle 5 (some .int) [(0, 10, 13, 19), (0, 10, 17, 13)] :: g_B) rm_L_foldObstacle (va_Pc [.ref a0, .int a1, .int a2, .ref a3] (g_I V g D cT f n)) (g_Wn V D cT o n) 2 12 (g_A V) := by
  refine gh_begin (own := RL) [.ref a0, .int a1, .int a2, .ref a3] [(0, .ref a0), (1, .int a1), (2, .int a2), (3, .ref a3)] (by decide) rfl (Nat.le_of_ble_eq_true rfl) rfl ?_
  intro p e s m args below meth c hx hb hr hlocks hC ht hI ls hl
  obtain ⟨hx, hb, hml, hown, hB⟩ := id hC
  have hn0 : s.heap.size = n := hI.1
  obtain ⟨H, hH⟩ : ∃ H, H = s.heap := ⟨_, rfl⟩
  obtain ⟨locs, hlocs⟩ : ∃ L : List Loc, L = [] := ⟨_, rfl⟩
  rw [← hH, ← hlocs] at hI ⊢
  clear hH hlocs
  unfold p_L_foldObstacle at hq
  refine lv_aload_n hx hb dL_foldObstacle_0 rfl (lv_at hl 3 rfl) ?_
  refine lv_iconst (v := (0 : Int32)) hx hb dL_foldObstacle_1 (by decide) ?_
  refine lv_aload_n hx hb dL_foldObstacle_2 rfl (lv_at hl 0 rfl) ?_
  refine lv_iload_n hx hb dL_foldObstacle_3 rfl (lv_at hl 1 rfl) ?_
  refine lv_iload_n hx hb dL_foldObstacle_4 rfl (lv_at hl 2 rfl) ?_
  split at hq
  · cases hq
  · rename_i z hz
    by_cases hz0 : z = 0
    · subst hz0
      replace hq := i_t rfl hq
      refine gh_cR (name := "java/lang/IndexOutOfBoundsException") (g_runVX (As := [.int a1, .int a2]) (rest := [.int (0 : Int32), .ref a3]) (ci := 9) hC (c_X7_foldObstacle l hl0 V g D cT f n a0 a1 a2 (.inl 0) hz) k_X7_foldObstacle m_1036 rfl rfl ⟨Nat.le_of_ble_eq_true rfl, Nat.le_of_ble_eq_true rfl⟩ hI rfl rfl (h_me_eq hz).1 rfl hl.1 rfl (Nat.le_of_ble_eq_true rfl) dL_foldObstacle_5 ⟨by decide, by decide⟩) no_i hI hown [] ⟨0, 10, 13, 19⟩ [⟨0, 10, 17, 13⟩] (by rw [ht]; rfl) (fun _ h => nomatch h) (by decide) (by decide) (hB _ m_745) (gh_ca hI (i := 4) (a := "java/lang/IndexOutOfBoundsException") (b := "java/lang/IndexOutOfBoundsException") rfl) (fun H locs q9 hI => ?_)
      refine lv_astore (lv' := [(4, .ref q9), (0, .ref a0), (1, .int a1), (2, .int a2), (3, .ref a3)]) hx hb dL_foldObstacle_13 hl (by decide) rfl (fun ls hl => ?_)
      refine lv_iconst (v := (1 : Int32)) hx hb dL_foldObstacle_15 (by decide) ?_
      refine W.widen (k := 2) (n := 12) (by decide) (by decide) ?_
      exact ge_Ni hx hb hlocks hr hn0 hI hq dL_foldObstacle_16
    · replace hq := i_f hz0 hq
      by_cases hz1 : z = 1
      · subst hz1
        replace hq := i_t rfl hq
        refine gh_cR (name := "java/lang/IllegalArgumentException") (g_runVX (As := [.int a1, .int a2]) (rest := [.int (0 : Int32), .ref a3]) (ci := 9) hC (c_X7_foldObstacle l hl0 V g D cT f n a0 a1 a2 (.inl 1) hz) k_X7_foldObstacle m_1036 rfl rfl ⟨Nat.le_of_ble_eq_true rfl, Nat.le_of_ble_eq_true rfl⟩ hI rfl rfl (h_me_eq hz).1 rfl hl.1 rfl (Nat.le_of_ble_eq_true rfl) dL_foldObstacle_5 ⟨by decide, by decide⟩) no_i hI hown [⟨0, 10, 13, 19⟩] ⟨0, 10, 17, 13⟩ [] (by rw [ht]; rfl) (fun y hy => by rw [List.mem_singleton.mp hy]; exact Or.inr ⟨by decide, "java/lang/IndexOutOfBoundsException", hB _ m_745, gh_nc hI (i := 2) (a := "java/lang/IllegalArgumentException") (b := "java/lang/IndexOutOfBoundsException") rfl⟩) (by decide) (by decide) (hB _ m_609) (gh_ca hI (i := 5) (a := "java/lang/IllegalArgumentException") (b := "java/lang/IllegalArgumentException") rfl) (fun H locs q9 hI => ?_)
        refine lv_astore (lv' := [(4, .ref q9), (0, .ref a0), (1, .int a1), (2, .int a2), (3, .ref a3)]) hx hb dL_foldObstacle_17 hl (by decide) rfl (fun ls hl => ?_)
        refine lv_iconst (v := (2 : Int32)) hx hb dL_foldObstacle_19 (by decide) ?_
        refine W.widen (k := 2) (n := 12) (by decide) (by decide) ?_
        exact ge_Ni hx hb hlocks hr hn0 hI hq dL_foldObstacle_20
      · replace hq := i_f hz1 hq
        cases hq
  · rename_i v hz
    refine gx_i (g_runVX (As := [.int a1, .int a2]) (rest := [.int (0 : Int32), .ref a3]) (ci := 9) hC (c_X7_foldObstacle l hl0 V g D cT f n a0 a1 a2 (.inr v) hz) k_X7_foldObstacle m_1036 rfl rfl ⟨Nat.le_of_ble_eq_true rfl, Nat.le_of_ble_eq_true rfl⟩ hI rfl rfl (h_me_eq hz).1 rfl hl.1 rfl (Nat.le_of_ble_eq_true rfl) dL_foldObstacle_5 ⟨by decide, by decide⟩) hI (fun H locs hI => ?_)
    refine lv_i2l hx hb dL_foldObstacle_8 rfl ?_
    obtain ⟨f1, ef1, hq⟩ := b_s hq
    refine fa_sl hx hb hI ef1 dL_foldObstacle_9 (fun H locs hI => ?_)
    refine lv_goto (tgt := 21) hx hb dL_foldObstacle_10 (by decide) ?_
    refine lv_iconst (v := (0 : Int32)) hx hb dL_foldObstacle_21 (by decide) ?_
    refine W.widen (k := 2) (n := 12) (by decide) (by decide) ?_
    exact ge_Ni hx hb hlocks hr hn0 hI hq dL_foldObstacle_22
abbrev rm_L_lengthAfterFold : Room := { frames := 10, cells := 3, slots := 18, locals := 262 }
set_option maxHeartbeats 4000000 in
set_option maxRecDepth 100000 in
theorem c_L_lengthAfterFold (l : Launch) (hl0 : l.stackTraces = false) (V : Nat → Nat) (g : GH) (D : va_G) (cT : Nat → ClassId) (f : GH) (n : Nat) (a0 : Nat) (a1 : Int32) (a2 : Int32) (a3 : Int32) (a4 : Nat) (o : Int32 × GH) (hq : p_L_lengthAfterFold V g f a0 a1 a2 a3 a4 = some o) : Met l yL_lengthAfterFold (Cond.codeWith yL_lengthAfterFold cL_lengthAfterFold 6 (some .int) [(0, 12, 15, 19), (0, 12, 19, 13)] :: g_B) rm_L_lengthAfterFold (va_Pc [.ref a0, .int a1, .int a2, .int a3, .ref a4] (g_I V g D cT f n)) (g_Wn V D cT o n) 3 18 (g_A V) := by
  refine gh_begin (own := RL) [.ref a0, .int a1, .int a2, .int a3, .ref a4] [(0, .ref a0), (1, .int a1), (2, .int a2), (3, .int a3), (4, .ref a4)] (by decide) rfl (Nat.le_of_ble_eq_true rfl) rfl ?_
  intro p e s m args below meth c hx hb hr hlocks hC ht hI ls hl
  obtain ⟨hx, hb, hml, hown, hB⟩ := id hC
  have hn0 : s.heap.size = n := hI.1
  obtain ⟨H, hH⟩ : ∃ H, H = s.heap := ⟨_, rfl⟩
  obtain ⟨locs, hlocs⟩ : ∃ L : List Loc, L = [] := ⟨_, rfl⟩
  rw [← hH, ← hlocs] at hI ⊢
  clear hH hlocs
  unfold p_L_lengthAfterFold at hq
  refine lv_aload hx hb dL_lengthAfterFold_0 (lv_at hl 4 rfl) ?_
  refine lv_iconst (v := (0 : Int32)) hx hb dL_lengthAfterFold_2 (by decide) ?_
  refine lv_aload_n hx hb dL_lengthAfterFold_3 rfl (lv_at hl 0 rfl) ?_
  refine lv_iload_n hx hb dL_lengthAfterFold_4 rfl (lv_at hl 1 rfl) ?_
  refine lv_iload_n hx hb dL_lengthAfterFold_5 rfl (lv_at hl 2 rfl) ?_
  refine lv_iload_n hx hb dL_lengthAfterFold_6 rfl (lv_at hl 3 rfl) ?_
  split at hq
  · cases hq
  · rename_i z hz
    by_cases hz0 : z.1 = 0
    · obtain ⟨z, fz⟩ := z
      dsimp only at hz0
      subst hz0
      replace hq := i_t rfl hq
      refine gh_cW (name := "java/lang/IndexOutOfBoundsException") (g_runVX (As := [.int a1, .int a2, .int a3]) (rest := [.int (0 : Int32), .ref a4]) (ci := 9) hC (c_X7_lengthAfterFold l hl0 V g D cT f n a0 a1 a2 a3 (.inl (0, fz)) hz) k_X7_lengthAfterFold m_1044 rfl rfl ⟨Nat.le_of_ble_eq_true rfl, Nat.le_of_ble_eq_true rfl⟩ hI rfl rfl (h_me_eq hz).1 rfl hl.1 rfl (Nat.le_of_ble_eq_true rfl) dL_lengthAfterFold_7 ⟨by decide, by decide⟩) noy_i hI hown [] ⟨0, 12, 15, 19⟩ [⟨0, 12, 19, 13⟩] (by rw [ht]; rfl) (fun _ h => nomatch h) (by decide) (by decide) (hB _ m_745) (gh_ca hI (i := 4) (a := "java/lang/IndexOutOfBoundsException") (b := "java/lang/IndexOutOfBoundsException") rfl) (fun H locs q9 hI => ?_)
      refine lv_astore (lv' := [(5, .ref q9), (0, .ref a0), (1, .int a1), (2, .int a2), (3, .int a3), (4, .ref a4)]) hx hb dL_lengthAfterFold_15 hl (by decide) rfl (fun ls hl => ?_)
      refine lv_iconst (v := (1 : Int32)) hx hb dL_lengthAfterFold_17 (by decide) ?_
      refine W.widen (k := 3) (n := 18) (by decide) (by decide) ?_
      exact ge_Ni hx hb hlocks hr hn0 hI hq dL_lengthAfterFold_18
    · replace hq := i_f hz0 hq
      by_cases hz1 : z.1 = 1
      · obtain ⟨z, fz⟩ := z
        dsimp only at hz1
        subst hz1
        replace hq := i_t rfl hq
        refine gh_cW (name := "java/lang/IllegalArgumentException") (g_runVX (As := [.int a1, .int a2, .int a3]) (rest := [.int (0 : Int32), .ref a4]) (ci := 9) hC (c_X7_lengthAfterFold l hl0 V g D cT f n a0 a1 a2 a3 (.inl (1, fz)) hz) k_X7_lengthAfterFold m_1044 rfl rfl ⟨Nat.le_of_ble_eq_true rfl, Nat.le_of_ble_eq_true rfl⟩ hI rfl rfl (h_me_eq hz).1 rfl hl.1 rfl (Nat.le_of_ble_eq_true rfl) dL_lengthAfterFold_7 ⟨by decide, by decide⟩) noy_i hI hown [⟨0, 12, 15, 19⟩] ⟨0, 12, 19, 13⟩ [] (by rw [ht]; rfl) (fun y hy => by rw [List.mem_singleton.mp hy]; exact Or.inr ⟨by decide, "java/lang/IndexOutOfBoundsException", hB _ m_745, gh_nc hI (i := 2) (a := "java/lang/IllegalArgumentException") (b := "java/lang/IndexOutOfBoundsException") rfl⟩) (by decide) (by decide) (hB _ m_609) (gh_ca hI (i := 5) (a := "java/lang/IllegalArgumentException") (b := "java/lang/IllegalArgumentException") rfl) (fun H locs q9 hI => ?_)
        refine lv_astore (lv' := [(5, .ref q9), (0, .ref a0), (1, .int a1), (2, .int a2), (3, .int a3), (4, .ref a4)]) hx hb dL_lengthAfterFold_19 hl (by decide) rfl (fun ls hl => ?_)
        refine lv_iconst (v := (2 : Int32)) hx hb dL_lengthAfterFold_21 (by decide) ?_
        refine W.widen (k := 3) (n := 18) (by decide) (by decide) ?_
        exact ge_Ni hx hb hlocks hr hn0 hI hq dL_lengthAfterFold_22
      · replace hq := i_f hz1 hq
        cases hq
  · rename_i v hz
    obtain ⟨v, vf⟩ := v
    refine gy_i (g_runVX (As := [.int a1, .int a2, .int a3]) (rest := [.int (0 : Int32), .ref a4]) (ci := 9) hC (c_X7_lengthAfterFold l hl0 V g D cT f n a0 a1 a2 a3 (.inr (v, vf)) hz) k_X7_lengthAfterFold m_1044 rfl rfl ⟨Nat.le_of_ble_eq_true rfl, Nat.le_of_ble_eq_true rfl⟩ hI rfl rfl (h_me_eq hz).1 rfl hl.1 rfl (Nat.le_of_ble_eq_true rfl) dL_lengthAfterFold_7 ⟨by decide, by decide⟩) hI (fun H locs hI => ?_)
    refine lv_i2l hx hb dL_lengthAfterFold_10 rfl ?_
    obtain ⟨f1, ef1, hq⟩ := b_s hq
    refine fa_sl hx hb hI ef1 dL_lengthAfterFold_11 (fun H locs hI => ?_)
    refine lv_goto (tgt := 23) hx hb dL_lengthAfterFold_12 (by decide) ?_
    refine lv_iconst (v := (0 : Int32)) hx hb dL_lengthAfterFold_23 (by decide) ?_
    refine W.widen (k := 3) (n := 18) (by decide) (by decide) ?_
    exact ge_Ni hx hb hlocks hr hn0 hI hq dL_lengthAfterFold_24
abbrev rm_L_lengthWithoutPoint : Room := { frames := 11, cells := 2, slots := 12, locals := 287 }
set_option maxHeartbeats 4000000 in
set_option maxRecDepth 100000 in
theorem c_L_lengthWithoutPoint (l : Launch) (hl0 : l.stackTraces = false) (V : Nat → Nat) (g : GH) (D : va_G) (cT : Nat → ClassId) (f : GH) (n : Nat) (a0 : Nat) (a1 : Int32) (a2 : Int32) (a3 : Nat) (o : Int32 × GH) (hq : p_L_lengthWithoutPoint V g f a0 a1 a2 a3 = some o) : Met l yL_lengthWithoutPoint (Cond.codeWith yL_lengthWithoutPoint cL_lengthWithoutPoint 5 (some .int) [(0, 10, 13, 19)] :: g_B) rm_L_lengthWithoutPoint (va_Pc [.ref a0, .int a1, .int a2, .ref a3] (g_I V g D cT f n)) (g_Wn V D cT o n) 2 12 (g_A V) := by
  refine gh_begin (own := RL) [.ref a0, .int a1, .int a2, .ref a3] [(0, .ref a0), (1, .int a1), (2, .int a2), (3, .ref a3)] (by decide) rfl (Nat.le_of_ble_eq_true rfl) rfl ?_
  intro p e s m args below meth c hx hb hr hlocks hC ht hI ls hl
  obtain ⟨hx, hb, hml, hown, hB⟩ := id hC
  have hn0 : s.heap.size = n := hI.1
  obtain ⟨H, hH⟩ : ∃ H, H = s.heap := ⟨_, rfl⟩
  obtain ⟨locs, hlocs⟩ : ∃ L : List Loc, L = [] := ⟨_, rfl⟩
  rw [← hH, ← hlocs] at hI ⊢
  clear hH hlocs
  unfold p_L_lengthWithoutPoint at hq
  refine lv_aload_n hx hb dL_lengthWithoutPoint_0 rfl (lv_at hl 3 rfl) ?_
  refine lv_iconst (v := (0 : Int32)) hx hb dL_lengthWithoutPoint_1 (by decide) ?_
  refine lv_aload_n hx hb dL_lengthWithoutPoint_2 rfl (lv_at hl 0 rfl) ?_
  refine lv_iload_n hx hb dL_lengthWithoutPoint_3 rfl (lv_at hl 1 rfl) ?_
  refine lv_iload_n hx hb dL_lengthWithoutPoint_4 rfl (lv_at hl 2 rfl) ?_
  split at hq
  · cases hq
  · rename_i z hz
    by_cases hz0 : z = 0
    · subst hz0
      replace hq := i_t rfl hq
      refine gh_cR (name := "java/lang/IndexOutOfBoundsException") (g_runVX (As := [.int a1, .int a2]) (rest := [.int (0 : Int32), .ref a3]) (ci := 9) hC (c_X7_lengthWithoutPoint l hl0 V g D cT f n a0 a1 a2 (.inl 0) hz) k_X7_lengthWithoutPoint m_1053 rfl rfl ⟨Nat.le_of_ble_eq_true rfl, Nat.le_of_ble_eq_true rfl⟩ hI rfl rfl (h_me_eq hz).1 rfl hl.1 rfl (Nat.le_of_ble_eq_true rfl) dL_lengthWithoutPoint_5 ⟨by decide, by decide⟩) no_i hI hown [] ⟨0, 10, 13, 19⟩ [] (by rw [ht]; rfl) (fun _ h => nomatch h) (by decide) (by decide) (hB _ m_745) (gh_ca hI (i := 4) (a := "java/lang/IndexOutOfBoundsException") (b := "java/lang/IndexOutOfBoundsException") rfl) (fun H locs q9 hI => ?_)
      refine lv_astore (lv' := [(4, .ref q9), (0, .ref a0), (1, .int a1), (2, .int a2), (3, .ref a3)]) hx hb dL_lengthWithoutPoint_13 hl (by decide) rfl (fun ls hl => ?_)
      refine lv_iconst (v := (1 : Int32)) hx hb dL_lengthWithoutPoint_15 (by decide) ?_
      refine W.widen (k := 2) (n := 12) (by decide) (by decide) ?_
      exact ge_Ni hx hb hlocks hr hn0 hI hq dL_lengthWithoutPoint_16
    · replace hq := i_f hz0 hq
      cases hq
  · rename_i v hz
    refine gx_i (g_runVX (As := [.int a1, .int a2]) (rest := [.int (0 : Int32), .ref a3]) (ci := 9) hC (c_X7_lengthWithoutPoint l hl0 V g D cT f n a0 a1 a2 (.inr v) hz) k_X7_lengthWithoutPoint m_1053 rfl rfl ⟨Nat.le_of_ble_eq_true rfl, Nat.le_of_ble_eq_true rfl⟩ hI rfl rfl (h_me_eq hz).1 rfl hl.1 rfl (Nat.le_of_ble_eq_true rfl) dL_lengthWithoutPoint_5 ⟨by decide, by decide⟩) hI (fun H locs hI => ?_)
    refine lv_i2l hx hb dL_lengthWithoutPoint_8 rfl ?_
    obtain ⟨f1, ef1, hq⟩ := b_s hq
    refine fa_sl hx hb hI ef1 dL_lengthWithoutPoint_9 (fun H locs hI => ?_)
    refine lv_goto (tgt := 17) hx hb dL_lengthWithoutPoint_10 (by decide) ?_
    refine lv_iconst (v := (0 : Int32)) hx hb dL_lengthWithoutPoint_17 (by decide) ?_
    refine W.widen (k := 2) (n := 12) (by decide) (by decide) ?_
    exact ge_Ni hx hb hlocks hr hn0 hI hq dL_lengthWithoutPoint_18
abbrev rm_L_leastImportantPoint : Room := { frames := 10, cells := 1, slots := 6, locals := 291 }
set_option maxHeartbeats 4000000 in
set_option maxRecDepth 100000 in
theorem c_L_leastImportantPoint (l : Launch) (hl0 : l.stackTraces = false) (V : Nat → Nat) (g : GH) (D : va_G) (cT : Nat → ClassId) (f : GH) (n : Nat) (a0 : Nat) (a1 : Int32) (a2 : Nat) (o : Int32 × GH) (hq : p_L_leastImportantPoint V g f a0 a1 a2 = some o) : Met l yL_leastImportantPoint (Cond.codeWith yL_leastImportantPoint cL_leastImportantPoint 4 (some .int) [(0, 9, 12, 19)] :: g_B) rm_L_leastImportantPoint (va_Pc [.ref a0, .int a1, .ref a2] (g_I V g D cT f n)) (g_Wn V D cT o n) 1 6 (g_A V) := by
  refine gh_begin (own := RL) [.ref a0, .int a1, .ref a2] [(0, .ref a0), (1, .int a1), (2, .ref a2)] (by decide) rfl (Nat.le_of_ble_eq_true rfl) rfl ?_
  intro p e s m args below meth c hx hb hr hlocks hC ht hI ls hl
  obtain ⟨hx, hb, hml, hown, hB⟩ := id hC
  have hn0 : s.heap.size = n := hI.1
  obtain ⟨H, hH⟩ : ∃ H, H = s.heap := ⟨_, rfl⟩
  obtain ⟨locs, hlocs⟩ : ∃ L : List Loc, L = [] := ⟨_, rfl⟩
  rw [← hH, ← hlocs] at hI ⊢
  clear hH hlocs
  unfold p_L_leastImportantPoint at hq
  refine lv_aload_n hx hb dL_leastImportantPoint_0 rfl (lv_at hl 2 rfl) ?_
  refine lv_iconst (v := (0 : Int32)) hx hb dL_leastImportantPoint_1 (by decide) ?_
  refine lv_aload_n hx hb dL_leastImportantPoint_2 rfl (lv_at hl 0 rfl) ?_
  refine lv_iload_n hx hb dL_leastImportantPoint_3 rfl (lv_at hl 1 rfl) ?_
  split at hq
  · cases hq
  · rename_i z hz
    by_cases hz0 : z = 0
    · subst hz0
      replace hq := i_t rfl hq
      refine gh_cR (name := "java/lang/IndexOutOfBoundsException") (g_runVX (As := [.int a1]) (rest := [.int (0 : Int32), .ref a2]) (ci := 9) hC (c_X7_leastImportantPoint l hl0 V g D cT f n a0 a1 (.inl 0) hz) k_X7_leastImportantPoint m_1065 rfl rfl ⟨Nat.le_of_ble_eq_true rfl, Nat.le_of_ble_eq_true rfl⟩ hI rfl rfl (h_me_eq hz).1 rfl hl.1 rfl (Nat.le_of_ble_eq_true rfl) dL_leastImportantPoint_4 ⟨by decide, by decide⟩) no_i hI hown [] ⟨0, 9, 12, 19⟩ [] (by rw [ht]; rfl) (fun _ h => nomatch h) (by decide) (by decide) (hB _ m_745) (gh_ca hI (i := 4) (a := "java/lang/IndexOutOfBoundsException") (b := "java/lang/IndexOutOfBoundsException") rfl) (fun H locs q9 hI => ?_)
      refine lv_astore_n (lv' := [(3, .ref q9), (0, .ref a0), (1, .int a1), (2, .ref a2)]) hx hb dL_leastImportantPoint_12 rfl hl (by decide) rfl (fun ls hl => ?_)
      refine lv_iconst (v := (1 : Int32)) hx hb dL_leastImportantPoint_13 (by decide) ?_
      refine W.widen (k := 1) (n := 6) (by decide) (by decide) ?_
      exact ge_Ni hx hb hlocks hr hn0 hI hq dL_leastImportantPoint_14
    · replace hq := i_f hz0 hq
      cases hq
  · rename_i v hz
    refine gx_i (g_runVX (As := [.int a1]) (rest := [.int (0 : Int32), .ref a2]) (ci := 9) hC (c_X7_leastImportantPoint l hl0 V g D cT f n a0 a1 (.inr v) hz) k_X7_leastImportantPoint m_1065 rfl rfl ⟨Nat.le_of_ble_eq_true rfl, Nat.le_of_ble_eq_true rfl⟩ hI rfl rfl (h_me_eq hz).1 rfl hl.1 rfl (Nat.le_of_ble_eq_true rfl) dL_leastImportantPoint_4 ⟨by decide, by decide⟩) hI (fun H locs hI => ?_)
    refine lv_i2l hx hb dL_leastImportantPoint_7 rfl ?_
    obtain ⟨f1, ef1, hq⟩ := b_s hq
    refine fa_sl hx hb hI ef1 dL_leastImportantPoint_8 (fun H locs hI => ?_)
    refine lv_goto (tgt := 15) hx hb dL_leastImportantPoint_9 (by decide) ?_
    refine lv_iconst (v := (0 : Int32)) hx hb dL_leastImportantPoint_15 (by decide) ?_
    refine W.widen (k := 1) (n := 6) (by decide) (by decide) ?_
    exact ge_Ni hx hb hlocks hr hn0 hI hq dL_leastImportantPoint_16
abbrev rm_L_lengthInOtherMetric : Room := { frames := 10, cells := 2, slots := 12, locals := 261 }
set_option maxHeartbeats 4000000 in
set_option maxRecDepth 100000 in
theorem c_L_lengthInOtherMetric (l : Launch) (hl0 : l.stackTraces = false) (V : Nat → Nat) (g : GH) (D : va_G) (cT : Nat → ClassId) (f : GH) (n : Nat) (a0 : Nat) (a1 : Int32) (a2 : Int32) (a3 : Nat) (o : Int32 × GH) (hq : p_L_lengthInOtherMetric V g f a0 a1 a2 a3 = some o) : Met l yL_lengthInOtherMetric (Cond.codeWith yL_lengthInOtherMetric cL_lengthInOtherMetric 5 (some .int) [(0, 10, 13, 19), (0, 10, 17, 13)] :: g_B) rm_L_lengthInOtherMetric (va_Pc [.ref a0, .int a1, .int a2, .ref a3] (g_I V g D cT f n)) (g_Wn V D cT o n) 2 12 (g_A V) := by
  refine gh_begin (own := RL) [.ref a0, .int a1, .int a2, .ref a3] [(0, .ref a0), (1, .int a1), (2, .int a2), (3, .ref a3)] (by decide) rfl (Nat.le_of_ble_eq_true rfl) rfl ?_
  intro p e s m args below meth c hx hb hr hlocks hC ht hI ls hl
  obtain ⟨hx, hb, hml, hown, hB⟩ := id hC
  have hn0 : s.heap.size = n := hI.1
  obtain ⟨H, hH⟩ : ∃ H, H = s.heap := ⟨_, rfl⟩
  obtain ⟨locs, hlocs⟩ : ∃ L : List Loc, L = [] := ⟨_, rfl⟩
  rw [← hH, ← hlocs] at hI ⊢
  clear hH hlocs
  unfold p_L_lengthInOtherMetric at hq
  refine lv_aload_n hx hb dL_lengthInOtherMetric_0 rfl (lv_at hl 3 rfl) ?_
  refine lv_iconst (v := (0 : Int32)) hx hb dL_lengthInOtherMetric_1 (by decide) ?_
  refine lv_aload_n hx hb dL_lengthInOtherMetric_2 rfl (lv_at hl 0 rfl) ?_
  refine lv_iload_n hx hb dL_lengthInOtherMetric_3 rfl (lv_at hl 1 rfl) ?_
  refine lv_iload_n hx hb dL_lengthInOtherMetric_4 rfl (lv_at hl 2 rfl) ?_
  split at hq
  · cases hq
  · rename_i z hz
    by_cases hz0 : z = 0
    · subst hz0
      replace hq := i_t rfl hq
      refine gh_cR (name := "java/lang/IndexOutOfBoundsException") (g_runVX (As := [.int a1, .int a2]) (rest := [.int (0 : Int32), .ref a3]) (ci := 9) hC (c_X7_lengthInOtherMetric l hl0 V g D cT f n a0 a1 a2 (.inl 0) hz) k_X7_lengthInOtherMetric m_1072 rfl rfl ⟨Nat.le_of_ble_eq_true rfl, Nat.le_of_ble_eq_true rfl⟩ hI rfl rfl (h_me_eq hz).1 rfl hl.1 rfl (Nat.le_of_ble_eq_true rfl) dL_lengthInOtherMetric_5 ⟨by decide, by decide⟩) no_i hI hown [] ⟨0, 10, 13, 19⟩ [⟨0, 10, 17, 13⟩] (by rw [ht]; rfl) (fun _ h => nomatch h) (by decide) (by decide) (hB _ m_745) (gh_ca hI (i := 4) (a := "java/lang/IndexOutOfBoundsException") (b := "java/lang/IndexOutOfBoundsException") rfl) (fun H locs q9 hI => ?_)
      refine lv_astore (lv' := [(4, .ref q9), (0, .ref a0), (1, .int a1), (2, .int a2), (3, .ref a3)]) hx hb dL_lengthInOtherMetric_13 hl (by decide) rfl (fun ls hl => ?_)
      refine lv_iconst (v := (1 : Int32)) hx hb dL_lengthInOtherMetric_15 (by decide) ?_
      refine W.widen (k := 2) (n := 12) (by decide) (by decide) ?_
      exact ge_Ni hx hb hlocks hr hn0 hI hq dL_lengthInOtherMetric_16
    · replace hq := i_f hz0 hq
      by_cases hz1 : z = 1
      · subst hz1
        replace hq := i_t rfl hq
        refine gh_cR (name := "java/lang/IllegalArgumentException") (g_runVX (As := [.int a1, .int a2]) (rest := [.int (0 : Int32), .ref a3]) (ci := 9) hC (c_X7_lengthInOtherMetric l hl0 V g D cT f n a0 a1 a2 (.inl 1) hz) k_X7_lengthInOtherMetric m_1072 rfl rfl ⟨Nat.le_of_ble_eq_true rfl, Nat.le_of_ble_eq_true rfl⟩ hI rfl rfl (h_me_eq hz).1 rfl hl.1 rfl (Nat.le_of_ble_eq_true rfl) dL_lengthInOtherMetric_5 ⟨by decide, by decide⟩) no_i hI hown [⟨0, 10, 13, 19⟩] ⟨0, 10, 17, 13⟩ [] (by rw [ht]; rfl) (fun y hy => by rw [List.mem_singleton.mp hy]; exact Or.inr ⟨by decide, "java/lang/IndexOutOfBoundsException", hB _ m_745, gh_nc hI (i := 2) (a := "java/lang/IllegalArgumentException") (b := "java/lang/IndexOutOfBoundsException") rfl⟩) (by decide) (by decide) (hB _ m_609) (gh_ca hI (i := 5) (a := "java/lang/IllegalArgumentException") (b := "java/lang/IllegalArgumentException") rfl) (fun H locs q9 hI => ?_)
        refine lv_astore (lv' := [(4, .ref q9), (0, .ref a0), (1, .int a1), (2, .int a2), (3, .ref a3)]) hx hb dL_lengthInOtherMetric_17 hl (by decide) rfl (fun ls hl => ?_)
        refine lv_iconst (v := (2 : Int32)) hx hb dL_lengthInOtherMetric_19 (by decide) ?_
        refine W.widen (k := 2) (n := 12) (by decide) (by decide) ?_
        exact ge_Ni hx hb hlocks hr hn0 hI hq dL_lengthInOtherMetric_20
      · replace hq := i_f hz1 hq
        cases hq
  · rename_i v hz
    refine gx_i (g_runVX (As := [.int a1, .int a2]) (rest := [.int (0 : Int32), .ref a3]) (ci := 9) hC (c_X7_lengthInOtherMetric l hl0 V g D cT f n a0 a1 a2 (.inr v) hz) k_X7_lengthInOtherMetric m_1072 rfl rfl ⟨Nat.le_of_ble_eq_true rfl, Nat.le_of_ble_eq_true rfl⟩ hI rfl rfl (h_me_eq hz).1 rfl hl.1 rfl (Nat.le_of_ble_eq_true rfl) dL_lengthInOtherMetric_5 ⟨by decide, by decide⟩) hI (fun H locs hI => ?_)
    refine lv_i2l hx hb dL_lengthInOtherMetric_8 rfl ?_
    obtain ⟨f1, ef1, hq⟩ := b_s hq
    refine fa_sl hx hb hI ef1 dL_lengthInOtherMetric_9 (fun H locs hI => ?_)
    refine lv_goto (tgt := 21) hx hb dL_lengthInOtherMetric_10 (by decide) ?_
    refine lv_iconst (v := (0 : Int32)) hx hb dL_lengthInOtherMetric_21 (by decide) ?_
    refine W.widen (k := 2) (n := 12) (by decide) (by decide) ?_
    exact ge_Ni hx hb hlocks hr hn0 hI hq dL_lengthInOtherMetric_22
abbrev rm_L_addCoast : Room := { frames := 11, cells := 3, slots := 18, locals := 315 }
set_option maxHeartbeats 4000000 in
set_option maxRecDepth 100000 in
theorem c_L_addCoast (l : Launch) (hl0 : l.stackTraces = false) (V : Nat → Nat) (g : GH) (D : va_G) (cT : Nat → ClassId) (f : GH) (n : Nat) (a0 : Nat) (a1 : Int32) (a2 : Nat) (o : Int32 × GH) (hq : p_L_addCoast V g f a0 a1 a2 = some o) : Met l yL_addCoast (Cond.codeWith yL_addCoast cL_addCoast 4 (some .int) [(0, 9, 12, 13), (0, 9, 15, 82)] :: g_B) rm_L_addCoast (va_Pc [.ref a0, .int a1, .ref a2] (g_I V g D cT f n)) (g_Wn V D cT o n) 3 18 (g_A V) := by
  refine gh_begin (own := RL) [.ref a0, .int a1, .ref a2] [(0, .ref a0), (1, .int a1), (2, .ref a2)] (by decide) rfl (Nat.le_of_ble_eq_true rfl) rfl ?_
  intro p e s m args below meth c hx hb hr hlocks hC ht hI ls hl
  obtain ⟨hx, hb, hml, hown, hB⟩ := id hC
  have hn0 : s.heap.size = n := hI.1
  obtain ⟨H, hH⟩ : ∃ H, H = s.heap := ⟨_, rfl⟩
  obtain ⟨locs, hlocs⟩ : ∃ L : List Loc, L = [] := ⟨_, rfl⟩
  rw [← hH, ← hlocs] at hI ⊢
  clear hH hlocs
  unfold p_L_addCoast at hq
  refine lv_aload_n hx hb dL_addCoast_0 rfl (lv_at hl 2 rfl) ?_
  refine lv_iconst (v := (0 : Int32)) hx hb dL_addCoast_1 (by decide) ?_
  refine lv_aload_n hx hb dL_addCoast_2 rfl (lv_at hl 0 rfl) ?_
  refine lv_iload_n hx hb dL_addCoast_3 rfl (lv_at hl 1 rfl) ?_
  split at hq
  · cases hq
  · rename_i z hz
    by_cases hz0 : z.1 = 1
    · obtain ⟨z, fz⟩ := z
      dsimp only at hz0
      subst hz0
      replace hq := i_t rfl hq
      refine gh_cW (name := "java/lang/IllegalArgumentException") (g_runVX (As := [.int a1]) (rest := [.int (0 : Int32), .ref a2]) (ci := 9) hC (c_X7_addCoast l hl0 V g D cT f n a0 a1 (.inl (1, fz)) hz) k_X7_addCoast m_1079 rfl rfl ⟨Nat.le_of_ble_eq_true rfl, Nat.le_of_ble_eq_true rfl⟩ hI rfl rfl (h_me_eq hz).1 rfl hl.1 rfl (Nat.le_of_ble_eq_true rfl) dL_addCoast_4 ⟨by decide, by decide⟩) noy_i hI hown [] ⟨0, 9, 12, 13⟩ [⟨0, 9, 15, 82⟩] (by rw [ht]; rfl) (fun _ h => nomatch h) (by decide) (by decide) (hB _ m_609) (gh_ca hI (i := 5) (a := "java/lang/IllegalArgumentException") (b := "java/lang/IllegalArgumentException") rfl) (fun H locs q9 hI => ?_)
      refine lv_astore_n (lv' := [(3, .ref q9), (0, .ref a0), (1, .int a1), (2, .ref a2)]) hx hb dL_addCoast_12 rfl hl (by decide) rfl (fun ls hl => ?_)
      refine lv_iconst (v := (1 : Int32)) hx hb dL_addCoast_13 (by decide) ?_
      refine W.widen (k := 3) (n := 18) (by decide) (by decide) ?_
      exact ge_Ni hx hb hlocks hr hn0 hI hq dL_addCoast_14
    · replace hq := i_f hz0 hq
      by_cases hz1 : z.1 = 2
      · obtain ⟨z, fz⟩ := z
        dsimp only at hz1
        subst hz1
        replace hq := i_t rfl hq
        refine gh_cW (name := "java/lang/IllegalStateException") (g_runVX (As := [.int a1]) (rest := [.int (0 : Int32), .ref a2]) (ci := 9) hC (c_X7_addCoast l hl0 V g D cT f n a0 a1 (.inl (2, fz)) hz) k_X7_addCoast m_1079 rfl rfl ⟨Nat.le_of_ble_eq_true rfl, Nat.le_of_ble_eq_true rfl⟩ hI rfl rfl (h_me_eq hz).1 rfl hl.1 rfl (Nat.le_of_ble_eq_true rfl) dL_addCoast_4 ⟨by decide, by decide⟩) noy_i hI hown [⟨0, 9, 12, 13⟩] ⟨0, 9, 15, 82⟩ [] (by rw [ht]; rfl) (fun y hy => by rw [List.mem_singleton.mp hy]; exact Or.inr ⟨by decide, "java/lang/IllegalArgumentException", hB _ m_609, gh_nc hI (i := 5) (a := "java/lang/IllegalStateException") (b := "java/lang/IllegalArgumentException") rfl⟩) (by decide) (by decide) (hB _ m_936) (gh_ca hI (i := 6) (a := "java/lang/IllegalStateException") (b := "java/lang/IllegalStateException") rfl) (fun H locs q9 hI => ?_)
        refine lv_astore_n (lv' := [(3, .ref q9), (0, .ref a0), (1, .int a1), (2, .ref a2)]) hx hb dL_addCoast_15 rfl hl (by decide) rfl (fun ls hl => ?_)
        refine lv_iconst (v := (2 : Int32)) hx hb dL_addCoast_16 (by decide) ?_
        refine W.widen (k := 3) (n := 18) (by decide) (by decide) ?_
        exact ge_Ni hx hb hlocks hr hn0 hI hq dL_addCoast_17
      · replace hq := i_f hz1 hq
        cases hq
  · rename_i v hz
    obtain ⟨v, vf⟩ := v
    refine gy_i (g_runVX (As := [.int a1]) (rest := [.int (0 : Int32), .ref a2]) (ci := 9) hC (c_X7_addCoast l hl0 V g D cT f n a0 a1 (.inr (v, vf)) hz) k_X7_addCoast m_1079 rfl rfl ⟨Nat.le_of_ble_eq_true rfl, Nat.le_of_ble_eq_true rfl⟩ hI rfl rfl (h_me_eq hz).1 rfl hl.1 rfl (Nat.le_of_ble_eq_true rfl) dL_addCoast_4 ⟨by decide, by decide⟩) hI (fun H locs hI => ?_)
    refine lv_i2l hx hb dL_addCoast_7 rfl ?_
    obtain ⟨f1, ef1, hq⟩ := b_s hq
    refine fa_sl hx hb hI ef1 dL_addCoast_8 (fun H locs hI => ?_)
    refine lv_goto (tgt := 18) hx hb dL_addCoast_9 (by decide) ?_
    refine lv_iconst (v := (0 : Int32)) hx hb dL_addCoast_18 (by decide) ?_
    refine W.widen (k := 3) (n := 18) (by decide) (by decide) ?_
    exact ge_Ni hx hb hlocks hr hn0 hI hq dL_addCoast_19
abbrev rm_L_removeCoast : Room := { frames := 11, cells := 1, slots := 6, locals := 298 }
set_option maxHeartbeats 4000000 in
set_option maxRecDepth 100000 in
theorem c_L_removeCoast (l : Launch) (hl0 : l.stackTraces = false) (V : Nat → Nat) (g : GH) (D : va_G) (cT : Nat → ClassId) (f : GH) (n : Nat) (a0 : Nat) (a1 : Int32) (a2 : Nat) (o : Int32 × GH) (hq : p_L_removeCoast V g f a0 a1 a2 = some o) : Met l yL_removeCoast (Cond.codeWith yL_removeCoast cL_removeCoast 4 (some .int) [(0, 9, 12, 19)] :: g_B) rm_L_removeCoast (va_Pc [.ref a0, .int a1, .ref a2] (g_I V g D cT f n)) (g_Wn V D cT o n) 1 6 (g_A V) := by
  refine gh_begin (own := RL) [.ref a0, .int a1, .ref a2] [(0, .ref a0), (1, .int a1), (2, .ref a2)] (by decide) rfl (Nat.le_of_ble_eq_true rfl) rfl ?_
  intro p e s m args below meth c hx hb hr hlocks hC ht hI ls hl
  obtain ⟨hx, hb, hml, hown, hB⟩ := id hC
  have hn0 : s.heap.size = n := hI.1
  obtain ⟨H, hH⟩ : ∃ H, H = s.heap := ⟨_, rfl⟩
  obtain ⟨locs, hlocs⟩ : ∃ L : List Loc, L = [] := ⟨_, rfl⟩
  rw [← hH, ← hlocs] at hI ⊢
  clear hH hlocs
  unfold p_L_removeCoast at hq
  refine lv_aload_n hx hb dL_removeCoast_0 rfl (lv_at hl 2 rfl) ?_
  refine lv_iconst (v := (0 : Int32)) hx hb dL_removeCoast_1 (by decide) ?_
  refine lv_aload_n hx hb dL_removeCoast_2 rfl (lv_at hl 0 rfl) ?_
  refine lv_iload_n hx hb dL_removeCoast_3 rfl (lv_at hl 1 rfl) ?_
  split at hq
  · cases hq
  · rename_i z hz
    by_cases hz0 : z.1 = 0
    · obtain ⟨z, fz⟩ := z
      dsimp only at hz0
      subst hz0
      replace hq := i_t rfl hq
      refine gh_cW (name := "java/lang/IndexOutOfBoundsException") (g_runVX (As := [.int a1]) (rest := [.int (0 : Int32), .ref a2]) (ci := 9) hC (c_X7_removeCoast l hl0 V g D cT f n a0 a1 (.inl (0, fz)) hz) k_X7_removeCoast m_1092 rfl rfl ⟨Nat.le_of_ble_eq_true rfl, Nat.le_of_ble_eq_true rfl⟩ hI rfl rfl (h_me_eq hz).1 rfl hl.1 rfl (Nat.le_of_ble_eq_true rfl) dL_removeCoast_4 ⟨by decide, by decide⟩) noy_i hI hown [] ⟨0, 9, 12, 19⟩ [] (by rw [ht]; rfl) (fun _ h => nomatch h) (by decide) (by decide) (hB _ m_745) (gh_ca hI (i := 4) (a := "java/lang/IndexOutOfBoundsException") (b := "java/lang/IndexOutOfBoundsException") rfl) (fun H locs q9 hI => ?_)
      refine lv_astore_n (lv' := [(3, .ref q9), (0, .ref a0), (1, .int a1), (2, .ref a2)]) hx hb dL_removeCoast_12 rfl hl (by decide) rfl (fun ls hl => ?_)
      refine lv_iconst (v := (1 : Int32)) hx hb dL_removeCoast_13 (by decide) ?_
      refine W.widen (k := 1) (n := 6) (by decide) (by decide) ?_
      exact ge_Ni hx hb hlocks hr hn0 hI hq dL_removeCoast_14
    · replace hq := i_f hz0 hq
      cases hq
  · rename_i v hz
    obtain ⟨v, vf⟩ := v
    refine gy_i (g_runVX (As := [.int a1]) (rest := [.int (0 : Int32), .ref a2]) (ci := 9) hC (c_X7_removeCoast l hl0 V g D cT f n a0 a1 (.inr (v, vf)) hz) k_X7_removeCoast m_1092 rfl rfl ⟨Nat.le_of_ble_eq_true rfl, Nat.le_of_ble_eq_true rfl⟩ hI rfl rfl (h_me_eq hz).1 rfl hl.1 rfl (Nat.le_of_ble_eq_true rfl) dL_removeCoast_4 ⟨by decide, by decide⟩) hI (fun H locs hI => ?_)
    refine lv_i2l hx hb dL_removeCoast_7 rfl ?_
    obtain ⟨f1, ef1, hq⟩ := b_s hq
    refine fa_sl hx hb hI ef1 dL_removeCoast_8 (fun H locs hI => ?_)
    refine lv_goto (tgt := 15) hx hb dL_removeCoast_9 (by decide) ?_
    refine lv_iconst (v := (0 : Int32)) hx hb dL_removeCoast_15 (by decide) ?_
    refine W.widen (k := 1) (n := 6) (by decide) (by decide) ?_
    exact ge_Ni hx hb hlocks hr hn0 hI hq dL_removeCoast_16
abbrev rm_L_fold : Room := { frames := 11, cells := 1, slots := 6, locals := 299 }
set_option maxHeartbeats 4000000 in
set_option maxRecDepth 100000 in
theorem c_L_fold (l : Launch) (hl0 : l.stackTraces = false) (V : Nat → Nat) (g : GH) (D : va_G) (cT : Nat → ClassId) (f : GH) (n : Nat) (a0 : Nat) (a1 : Int32) (a2 : Int32) (a3 : Nat) (o : Int32 × GH) (hq : p_L_fold V g f a0 a1 a2 a3 = some o) : Met l yL_fold (Cond.codeWith yL_fold cL_fold 5 (some .int) [(0, 10, 13, 19), (0, 10, 17, 13), (0, 10, 21, 82)] :: g_B) rm_L_fold (va_Pc [.ref a0, .int a1, .int a2, .ref a3] (g_I V g D cT f n)) (g_Wn V D cT o n) 1 6 (g_A V) := by
  refine gh_begin (own := RL) [.ref a0, .int a1, .int a2, .ref a3] [(0, .ref a0), (1, .int a1), (2, .int a2), (3, .ref a3)] (by decide) rfl (Nat.le_of_ble_eq_true rfl) rfl ?_
  intro p e s m args below meth c hx hb hr hlocks hC ht hI ls hl
  obtain ⟨hx, hb, hml, hown, hB⟩ := id hC
  have hn0 : s.heap.size = n := hI.1
  obtain ⟨H, hH⟩ : ∃ H, H = s.heap := ⟨_, rfl⟩
  obtain ⟨locs, hlocs⟩ : ∃ L : List Loc, L = [] := ⟨_, rfl⟩
  rw [← hH, ← hlocs] at hI ⊢
  clear hH hlocs
  unfold p_L_fold at hq
  refine lv_aload_n hx hb dL_fold_0 rfl (lv_at hl 3 rfl) ?_
  refine lv_iconst (v := (0 : Int32)) hx hb dL_fold_1 (by decide) ?_
  refine lv_aload_n hx hb dL_fold_2 rfl (lv_at hl 0 rfl) ?_
  refine lv_iload_n hx hb dL_fold_3 rfl (lv_at hl 1 rfl) ?_
  refine lv_iload_n hx hb dL_fold_4 rfl (lv_at hl 2 rfl) ?_
  split at hq
  · cases hq
  · rename_i z hz
    by_cases hz0 : z.1 = 0
    · obtain ⟨z, fz⟩ := z
      dsimp only at hz0
      subst hz0
      replace hq := i_t rfl hq
      refine gh_cW (name := "java/lang/IndexOutOfBoundsException") (g_runVX (As := [.int a1, .int a2]) (rest := [.int (0 : Int32), .ref a3]) (ci := 9) hC (c_X7_fold l hl0 V g D cT f n a0 a1 a2 (.inl (0, fz)) hz) k_X7_fold m_1101 rfl rfl ⟨Nat.le_of_ble_eq_true rfl, Nat.le_of_ble_eq_true rfl⟩ hI rfl rfl (h_me_eq hz).1 rfl hl.1 rfl (Nat.le_of_ble_eq_true rfl) dL_fold_5 ⟨by decide, by decide⟩) noy_i hI hown [] ⟨0, 10, 13, 19⟩ [⟨0, 10, 17, 13⟩, ⟨0, 10, 21, 82⟩] (by rw [ht]; rfl) (fun _ h => nomatch h) (by decide) (by decide) (hB _ m_745) (gh_ca hI (i := 4) (a := "java/lang/IndexOutOfBoundsException") (b := "java/lang/IndexOutOfBoundsException") rfl) (fun H locs q9 hI => ?_)
      refine lv_astore (lv' := [(4, .ref q9), (0, .ref a0), (1, .int a1), (2, .int a2), (3, .ref a3)]) hx hb dL_fold_13 hl (by decide) rfl (fun ls hl => ?_)
      refine lv_iconst (v := (1 : Int32)) hx hb dL_fold_15 (by decide) ?_
      refine W.widen (k := 1) (n := 6) (by decide) (by decide) ?_
      exact ge_Ni hx hb hlocks hr hn0 hI hq dL_fold_16
    · replace hq := i_f hz0 hq
      by_cases hz1 : z.1 = 1
      · obtain ⟨z, fz⟩ := z
        dsimp only at hz1
        subst hz1
        replace hq := i_t rfl hq
        refine gh_cW (name := "java/lang/IllegalArgumentException") (g_runVX (As := [.int a1, .int a2]) (rest := [.int (0 : Int32), .ref a3]) (ci := 9) hC (c_X7_fold l hl0 V g D cT f n a0 a1 a2 (.inl (1, fz)) hz) k_X7_fold m_1101 rfl rfl ⟨Nat.le_of_ble_eq_true rfl, Nat.le_of_ble_eq_true rfl⟩ hI rfl rfl (h_me_eq hz).1 rfl hl.1 rfl (Nat.le_of_ble_eq_true rfl) dL_fold_5 ⟨by decide, by decide⟩) noy_i hI hown [⟨0, 10, 13, 19⟩] ⟨0, 10, 17, 13⟩ [⟨0, 10, 21, 82⟩] (by rw [ht]; rfl) (fun y hy => by rw [List.mem_singleton.mp hy]; exact Or.inr ⟨by decide, "java/lang/IndexOutOfBoundsException", hB _ m_745, gh_nc hI (i := 2) (a := "java/lang/IllegalArgumentException") (b := "java/lang/IndexOutOfBoundsException") rfl⟩) (by decide) (by decide) (hB _ m_609) (gh_ca hI (i := 5) (a := "java/lang/IllegalArgumentException") (b := "java/lang/IllegalArgumentException") rfl) (fun H locs q9 hI => ?_)
        refine lv_astore (lv' := [(4, .ref q9), (0, .ref a0), (1, .int a1), (2, .int a2), (3, .ref a3)]) hx hb dL_fold_17 hl (by decide) rfl (fun ls hl => ?_)
        refine lv_iconst (v := (2 : Int32)) hx hb dL_fold_19 (by decide) ?_
        refine W.widen (k := 1) (n := 6) (by decide) (by decide) ?_
        exact ge_Ni hx hb hlocks hr hn0 hI hq dL_fold_20
      · replace hq := i_f hz1 hq
        by_cases hz2 : z.1 = 2
        · obtain ⟨z, fz⟩ := z
          dsimp only at hz2
          subst hz2
          replace hq := i_t rfl hq
          refine gh_cW (name := "java/lang/IllegalStateException") (g_runVX (As := [.int a1, .int a2]) (rest := [.int (0 : Int32), .ref a3]) (ci := 9) hC (c_X7_fold l hl0 V g D cT f n a0 a1 a2 (.inl (2, fz)) hz) k_X7_fold m_1101 rfl rfl ⟨Nat.le_of_ble_eq_true rfl, Nat.le_of_ble_eq_true rfl⟩ hI rfl rfl (h_me_eq hz).1 rfl hl.1 rfl (Nat.le_of_ble_eq_true rfl) dL_fold_5 ⟨by decide, by decide⟩) noy_i hI hown [⟨0, 10, 13, 19⟩, ⟨0, 10, 17, 13⟩] ⟨0, 10, 21, 82⟩ [] (by rw [ht]; rfl) (fun y hy => by
            rcases List.mem_cons.mp hy with rfl | hy
            · exact Or.inr ⟨by decide, "java/lang/IndexOutOfBoundsException", hB _ m_745, gh_nc hI (i := 4) (a := "java/lang/IllegalStateException") (b := "java/lang/IndexOutOfBoundsException") rfl⟩
            · rw [List.mem_singleton.mp hy]; exact Or.inr ⟨by decide, "java/lang/IllegalArgumentException", hB _ m_609, gh_nc hI (i := 5) (a := "java/lang/IllegalStateException") (b := "java/lang/IllegalArgumentException") rfl⟩) (by decide) (by decide) (hB _ m_936) (gh_ca hI (i := 6) (a := "java/lang/IllegalStateException") (b := "java/lang/IllegalStateException") rfl) (fun H locs q9 hI => ?_)
          refine lv_astore (lv' := [(4, .ref q9), (0, .ref a0), (1, .int a1), (2, .int a2), (3, .ref a3)]) hx hb dL_fold_21 hl (by decide) rfl (fun ls hl => ?_)
          refine lv_iconst (v := (3 : Int32)) hx hb dL_fold_23 (by decide) ?_
          refine W.widen (k := 1) (n := 6) (by decide) (by decide) ?_
          exact ge_Ni hx hb hlocks hr hn0 hI hq dL_fold_24
        · replace hq := i_f hz2 hq
          cases hq
  · rename_i v hz
    obtain ⟨v, vf⟩ := v
    refine gy_i (g_runVX (As := [.int a1, .int a2]) (rest := [.int (0 : Int32), .ref a3]) (ci := 9) hC (c_X7_fold l hl0 V g D cT f n a0 a1 a2 (.inr (v, vf)) hz) k_X7_fold m_1101 rfl rfl ⟨Nat.le_of_ble_eq_true rfl, Nat.le_of_ble_eq_true rfl⟩ hI rfl rfl (h_me_eq hz).1 rfl hl.1 rfl (Nat.le_of_ble_eq_true rfl) dL_fold_5 ⟨by decide, by decide⟩) hI (fun H locs hI => ?_)
    refine lv_i2l hx hb dL_fold_8 rfl ?_
    obtain ⟨f1, ef1, hq⟩ := b_s hq
    refine fa_sl hx hb hI ef1 dL_fold_9 (fun H locs hI => ?_)
    refine lv_goto (tgt := 25) hx hb dL_fold_10 (by decide) ?_
    refine lv_iconst (v := (0 : Int32)) hx hb dL_fold_25 (by decide) ?_
    refine W.widen (k := 1) (n := 6) (by decide) (by decide) ?_
    exact ge_Ni hx hb hlocks hr hn0 hI hq dL_fold_26
abbrev rm_L_unfold : Room := { frames := 11, cells := 1, slots := 6, locals := 298 }
set_option maxHeartbeats 4000000 in
set_option maxRecDepth 100000 in
theorem c_L_unfold (l : Launch) (hl0 : l.stackTraces = false) (V : Nat → Nat) (g : GH) (D : va_G) (cT : Nat → ClassId) (f : GH) (n : Nat) (a0 : Nat) (a1 : Int32) (a2 : Nat) (o : Int32 × GH) (hq : p_L_unfold V g f a0 a1 a2 = some o) : Met l yL_unfold (Cond.codeWith yL_unfold cL_unfold 4 (some .int) [(0, 9, 12, 19), (0, 9, 15, 82)] :: g_B) rm_L_unfold (va_Pc [.ref a0, .int a1, .ref a2] (g_I V g D cT f n)) (g_Wn V D cT o n) 1 6 (g_A V) := by
  refine gh_begin (own := RL) [.ref a0, .int a1, .ref a2] [(0, .ref a0), (1, .int a1), (2, .ref a2)] (by decide) rfl (Nat.le_of_ble_eq_true rfl) rfl ?_
  intro p e s m args below meth c hx hb hr hlocks hC ht hI ls hl
  obtain ⟨hx, hb, hml, hown, hB⟩ := id hC
  have hn0 : s.heap.size = n := hI.1
  obtain ⟨H, hH⟩ : ∃ H, H = s.heap := ⟨_, rfl⟩
  obtain ⟨locs, hlocs⟩ : ∃ L : List Loc, L = [] := ⟨_, rfl⟩
  rw [← hH, ← hlocs] at hI ⊢
  clear hH hlocs
  unfold p_L_unfold at hq
  refine lv_aload_n hx hb dL_unfold_0 rfl (lv_at hl 2 rfl) ?_
  refine lv_iconst (v := (0 : Int32)) hx hb dL_unfold_1 (by decide) ?_
  refine lv_aload_n hx hb dL_unfold_2 rfl (lv_at hl 0 rfl) ?_
  refine lv_iload_n hx hb dL_unfold_3 rfl (lv_at hl 1 rfl) ?_
  split at hq
  · cases hq
  · rename_i z hz
    by_cases hz0 : z.1 = 0
    · obtain ⟨z, fz⟩ := z
      dsimp only at hz0
      subst hz0
      replace hq := i_t rfl hq
      refine gh_cW (name := "java/lang/IndexOutOfBoundsException") (g_runVX (As := [.int a1]) (rest := [.int (0 : Int32), .ref a2]) (ci := 9) hC (c_X7_unfold l hl0 V g D cT f n a0 a1 (.inl (0, fz)) hz) k_X7_unfold m_1110 rfl rfl ⟨Nat.le_of_ble_eq_true rfl, Nat.le_of_ble_eq_true rfl⟩ hI rfl rfl (h_me_eq hz).1 rfl hl.1 rfl (Nat.le_of_ble_eq_true rfl) dL_unfold_4 ⟨by decide, by decide⟩) noy_i hI hown [] ⟨0, 9, 12, 19⟩ [⟨0, 9, 15, 82⟩] (by rw [ht]; rfl) (fun _ h => nomatch h) (by decide) (by decide) (hB _ m_745) (gh_ca hI (i := 4) (a := "java/lang/IndexOutOfBoundsException") (b := "java/lang/IndexOutOfBoundsException") rfl) (fun H locs q9 hI => ?_)
      refine lv_astore_n (lv' := [(3, .ref q9), (0, .ref a0), (1, .int a1), (2, .ref a2)]) hx hb dL_unfold_12 rfl hl (by decide) rfl (fun ls hl => ?_)
      refine lv_iconst (v := (1 : Int32)) hx hb dL_unfold_13 (by decide) ?_
      refine W.widen (k := 1) (n := 6) (by decide) (by decide) ?_
      exact ge_Ni hx hb hlocks hr hn0 hI hq dL_unfold_14
    · replace hq := i_f hz0 hq
      by_cases hz1 : z.1 = 2
      · obtain ⟨z, fz⟩ := z
        dsimp only at hz1
        subst hz1
        replace hq := i_t rfl hq
        refine gh_cW (name := "java/lang/IllegalStateException") (g_runVX (As := [.int a1]) (rest := [.int (0 : Int32), .ref a2]) (ci := 9) hC (c_X7_unfold l hl0 V g D cT f n a0 a1 (.inl (2, fz)) hz) k_X7_unfold m_1110 rfl rfl ⟨Nat.le_of_ble_eq_true rfl, Nat.le_of_ble_eq_true rfl⟩ hI rfl rfl (h_me_eq hz).1 rfl hl.1 rfl (Nat.le_of_ble_eq_true rfl) dL_unfold_4 ⟨by decide, by decide⟩) noy_i hI hown [⟨0, 9, 12, 19⟩] ⟨0, 9, 15, 82⟩ [] (by rw [ht]; rfl) (fun y hy => by rw [List.mem_singleton.mp hy]; exact Or.inr ⟨by decide, "java/lang/IndexOutOfBoundsException", hB _ m_745, gh_nc hI (i := 4) (a := "java/lang/IllegalStateException") (b := "java/lang/IndexOutOfBoundsException") rfl⟩) (by decide) (by decide) (hB _ m_936) (gh_ca hI (i := 6) (a := "java/lang/IllegalStateException") (b := "java/lang/IllegalStateException") rfl) (fun H locs q9 hI => ?_)
        refine lv_astore_n (lv' := [(3, .ref q9), (0, .ref a0), (1, .int a1), (2, .ref a2)]) hx hb dL_unfold_15 rfl hl (by decide) rfl (fun ls hl => ?_)
        refine lv_iconst (v := (2 : Int32)) hx hb dL_unfold_16 (by decide) ?_
        refine W.widen (k := 1) (n := 6) (by decide) (by decide) ?_
        exact ge_Ni hx hb hlocks hr hn0 hI hq dL_unfold_17
      · replace hq := i_f hz1 hq
        cases hq
  · rename_i v hz
    obtain ⟨v, vf⟩ := v
    refine gy_i (g_runVX (As := [.int a1]) (rest := [.int (0 : Int32), .ref a2]) (ci := 9) hC (c_X7_unfold l hl0 V g D cT f n a0 a1 (.inr (v, vf)) hz) k_X7_unfold m_1110 rfl rfl ⟨Nat.le_of_ble_eq_true rfl, Nat.le_of_ble_eq_true rfl⟩ hI rfl rfl (h_me_eq hz).1 rfl hl.1 rfl (Nat.le_of_ble_eq_true rfl) dL_unfold_4 ⟨by decide, by decide⟩) hI (fun H locs hI => ?_)
    refine lv_i2l hx hb dL_unfold_7 rfl ?_
    obtain ⟨f1, ef1, hq⟩ := b_s hq
    refine fa_sl hx hb hI ef1 dL_unfold_8 (fun H locs hI => ?_)
    refine lv_goto (tgt := 18) hx hb dL_unfold_9 (by decide) ?_
    refine lv_iconst (v := (0 : Int32)) hx hb dL_unfold_18 (by decide) ?_
    refine W.widen (k := 1) (n := 6) (by decide) (by decide) ?_
    exact ge_Ni hx hb hlocks hr hn0 hI hq dL_unfold_19
abbrev rm_L_movePoint : Room := { frames := 11, cells := 1, slots := 6, locals := 301 }
set_option maxHeartbeats 4000000 in
set_option maxRecDepth 100000 in
theorem c_L_movePoint (l : Launch) (hl0 : l.stackTraces = false) (V : Nat → Nat) (g : GH) (D : va_G) (cT : Nat → ClassId) (f : GH) (n : Nat) (a0 : Nat) (a1 : Int32) (a2 : Int32) (a3 : Int32) (a4 : Int32) (a5 : Nat) (o : Int32 × GH) (hq : p_L_movePoint V g f a0 a1 a2 a3 a4 a5 = some o) : Met l yL_movePoint (Cond.codeWith yL_movePoint cL_movePoint 7 (some .int) [(0, 14, 17, 19), (0, 14, 21, 13)] :: g_B) rm_L_movePoint (va_Pc [.ref a0, .int a1, .int a2, .int a3, .int a4, .ref a5] (g_I V g D cT f n)) (g_Wn V D cT o n) 1 6 (g_A V) := by
  refine gh_begin (own := RL) [.ref a0, .int a1, .int a2, .int a3, .int a4, .ref a5] [(0, .ref a0), (1, .int a1), (2, .int a2), (3, .int a3), (4, .int a4), (5, .ref a5)] (by decide) rfl (Nat.le_of_ble_eq_true rfl) rfl ?_
  intro p e s m args below meth c hx hb hr hlocks hC ht hI ls hl
  obtain ⟨hx, hb, hml, hown, hB⟩ := id hC
  have hn0 : s.heap.size = n := hI.1
  obtain ⟨H, hH⟩ : ∃ H, H = s.heap := ⟨_, rfl⟩
  obtain ⟨locs, hlocs⟩ : ∃ L : List Loc, L = [] := ⟨_, rfl⟩
  rw [← hH, ← hlocs] at hI ⊢
  clear hH hlocs
  unfold p_L_movePoint at hq
  refine lv_aload hx hb dL_movePoint_0 (lv_at hl 5 rfl) ?_
  refine lv_iconst (v := (0 : Int32)) hx hb dL_movePoint_2 (by decide) ?_
  refine lv_aload_n hx hb dL_movePoint_3 rfl (lv_at hl 0 rfl) ?_
  refine lv_iload_n hx hb dL_movePoint_4 rfl (lv_at hl 1 rfl) ?_
  refine lv_iload_n hx hb dL_movePoint_5 rfl (lv_at hl 2 rfl) ?_
  refine lv_iload_n hx hb dL_movePoint_6 rfl (lv_at hl 3 rfl) ?_
  refine lv_iload hx hb dL_movePoint_7 (lv_at hl 4 rfl) ?_
  split at hq
  · cases hq
  · rename_i z hz
    by_cases hz0 : z.1 = 0
    · obtain ⟨z, fz⟩ := z
      dsimp only at hz0
      subst hz0
      replace hq := i_t rfl hq
      refine gh_cW (name := "java/lang/IndexOutOfBoundsException") (g_runVX (As := [.int a1, .int a2, .int a3, .int a4]) (rest := [.int (0 : Int32), .ref a5]) (ci := 9) hC (c_X7_movePoint l hl0 V g D cT f n a0 a1 a2 a3 a4 (.inl (0, fz)) hz) k_X7_movePoint m_1119 rfl rfl ⟨Nat.le_of_ble_eq_true rfl, Nat.le_of_ble_eq_true rfl⟩ hI rfl rfl (h_me_eq hz).1 rfl hl.1 rfl (Nat.le_of_ble_eq_true rfl) dL_movePoint_9 ⟨by decide, by decide⟩) noy_i hI hown [] ⟨0, 14, 17, 19⟩ [⟨0, 14, 21, 13⟩] (by rw [ht]; rfl) (fun _ h => nomatch h) (by decide) (by decide) (hB _ m_745) (gh_ca hI (i := 4) (a := "java/lang/IndexOutOfBoundsException") (b := "java/lang/IndexOutOfBoundsException") rfl) (fun H locs q9 hI => ?_)
      refine lv_astore (lv' := [(6, .ref q9), (0, .ref a0), (1, .int a1), (2, .int a2), (3, .int a3), (4, .int a4), (5, .ref a5)]) hx hb dL_movePoint_17 hl (by decide) rfl (fun ls hl => ?_)
      refine lv_iconst (v := (1 : Int32)) hx hb dL_movePoint_19 (by decide) ?_
      refine W.widen (k := 1) (n := 6) (by decide) (by decide) ?_
      exact ge_Ni hx hb hlocks hr hn0 hI hq dL_movePoint_20
    · replace hq := i_f hz0 hq
      by_cases hz1 : z.1 = 1
      · obtain ⟨z, fz⟩ := z
        dsimp only at hz1
        subst hz1
        replace hq := i_t rfl hq
        refine gh_cW (name := "java/lang/IllegalArgumentException") (g_runVX (As := [.int a1, .int a2, .int a3, .int a4]) (rest := [.int (0 : Int32), .ref a5]) (ci := 9) hC (c_X7_movePoint l hl0 V g D cT f n a0 a1 a2 a3 a4 (.inl (1, fz)) hz) k_X7_movePoint m_1119 rfl rfl ⟨Nat.le_of_ble_eq_true rfl, Nat.le_of_ble_eq_true rfl⟩ hI rfl rfl (h_me_eq hz).1 rfl hl.1 rfl (Nat.le_of_ble_eq_true rfl) dL_movePoint_9 ⟨by decide, by decide⟩) noy_i hI hown [⟨0, 14, 17, 19⟩] ⟨0, 14, 21, 13⟩ [] (by rw [ht]; rfl) (fun y hy => by rw [List.mem_singleton.mp hy]; exact Or.inr ⟨by decide, "java/lang/IndexOutOfBoundsException", hB _ m_745, gh_nc hI (i := 2) (a := "java/lang/IllegalArgumentException") (b := "java/lang/IndexOutOfBoundsException") rfl⟩) (by decide) (by decide) (hB _ m_609) (gh_ca hI (i := 5) (a := "java/lang/IllegalArgumentException") (b := "java/lang/IllegalArgumentException") rfl) (fun H locs q9 hI => ?_)
        refine lv_astore (lv' := [(6, .ref q9), (0, .ref a0), (1, .int a1), (2, .int a2), (3, .int a3), (4, .int a4), (5, .ref a5)]) hx hb dL_movePoint_21 hl (by decide) rfl (fun ls hl => ?_)
        refine lv_iconst (v := (2 : Int32)) hx hb dL_movePoint_23 (by decide) ?_
        refine W.widen (k := 1) (n := 6) (by decide) (by decide) ?_
        exact ge_Ni hx hb hlocks hr hn0 hI hq dL_movePoint_24
      · replace hq := i_f hz1 hq
        cases hq
  · rename_i v hz
    obtain ⟨v, vf⟩ := v
    refine gy_i (g_runVX (As := [.int a1, .int a2, .int a3, .int a4]) (rest := [.int (0 : Int32), .ref a5]) (ci := 9) hC (c_X7_movePoint l hl0 V g D cT f n a0 a1 a2 a3 a4 (.inr (v, vf)) hz) k_X7_movePoint m_1119 rfl rfl ⟨Nat.le_of_ble_eq_true rfl, Nat.le_of_ble_eq_true rfl⟩ hI rfl rfl (h_me_eq hz).1 rfl hl.1 rfl (Nat.le_of_ble_eq_true rfl) dL_movePoint_9 ⟨by decide, by decide⟩) hI (fun H locs hI => ?_)
    refine lv_i2l hx hb dL_movePoint_12 rfl ?_
    obtain ⟨f1, ef1, hq⟩ := b_s hq
    refine fa_sl hx hb hI ef1 dL_movePoint_13 (fun H locs hI => ?_)
    refine lv_goto (tgt := 25) hx hb dL_movePoint_14 (by decide) ?_
    refine lv_iconst (v := (0 : Int32)) hx hb dL_movePoint_25 (by decide) ?_
    refine W.widen (k := 1) (n := 6) (by decide) (by decide) ?_
    exact ge_Ni hx hb hlocks hr hn0 hI hq dL_movePoint_26
abbrev rm_L_insertPoint : Room := { frames := 11, cells := 1, slots := 6, locals := 301 }
set_option maxHeartbeats 4000000 in
set_option maxRecDepth 100000 in
theorem c_L_insertPoint (l : Launch) (hl0 : l.stackTraces = false) (V : Nat → Nat) (g : GH) (D : va_G) (cT : Nat → ClassId) (f : GH) (n : Nat) (a0 : Nat) (a1 : Int32) (a2 : Int32) (a3 : Int32) (a4 : Int32) (a5 : Nat) (o : Int32 × GH) (hq : p_L_insertPoint V g f a0 a1 a2 a3 a4 a5 = some o) : Met l yL_insertPoint (Cond.codeWith yL_insertPoint cL_insertPoint 7 (some .int) [(0, 14, 17, 19), (0, 14, 21, 13), (0, 14, 25, 82)] :: g_B) rm_L_insertPoint (va_Pc [.ref a0, .int a1, .int a2, .int a3, .int a4, .ref a5] (g_I V g D cT f n)) (g_Wn V D cT o n) 1 6 (g_A V) := by
  refine gh_begin (own := RL) [.ref a0, .int a1, .int a2, .int a3, .int a4, .ref a5] [(0, .ref a0), (1, .int a1), (2, .int a2), (3, .int a3), (4, .int a4), (5, .ref a5)] (by decide) rfl (Nat.le_of_ble_eq_true rfl) rfl ?_
  intro p e s m args below meth c hx hb hr hlocks hC ht hI ls hl
  obtain ⟨hx, hb, hml, hown, hB⟩ := id hC
  have hn0 : s.heap.size = n := hI.1
  obtain ⟨H, hH⟩ : ∃ H, H = s.heap := ⟨_, rfl⟩
  obtain ⟨locs, hlocs⟩ : ∃ L : List Loc, L = [] := ⟨_, rfl⟩
  rw [← hH, ← hlocs] at hI ⊢
  clear hH hlocs
  unfold p_L_insertPoint at hq
  refine lv_aload hx hb dL_insertPoint_0 (lv_at hl 5 rfl) ?_
  refine lv_iconst (v := (0 : Int32)) hx hb dL_insertPoint_2 (by decide) ?_
  refine lv_aload_n hx hb dL_insertPoint_3 rfl (lv_at hl 0 rfl) ?_
  refine lv_iload_n hx hb dL_insertPoint_4 rfl (lv_at hl 1 rfl) ?_
  refine lv_iload_n hx hb dL_insertPoint_5 rfl (lv_at hl 2 rfl) ?_
  refine lv_iload_n hx hb dL_insertPoint_6 rfl (lv_at hl 3 rfl) ?_
  refine lv_iload hx hb dL_insertPoint_7 (lv_at hl 4 rfl) ?_
  split at hq
  · cases hq
  · rename_i z hz
    by_cases hz0 : z.1 = 0
    · obtain ⟨z, fz⟩ := z
      dsimp only at hz0
      subst hz0
      replace hq := i_t rfl hq
      refine gh_cW (name := "java/lang/IndexOutOfBoundsException") (g_runVX (As := [.int a1, .int a2, .int a3, .int a4]) (rest := [.int (0 : Int32), .ref a5]) (ci := 9) hC (c_X7_insertPoint l hl0 V g D cT f n a0 a1 a2 a3 a4 (.inl (0, fz)) hz) k_X7_insertPoint m_1128 rfl rfl ⟨Nat.le_of_ble_eq_true rfl, Nat.le_of_ble_eq_true rfl⟩ hI rfl rfl (h_me_eq hz).1 rfl hl.1 rfl (Nat.le_of_ble_eq_true rfl) dL_insertPoint_9 ⟨by decide, by decide⟩) noy_i hI hown [] ⟨0, 14, 17, 19⟩ [⟨0, 14, 21, 13⟩, ⟨0, 14, 25, 82⟩] (by rw [ht]; rfl) (fun _ h => nomatch h) (by decide) (by decide) (hB _ m_745) (gh_ca hI (i := 4) (a := "java/lang/IndexOutOfBoundsException") (b := "java/lang/IndexOutOfBoundsException") rfl) (fun H locs q9 hI => ?_)
      refine lv_astore (lv' := [(6, .ref q9), (0, .ref a0), (1, .int a1), (2, .int a2), (3, .int a3), (4, .int a4), (5, .ref a5)]) hx hb dL_insertPoint_17 hl (by decide) rfl (fun ls hl => ?_)
      refine lv_iconst (v := (1 : Int32)) hx hb dL_insertPoint_19 (by decide) ?_
      refine W.widen (k := 1) (n := 6) (by decide) (by decide) ?_
      exact ge_Ni hx hb hlocks hr hn0 hI hq dL_insertPoint_20
    · replace hq := i_f hz0 hq
      by_cases hz1 : z.1 = 1
      · obtain ⟨z, fz⟩ := z
        dsimp only at hz1
        subst hz1
        replace hq := i_t rfl hq
        refine gh_cW (name := "java/lang/IllegalArgumentException") (g_runVX (As := [.int a1, .int a2, .int a3, .int a4]) (rest := [.int (0 : Int32), .ref a5]) (ci := 9) hC (c_X7_insertPoint l hl0 V g D cT f n a0 a1 a2 a3 a4 (.inl (1, fz)) hz) k_X7_insertPoint m_1128 rfl rfl ⟨Nat.le_of_ble_eq_true rfl, Nat.le_of_ble_eq_true rfl⟩ hI rfl rfl (h_me_eq hz).1 rfl hl.1 rfl (Nat.le_of_ble_eq_true rfl) dL_insertPoint_9 ⟨by decide, by decide⟩) noy_i hI hown [⟨0, 14, 17, 19⟩] ⟨0, 14, 21, 13⟩ [⟨0, 14, 25, 82⟩] (by rw [ht]; rfl) (fun y hy => by rw [List.mem_singleton.mp hy]; exact Or.inr ⟨by decide, "java/lang/IndexOutOfBoundsException", hB _ m_745, gh_nc hI (i := 2) (a := "java/lang/IllegalArgumentException") (b := "java/lang/IndexOutOfBoundsException") rfl⟩) (by decide) (by decide) (hB _ m_609) (gh_ca hI (i := 5) (a := "java/lang/IllegalArgumentException") (b := "java/lang/IllegalArgumentException") rfl) (fun H locs q9 hI => ?_)
        refine lv_astore (lv' := [(6, .ref q9), (0, .ref a0), (1, .int a1), (2, .int a2), (3, .int a3), (4, .int a4), (5, .ref a5)]) hx hb dL_insertPoint_21 hl (by decide) rfl (fun ls hl => ?_)
        refine lv_iconst (v := (2 : Int32)) hx hb dL_insertPoint_23 (by decide) ?_
        refine W.widen (k := 1) (n := 6) (by decide) (by decide) ?_
        exact ge_Ni hx hb hlocks hr hn0 hI hq dL_insertPoint_24
      · replace hq := i_f hz1 hq
        by_cases hz2 : z.1 = 2
        · obtain ⟨z, fz⟩ := z
          dsimp only at hz2
          subst hz2
          replace hq := i_t rfl hq
          refine gh_cW (name := "java/lang/IllegalStateException") (g_runVX (As := [.int a1, .int a2, .int a3, .int a4]) (rest := [.int (0 : Int32), .ref a5]) (ci := 9) hC (c_X7_insertPoint l hl0 V g D cT f n a0 a1 a2 a3 a4 (.inl (2, fz)) hz) k_X7_insertPoint m_1128 rfl rfl ⟨Nat.le_of_ble_eq_true rfl, Nat.le_of_ble_eq_true rfl⟩ hI rfl rfl (h_me_eq hz).1 rfl hl.1 rfl (Nat.le_of_ble_eq_true rfl) dL_insertPoint_9 ⟨by decide, by decide⟩) noy_i hI hown [⟨0, 14, 17, 19⟩, ⟨0, 14, 21, 13⟩] ⟨0, 14, 25, 82⟩ [] (by rw [ht]; rfl) (fun y hy => by
            rcases List.mem_cons.mp hy with rfl | hy
            · exact Or.inr ⟨by decide, "java/lang/IndexOutOfBoundsException", hB _ m_745, gh_nc hI (i := 4) (a := "java/lang/IllegalStateException") (b := "java/lang/IndexOutOfBoundsException") rfl⟩
            · rw [List.mem_singleton.mp hy]; exact Or.inr ⟨by decide, "java/lang/IllegalArgumentException", hB _ m_609, gh_nc hI (i := 5) (a := "java/lang/IllegalStateException") (b := "java/lang/IllegalArgumentException") rfl⟩) (by decide) (by decide) (hB _ m_936) (gh_ca hI (i := 6) (a := "java/lang/IllegalStateException") (b := "java/lang/IllegalStateException") rfl) (fun H locs q9 hI => ?_)
          refine lv_astore (lv' := [(6, .ref q9), (0, .ref a0), (1, .int a1), (2, .int a2), (3, .int a3), (4, .int a4), (5, .ref a5)]) hx hb dL_insertPoint_25 hl (by decide) rfl (fun ls hl => ?_)
          refine lv_iconst (v := (3 : Int32)) hx hb dL_insertPoint_27 (by decide) ?_
          refine W.widen (k := 1) (n := 6) (by decide) (by decide) ?_
          exact ge_Ni hx hb hlocks hr hn0 hI hq dL_insertPoint_28
        · replace hq := i_f hz2 hq
          cases hq
  · rename_i v hz
    obtain ⟨v, vf⟩ := v
    refine gy_i (g_runVX (As := [.int a1, .int a2, .int a3, .int a4]) (rest := [.int (0 : Int32), .ref a5]) (ci := 9) hC (c_X7_insertPoint l hl0 V g D cT f n a0 a1 a2 a3 a4 (.inr (v, vf)) hz) k_X7_insertPoint m_1128 rfl rfl ⟨Nat.le_of_ble_eq_true rfl, Nat.le_of_ble_eq_true rfl⟩ hI rfl rfl (h_me_eq hz).1 rfl hl.1 rfl (Nat.le_of_ble_eq_true rfl) dL_insertPoint_9 ⟨by decide, by decide⟩) hI (fun H locs hI => ?_)
    refine lv_i2l hx hb dL_insertPoint_12 rfl ?_
    obtain ⟨f1, ef1, hq⟩ := b_s hq
    refine fa_sl hx hb hI ef1 dL_insertPoint_13 (fun H locs hI => ?_)
    refine lv_goto (tgt := 29) hx hb dL_insertPoint_14 (by decide) ?_
    refine lv_iconst (v := (0 : Int32)) hx hb dL_insertPoint_29 (by decide) ?_
    refine W.widen (k := 1) (n := 6) (by decide) (by decide) ?_
    exact ge_Ni hx hb hlocks hr hn0 hI hq dL_insertPoint_30
abbrev rm_L_removePoint : Room := { frames := 11, cells := 1, slots := 6, locals := 299 }
set_option maxHeartbeats 4000000 in
set_option maxRecDepth 100000 in
theorem c_L_removePoint (l : Launch) (hl0 : l.stackTraces = false) (V : Nat → Nat) (g : GH) (D : va_G) (cT : Nat → ClassId) (f : GH) (n : Nat) (a0 : Nat) (a1 : Int32) (a2 : Int32) (a3 : Nat) (o : Int32 × GH) (hq : p_L_removePoint V g f a0 a1 a2 a3 = some o) : Met l yL_removePoint (Cond.codeWith yL_removePoint cL_removePoint 5 (some .int) [(0, 10, 13, 19), (0, 10, 17, 82)] :: g_B) rm_L_removePoint (va_Pc [.ref a0, .int a1, .int a2, .ref a3] (g_I V g D cT f n)) (g_Wn V D cT o n) 1 6 (g_A V) := by
  refine gh_begin (own := RL) [.ref a0, .int a1, .int a2, .ref a3] [(0, .ref a0), (1, .int a1), (2, .int a2), (3, .ref a3)] (by decide) rfl (Nat.le_of_ble_eq_true rfl) rfl ?_
  intro p e s m args below meth c hx hb hr hlocks hC ht hI ls hl
  obtain ⟨hx, hb, hml, hown, hB⟩ := id hC
  have hn0 : s.heap.size = n := hI.1
  obtain ⟨H, hH⟩ : ∃ H, H = s.heap := ⟨_, rfl⟩
  obtain ⟨locs, hlocs⟩ : ∃ L : List Loc, L = [] := ⟨_, rfl⟩
  rw [← hH, ← hlocs] at hI ⊢
  clear hH hlocs
  unfold p_L_removePoint at hq
  refine lv_aload_n hx hb dL_removePoint_0 rfl (lv_at hl 3 rfl) ?_
  refine lv_iconst (v := (0 : Int32)) hx hb dL_removePoint_1 (by decide) ?_
  refine lv_aload_n hx hb dL_removePoint_2 rfl (lv_at hl 0 rfl) ?_
  refine lv_iload_n hx hb dL_removePoint_3 rfl (lv_at hl 1 rfl) ?_
  refine lv_iload_n hx hb dL_removePoint_4 rfl (lv_at hl 2 rfl) ?_
  split at hq
  · cases hq
  · rename_i z hz
    by_cases hz0 : z.1 = 0
    · obtain ⟨z, fz⟩ := z
      dsimp only at hz0
      subst hz0
      replace hq := i_t rfl hq
      refine gh_cW (name := "java/lang/IndexOutOfBoundsException") (g_runVX (As := [.int a1, .int a2]) (rest := [.int (0 : Int32), .ref a3]) (ci := 9) hC (c_X7_removePoint l hl0 V g D cT f n a0 a1 a2 (.inl (0, fz)) hz) k_X7_removePoint m_1136 rfl rfl ⟨Nat.le_of_ble_eq_true rfl, Nat.le_of_ble_eq_true rfl⟩ hI rfl rfl (h_me_eq hz).1 rfl hl.1 rfl (Nat.le_of_ble_eq_true rfl) dL_removePoint_5 ⟨by decide, by decide⟩) noy_i hI hown [] ⟨0, 10, 13, 19⟩ [⟨0, 10, 17, 82⟩] (by rw [ht]; rfl) (fun _ h => nomatch h) (by decide) (by decide) (hB _ m_745) (gh_ca hI (i := 4) (a := "java/lang/IndexOutOfBoundsException") (b := "java/lang/IndexOutOfBoundsException") rfl) (fun H locs q9 hI => ?_)
      refine lv_astore (lv' := [(4, .ref q9), (0, .ref a0), (1, .int a1), (2, .int a2), (3, .ref a3)]) hx hb dL_removePoint_13 hl (by decide) rfl (fun ls hl => ?_)
      refine lv_iconst (v := (1 : Int32)) hx hb dL_removePoint_15 (by decide) ?_
      refine W.widen (k := 1) (n := 6) (by decide) (by decide) ?_
      exact ge_Ni hx hb hlocks hr hn0 hI hq dL_removePoint_16
    · replace hq := i_f hz0 hq
      by_cases hz1 : z.1 = 2
      · obtain ⟨z, fz⟩ := z
        dsimp only at hz1
        subst hz1
        replace hq := i_t rfl hq
        refine gh_cW (name := "java/lang/IllegalStateException") (g_runVX (As := [.int a1, .int a2]) (rest := [.int (0 : Int32), .ref a3]) (ci := 9) hC (c_X7_removePoint l hl0 V g D cT f n a0 a1 a2 (.inl (2, fz)) hz) k_X7_removePoint m_1136 rfl rfl ⟨Nat.le_of_ble_eq_true rfl, Nat.le_of_ble_eq_true rfl⟩ hI rfl rfl (h_me_eq hz).1 rfl hl.1 rfl (Nat.le_of_ble_eq_true rfl) dL_removePoint_5 ⟨by decide, by decide⟩) noy_i hI hown [⟨0, 10, 13, 19⟩] ⟨0, 10, 17, 82⟩ [] (by rw [ht]; rfl) (fun y hy => by rw [List.mem_singleton.mp hy]; exact Or.inr ⟨by decide, "java/lang/IndexOutOfBoundsException", hB _ m_745, gh_nc hI (i := 4) (a := "java/lang/IllegalStateException") (b := "java/lang/IndexOutOfBoundsException") rfl⟩) (by decide) (by decide) (hB _ m_936) (gh_ca hI (i := 6) (a := "java/lang/IllegalStateException") (b := "java/lang/IllegalStateException") rfl) (fun H locs q9 hI => ?_)
        refine lv_astore (lv' := [(4, .ref q9), (0, .ref a0), (1, .int a1), (2, .int a2), (3, .ref a3)]) hx hb dL_removePoint_17 hl (by decide) rfl (fun ls hl => ?_)
        refine lv_iconst (v := (2 : Int32)) hx hb dL_removePoint_19 (by decide) ?_
        refine W.widen (k := 1) (n := 6) (by decide) (by decide) ?_
        exact ge_Ni hx hb hlocks hr hn0 hI hq dL_removePoint_20
      · replace hq := i_f hz1 hq
        cases hq
  · rename_i v hz
    obtain ⟨v, vf⟩ := v
    refine gy_i (g_runVX (As := [.int a1, .int a2]) (rest := [.int (0 : Int32), .ref a3]) (ci := 9) hC (c_X7_removePoint l hl0 V g D cT f n a0 a1 a2 (.inr (v, vf)) hz) k_X7_removePoint m_1136 rfl rfl ⟨Nat.le_of_ble_eq_true rfl, Nat.le_of_ble_eq_true rfl⟩ hI rfl rfl (h_me_eq hz).1 rfl hl.1 rfl (Nat.le_of_ble_eq_true rfl) dL_removePoint_5 ⟨by decide, by decide⟩) hI (fun H locs hI => ?_)
    refine lv_i2l hx hb dL_removePoint_8 rfl ?_
    obtain ⟨f1, ef1, hq⟩ := b_s hq
    refine fa_sl hx hb hI ef1 dL_removePoint_9 (fun H locs hI => ?_)
    refine lv_goto (tgt := 21) hx hb dL_removePoint_10 (by decide) ?_
    refine lv_iconst (v := (0 : Int32)) hx hb dL_removePoint_21 (by decide) ?_
    refine W.widen (k := 1) (n := 6) (by decide) (by decide) ?_
    exact ge_Ni hx hb hlocks hr hn0 hI hq dL_removePoint_22
abbrev rm_L_shift : Room := { frames := 11, cells := 1, slots := 6, locals := 300 }
set_option maxHeartbeats 4000000 in
set_option maxRecDepth 100000 in
theorem c_L_shift (l : Launch) (hl0 : l.stackTraces = false) (V : Nat → Nat) (g : GH) (D : va_G) (cT : Nat → ClassId) (f : GH) (n : Nat) (a0 : Nat) (a1 : Int32) (a2 : Int32) (a3 : Int32) (a4 : Nat) (o : Int32 × GH) (hq : p_L_shift V g f a0 a1 a2 a3 a4 = some o) : Met l yL_shift (Cond.codeWith yL_shift cL_shift 6 (some .int) [(0, 12, 15, 19), (0, 12, 19, 13), (0, 12, 23, 82)] :: g_B) rm_L_shift (va_Pc [.ref a0, .int a1, .int a2, .int a3, .ref a4] (g_I V g D cT f n)) (g_Wn V D cT o n) 1 6 (g_A V) := by
  refine gh_begin (own := RL) [.ref a0, .int a1, .int a2, .int a3, .ref a4] [(0, .ref a0), (1, .int a1), (2, .int a2), (3, .int a3), (4, .ref a4)] (by decide) rfl (Nat.le_of_ble_eq_true rfl) rfl ?_
  intro p e s m args below meth c hx hb hr hlocks hC ht hI ls hl
  obtain ⟨hx, hb, hml, hown, hB⟩ := id hC
  have hn0 : s.heap.size = n := hI.1
  obtain ⟨H, hH⟩ : ∃ H, H = s.heap := ⟨_, rfl⟩
  obtain ⟨locs, hlocs⟩ : ∃ L : List Loc, L = [] := ⟨_, rfl⟩
  rw [← hH, ← hlocs] at hI ⊢
  clear hH hlocs
  unfold p_L_shift at hq
  refine lv_aload hx hb dL_shift_0 (lv_at hl 4 rfl) ?_
  refine lv_iconst (v := (0 : Int32)) hx hb dL_shift_2 (by decide) ?_
  refine lv_aload_n hx hb dL_shift_3 rfl (lv_at hl 0 rfl) ?_
  refine lv_iload_n hx hb dL_shift_4 rfl (lv_at hl 1 rfl) ?_
  refine lv_iload_n hx hb dL_shift_5 rfl (lv_at hl 2 rfl) ?_
  refine lv_iload_n hx hb dL_shift_6 rfl (lv_at hl 3 rfl) ?_
  split at hq
  · cases hq
  · rename_i z hz
    by_cases hz0 : z.1 = 0
    · obtain ⟨z, fz⟩ := z
      dsimp only at hz0
      subst hz0
      replace hq := i_t rfl hq
      refine gh_cW (name := "java/lang/IndexOutOfBoundsException") (g_runVX (As := [.int a1, .int a2, .int a3]) (rest := [.int (0 : Int32), .ref a4]) (ci := 9) hC (c_X7_shift l hl0 V g D cT f n a0 a1 a2 a3 (.inl (0, fz)) hz) k_X7_shift m_1145 rfl rfl ⟨Nat.le_of_ble_eq_true rfl, Nat.le_of_ble_eq_true rfl⟩ hI rfl rfl (h_me_eq hz).1 rfl hl.1 rfl (Nat.le_of_ble_eq_true rfl) dL_shift_7 ⟨by decide, by decide⟩) noy_i hI hown [] ⟨0, 12, 15, 19⟩ [⟨0, 12, 19, 13⟩, ⟨0, 12, 23, 82⟩] (by rw [ht]; rfl) (fun _ h => nomatch h) (by decide) (by decide) (hB _ m_745) (gh_ca hI (i := 4) (a := "java/lang/IndexOutOfBoundsException") (b := "java/lang/IndexOutOfBoundsException") rfl) (fun H locs q9 hI => ?_)
      refine lv_astore (lv' := [(5, .ref q9), (0, .ref a0), (1, .int a1), (2, .int a2), (3, .int a3), (4, .ref a4)]) hx hb dL_shift_15 hl (by decide) rfl (fun ls hl => ?_)
      refine lv_iconst (v := (1 : Int32)) hx hb dL_shift_17 (by decide) ?_
      refine W.widen (k := 1) (n := 6) (by decide) (by decide) ?_
      exact ge_Ni hx hb hlocks hr hn0 hI hq dL_shift_18
    · replace hq := i_f hz0 hq
      by_cases hz1 : z.1 = 1
      · obtain ⟨z, fz⟩ := z
        dsimp only at hz1
        subst hz1
        replace hq := i_t rfl hq
        refine gh_cW (name := "java/lang/IllegalArgumentException") (g_runVX (As := [.int a1, .int a2, .int a3]) (rest := [.int (0 : Int32), .ref a4]) (ci := 9) hC (c_X7_shift l hl0 V g D cT f n a0 a1 a2 a3 (.inl (1, fz)) hz) k_X7_shift m_1145 rfl rfl ⟨Nat.le_of_ble_eq_true rfl, Nat.le_of_ble_eq_true rfl⟩ hI rfl rfl (h_me_eq hz).1 rfl hl.1 rfl (Nat.le_of_ble_eq_true rfl) dL_shift_7 ⟨by decide, by decide⟩) noy_i hI hown [⟨0, 12, 15, 19⟩] ⟨0, 12, 19, 13⟩ [⟨0, 12, 23, 82⟩] (by rw [ht]; rfl) (fun y hy => by rw [List.mem_singleton.mp hy]; exact Or.inr ⟨by decide, "java/lang/IndexOutOfBoundsException", hB _ m_745, gh_nc hI (i := 2) (a := "java/lang/IllegalArgumentException") (b := "java/lang/IndexOutOfBoundsException") rfl⟩) (by decide) (by decide) (hB _ m_609) (gh_ca hI (i := 5) (a := "java/lang/IllegalArgumentException") (b := "java/lang/IllegalArgumentException") rfl) (fun H locs q9 hI => ?_)
        refine lv_astore (lv' := [(5, .ref q9), (0, .ref a0), (1, .int a1), (2, .int a2), (3, .int a3), (4, .ref a4)]) hx hb dL_shift_19 hl (by decide) rfl (fun ls hl => ?_)
        refine lv_iconst (v := (2 : Int32)) hx hb dL_shift_21 (by decide) ?_
        refine W.widen (k := 1) (n := 6) (by decide) (by decide) ?_
        exact ge_Ni hx hb hlocks hr hn0 hI hq dL_shift_22
      · replace hq := i_f hz1 hq
        by_cases hz2 : z.1 = 2
        · obtain ⟨z, fz⟩ := z
          dsimp only at hz2
          subst hz2
          replace hq := i_t rfl hq
          refine gh_cW (name := "java/lang/IllegalStateException") (g_runVX (As := [.int a1, .int a2, .int a3]) (rest := [.int (0 : Int32), .ref a4]) (ci := 9) hC (c_X7_shift l hl0 V g D cT f n a0 a1 a2 a3 (.inl (2, fz)) hz) k_X7_shift m_1145 rfl rfl ⟨Nat.le_of_ble_eq_true rfl, Nat.le_of_ble_eq_true rfl⟩ hI rfl rfl (h_me_eq hz).1 rfl hl.1 rfl (Nat.le_of_ble_eq_true rfl) dL_shift_7 ⟨by decide, by decide⟩) noy_i hI hown [⟨0, 12, 15, 19⟩, ⟨0, 12, 19, 13⟩] ⟨0, 12, 23, 82⟩ [] (by rw [ht]; rfl) (fun y hy => by
            rcases List.mem_cons.mp hy with rfl | hy
            · exact Or.inr ⟨by decide, "java/lang/IndexOutOfBoundsException", hB _ m_745, gh_nc hI (i := 4) (a := "java/lang/IllegalStateException") (b := "java/lang/IndexOutOfBoundsException") rfl⟩
            · rw [List.mem_singleton.mp hy]; exact Or.inr ⟨by decide, "java/lang/IllegalArgumentException", hB _ m_609, gh_nc hI (i := 5) (a := "java/lang/IllegalStateException") (b := "java/lang/IllegalArgumentException") rfl⟩) (by decide) (by decide) (hB _ m_936) (gh_ca hI (i := 6) (a := "java/lang/IllegalStateException") (b := "java/lang/IllegalStateException") rfl) (fun H locs q9 hI => ?_)
          refine lv_astore (lv' := [(5, .ref q9), (0, .ref a0), (1, .int a1), (2, .int a2), (3, .int a3), (4, .ref a4)]) hx hb dL_shift_23 hl (by decide) rfl (fun ls hl => ?_)
          refine lv_iconst (v := (3 : Int32)) hx hb dL_shift_25 (by decide) ?_
          refine W.widen (k := 1) (n := 6) (by decide) (by decide) ?_
          exact ge_Ni hx hb hlocks hr hn0 hI hq dL_shift_26
        · replace hq := i_f hz2 hq
          cases hq
  · rename_i v hz
    obtain ⟨v, vf⟩ := v
    refine gy_i (g_runVX (As := [.int a1, .int a2, .int a3]) (rest := [.int (0 : Int32), .ref a4]) (ci := 9) hC (c_X7_shift l hl0 V g D cT f n a0 a1 a2 a3 (.inr (v, vf)) hz) k_X7_shift m_1145 rfl rfl ⟨Nat.le_of_ble_eq_true rfl, Nat.le_of_ble_eq_true rfl⟩ hI rfl rfl (h_me_eq hz).1 rfl hl.1 rfl (Nat.le_of_ble_eq_true rfl) dL_shift_7 ⟨by decide, by decide⟩) hI (fun H locs hI => ?_)
    refine lv_i2l hx hb dL_shift_10 rfl ?_
    obtain ⟨f1, ef1, hq⟩ := b_s hq
    refine fa_sl hx hb hI ef1 dL_shift_11 (fun H locs hI => ?_)
    refine lv_goto (tgt := 27) hx hb dL_shift_12 (by decide) ?_
    refine lv_iconst (v := (0 : Int32)) hx hb dL_shift_27 (by decide) ?_
    refine W.widen (k := 1) (n := 6) (by decide) (by decide) ?_
    exact ge_Ni hx hb hlocks hr hn0 hI hq dL_shift_28

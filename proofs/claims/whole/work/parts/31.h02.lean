abbrev rm_L_reverse : Room := { frames := 11, cells := 1, slots := 6, locals := 298 }
set_option maxHeartbeats 4000000 in
set_option maxRecDepth 100000 in
theorem c_L_reverse (l : Launch) (hl0 : l.stackTraces = false) (V : Nat → Nat) (g : GH) (D : va_G) (cT : Nat → ClassId) (f : GH) (n : Nat) (a0 : Nat) (a1 : Int32) (a2 : Nat) (o : Int32 × GH) (hq : p_L_reverse V g f a0 a1 a2 = some o) : Met l yL_reverse (Cond.codeWith yL_reverse cL_reverse 4 (some .int) [(0, 9, 12, 19)] :: g_B) rm_L_reverse (va_Pc [.ref a0, .int a1, .ref a2] (g_I V g D cT f n)) (g_Wn V D cT o n) 1 6 (g_A V) := by
  refine gh_begin (own := RL) [.ref a0, .int a1, .ref a2] [(0, .ref a0), (1, .int a1), (2, .ref a2)] (by decide) rfl (Nat.le_of_ble_eq_true rfl) rfl ?_
  intro p e s m args below meth c hx hb hr hlocks hC ht hI ls hl
  obtain ⟨hx, hb, hml, hown, hB⟩ := id hC
  have hn0 : s.heap.size = n := hI.1
  obtain ⟨H, hH⟩ : ∃ H, H = s.heap := ⟨_, rfl⟩
  obtain ⟨locs, hlocs⟩ : ∃ L : List Loc, L = [] := ⟨_, rfl⟩
  rw [← hH, ← hlocs] at hI ⊢
  clear hH hlocs
  unfold p_L_reverse at hq
  refine lv_aload_n hx hb dL_reverse_0 rfl (lv_at hl 2 rfl) ?_
  refine lv_iconst (v := (0 : Int32)) hx hb dL_reverse_1 (by decide) ?_
  refine lv_aload_n hx hb dL_reverse_2 rfl (lv_at hl 0 rfl) ?_
  refine lv_iload_n hx hb dL_reverse_3 rfl (lv_at hl 1 rfl) ?_
  split at hq
  · cases hq
  · rename_i z hz
    by_cases hz0 : z.1 = 0
    · obtain ⟨z, fz⟩ := z
      dsimp only at hz0
      subst hz0
      replace hq := i_t rfl hq
      refine gh_cW (name := "java/lang/IndexOutOfBoundsException") (g_runVX (As := [.int a1]) (rest := [.int (0 : Int32), .ref a2]) (ci := 9) hC (c_X7_reverse l hl0 V g D cT f n a0 a1 (.inl (0, fz)) hz) k_X7_reverse m_1154 rfl rfl ⟨Nat.le_of_ble_eq_true rfl, Nat.le_of_ble_eq_true rfl⟩ hI rfl rfl (h_me_eq hz).1 rfl hl.1 rfl (Nat.le_of_ble_eq_true rfl) dL_reverse_4 ⟨by decide, by decide⟩) noy_i hI hown [] ⟨0, 9, 12, 19⟩ [] (by rw [ht]; rfl) (fun _ h => nomatch h) (by decide) (by decide) (hB _ m_745) (gh_ca hI (i := 4) (a := "java/lang/IndexOutOfBoundsException") (b := "java/lang/IndexOutOfBoundsException") rfl) (fun H locs q9 hI => ?_)
      refine lv_astore_n (lv' := [(3, .ref q9), (0, .ref a0), (1, .int a1), (2, .ref a2)]) hx hb dL_reverse_12 rfl hl (by decide) rfl (fun ls hl => ?_)
      refine lv_iconst (v := (1 : Int32)) hx hb dL_reverse_13 (by decide) ?_
      refine W.widen (k := 1) (n := 6) (by decide) (by decide) ?_
      exact ge_Ni hx hb hlocks hr hn0 hI hq dL_reverse_14
    · replace hq := i_f hz0 hq
      cases hq
  · rename_i v hz
    obtain ⟨v, vf⟩ := v
    refine gy_i (g_runVX (As := [.int a1]) (rest := [.int (0 : Int32), .ref a2]) (ci := 9) hC (c_X7_reverse l hl0 V g D cT f n a0 a1 (.inr (v, vf)) hz) k_X7_reverse m_1154 rfl rfl ⟨Nat.le_of_ble_eq_true rfl, Nat.le_of_ble_eq_true rfl⟩ hI rfl rfl (h_me_eq hz).1 rfl hl.1 rfl (Nat.le_of_ble_eq_true rfl) dL_reverse_4 ⟨by decide, by decide⟩) hI (fun H locs hI => ?_)
    refine lv_i2l hx hb dL_reverse_7 rfl ?_
    obtain ⟨f1, ef1, hq⟩ := b_s hq
    refine fa_sl hx hb hI ef1 dL_reverse_8 (fun H locs hI => ?_)
    refine lv_goto (tgt := 15) hx hb dL_reverse_9 (by decide) ?_
    refine lv_iconst (v := (0 : Int32)) hx hb dL_reverse_15 (by decide) ?_
    refine W.widen (k := 1) (n := 6) (by decide) (by decide) ?_
    exact ge_Ni hx hb hlocks hr hn0 hI hq dL_reverse_16
abbrev rm_L_runScript : Room := { frames := 12, cells := 1, slots := 6, locals := 340 }
set_option maxHeartbeats 4000000 in
set_option maxRecDepth 100000 in
theorem c_L_runScript (l : Launch) (hl0 : l.stackTraces = false) (V : Nat → Nat) (g : GH) (D : va_G) (cT : Nat → ClassId) (f : GH) (n : Nat) (a0 : Nat) (a1 : Int32) (a2 : Nat) (o : Int32 × GH) (hq : p_L_runScript V g f a0 a1 a2 = some o) : Met l yL_runScript (Cond.codeWith yL_runScript cL_runScript 4 (some .int) [(0, 9, 12, 13)] :: g_B) rm_L_runScript (va_Pc [.ref a0, .int a1, .ref a2] (g_I V g D cT f n)) (g_Wn V D cT o n) 1 6 (g_A V) := by
  refine gh_begin (own := RL) [.ref a0, .int a1, .ref a2] [(0, .ref a0), (1, .int a1), (2, .ref a2)] (by decide) rfl (Nat.le_of_ble_eq_true rfl) rfl ?_
  intro p e s m args below meth c hx hb hr hlocks hC ht hI ls hl
  obtain ⟨hx, hb, hml, hown, hB⟩ := id hC
  have hn0 : s.heap.size = n := hI.1
  obtain ⟨H, hH⟩ : ∃ H, H = s.heap := ⟨_, rfl⟩
  obtain ⟨locs, hlocs⟩ : ∃ L : List Loc, L = [] := ⟨_, rfl⟩
  rw [← hH, ← hlocs] at hI ⊢
  clear hH hlocs
  unfold p_L_runScript at hq
  refine lv_aload_n hx hb dL_runScript_0 rfl (lv_at hl 2 rfl) ?_
  refine lv_iconst (v := (0 : Int32)) hx hb dL_runScript_1 (by decide) ?_
  refine lv_aload_n hx hb dL_runScript_2 rfl (lv_at hl 0 rfl) ?_
  refine lv_iload_n hx hb dL_runScript_3 rfl (lv_at hl 1 rfl) ?_
  split at hq
  · cases hq
  · rename_i z hz
    by_cases hz0 : z.1 = 1
    · obtain ⟨z, fz⟩ := z
      dsimp only at hz0
      subst hz0
      replace hq := i_t rfl hq
      refine gh_cW (name := "java/lang/IllegalArgumentException") (g_runVX (As := [.int a1]) (rest := [.int (0 : Int32), .ref a2]) (ci := 9) hC (c_X7_runScript l hl0 V g D cT f n a0 a1 (.inl (1, fz)) hz) k_X7_runScript m_1163 rfl rfl ⟨Nat.le_of_ble_eq_true rfl, Nat.le_of_ble_eq_true rfl⟩ hI rfl rfl (h_me_eq hz).1 rfl hl.1 rfl (Nat.le_of_ble_eq_true rfl) dL_runScript_4 ⟨by decide, by decide⟩) noy_i hI hown [] ⟨0, 9, 12, 13⟩ [] (by rw [ht]; rfl) (fun _ h => nomatch h) (by decide) (by decide) (hB _ m_609) (gh_ca hI (i := 5) (a := "java/lang/IllegalArgumentException") (b := "java/lang/IllegalArgumentException") rfl) (fun H locs q9 hI => ?_)
      refine lv_astore_n (lv' := [(3, .ref q9), (0, .ref a0), (1, .int a1), (2, .ref a2)]) hx hb dL_runScript_12 rfl hl (by decide) rfl (fun ls hl => ?_)
      refine lv_iconst (v := (1 : Int32)) hx hb dL_runScript_13 (by decide) ?_
      refine W.widen (k := 1) (n := 6) (by decide) (by decide) ?_
      exact ge_Ni hx hb hlocks hr hn0 hI hq dL_runScript_14
    · replace hq := i_f hz0 hq
      cases hq
  · rename_i v hz
    obtain ⟨v, vf⟩ := v
    refine gy_i (g_runVX (As := [.int a1]) (rest := [.int (0 : Int32), .ref a2]) (ci := 9) hC (c_X7_runScript l hl0 V g D cT f n a0 a1 (.inr (v, vf)) hz) k_X7_runScript m_1163 rfl rfl ⟨Nat.le_of_ble_eq_true rfl, Nat.le_of_ble_eq_true rfl⟩ hI rfl rfl (h_me_eq hz).1 rfl hl.1 rfl (Nat.le_of_ble_eq_true rfl) dL_runScript_4 ⟨by decide, by decide⟩) hI (fun H locs hI => ?_)
    refine lv_i2l hx hb dL_runScript_7 rfl ?_
    obtain ⟨f1, ef1, hq⟩ := b_s hq
    refine fa_sl hx hb hI ef1 dL_runScript_8 (fun H locs hI => ?_)
    refine lv_goto (tgt := 15) hx hb dL_runScript_9 (by decide) ?_
    refine lv_iconst (v := (0 : Int32)) hx hb dL_runScript_15 (by decide) ?_
    refine W.widen (k := 1) (n := 6) (by decide) (by decide) ?_
    exact ge_Ni hx hb hlocks hr hn0 hI hq dL_runScript_16
abbrev rm_L_writeLengths : Room := { frames := 10, cells := 17, slots := 3206, locals := 279 }
set_option maxHeartbeats 4000000 in
set_option maxRecDepth 100000 in
theorem c_L_writeLengths (l : Launch) (hl0 : l.stackTraces = false) (V : Nat → Nat) (g : GH) (D : va_G) (cT : Nat → ClassId) (f : GH) (n : Nat) (a0 : Nat) (a1 : Int32) (a2 : Nat) (o : Int32 × GH) (hq : p_L_writeLengths V g f n a0 a1 a2 = some o) : Met l yL_writeLengths (Cond.codeWith yL_writeLengths cL_writeLengths 4 (some .int) [(0, 9, 12, 19)] :: g_B) rm_L_writeLengths (va_Pc [.ref a0, .int a1, .ref a2] (g_I V g D cT f n)) (g_Wn V D cT o n) 17 3206 (g_A V) := by
  refine gh_begin (own := RL) [.ref a0, .int a1, .ref a2] [(0, .ref a0), (1, .int a1), (2, .ref a2)] (by decide) rfl (Nat.le_of_ble_eq_true rfl) rfl ?_
  intro p e s m args below meth c hx hb hr hlocks hC ht hI ls hl
  obtain ⟨hx, hb, hml, hown, hB⟩ := id hC
  have hn0 : s.heap.size = n := hI.1
  obtain ⟨H, hH⟩ : ∃ H, H = s.heap := ⟨_, rfl⟩
  obtain ⟨locs, hlocs⟩ : ∃ L : List Loc, L = [] := ⟨_, rfl⟩
  rw [← hH, ← hlocs] at hI ⊢
  clear hH hlocs
  unfold p_L_writeLengths at hq
  refine lv_aload_n hx hb dL_writeLengths_0 rfl (lv_at hl 2 rfl) ?_
  refine lv_iconst (v := (0 : Int32)) hx hb dL_writeLengths_1 (by decide) ?_
  refine lv_aload_n hx hb dL_writeLengths_2 rfl (lv_at hl 0 rfl) ?_
  refine lv_iload_n hx hb dL_writeLengths_3 rfl (lv_at hl 1 rfl) ?_
  split at hq
  · cases hq
  · rename_i z hz
    by_cases hz0 : z.1 = 0
    · obtain ⟨z, fz⟩ := z
      dsimp only at hz0
      subst hz0
      replace hq := i_t rfl hq
      refine gh_cW (name := "java/lang/IndexOutOfBoundsException") (g_runVX (As := [.int a1]) (rest := [.int (0 : Int32), .ref a2]) (ci := 9) hC (c_X7_writeLengths l hl0 V g D cT f n a0 a1 (.inl (0, fz)) hz) k_X7_writeLengths m_1184 rfl rfl ⟨Nat.le_of_ble_eq_true rfl, Nat.le_of_ble_eq_true rfl⟩ hI rfl rfl (h_me_eq hz).1 rfl hl.1 rfl (Nat.le_of_ble_eq_true rfl) dL_writeLengths_4 ⟨by decide, by decide⟩) noz_i hI hown [] ⟨0, 9, 12, 19⟩ [] (by rw [ht]; rfl) (fun _ h => nomatch h) (by decide) (by decide) (hB _ m_745) (gh_ca hI (i := 4) (a := "java/lang/IndexOutOfBoundsException") (b := "java/lang/IndexOutOfBoundsException") rfl) (fun H locs q9 hI => ?_)
      refine lv_astore_n (lv' := [(3, .ref q9), (0, .ref a0), (1, .int a1), (2, .ref a2)]) hx hb dL_writeLengths_12 rfl hl (by decide) rfl (fun ls hl => ?_)
      refine lv_iconst (v := (1 : Int32)) hx hb dL_writeLengths_13 (by decide) ?_
      refine W.widen (k := 17) (n := 3206) (by decide) (by decide) ?_
      exact ge_Ni hx hb hlocks hr hn0 hI hq dL_writeLengths_14
    · replace hq := i_f hz0 hq
      cases hq
  · rename_i v hz
    obtain ⟨v, vf, vn⟩ := v
    refine gz_i (g_runVX (As := [.int a1]) (rest := [.int (0 : Int32), .ref a2]) (ci := 9) hC (c_X7_writeLengths l hl0 V g D cT f n a0 a1 (.inr (v, vf, vn)) hz) k_X7_writeLengths m_1184 rfl rfl ⟨Nat.le_of_ble_eq_true rfl, Nat.le_of_ble_eq_true rfl⟩ hI rfl rfl (h_me_eq hz).1 rfl hl.1 rfl (Nat.le_of_ble_eq_true rfl) dL_writeLengths_4 ⟨by decide, by decide⟩) hI (fun H locs hI => ?_)
    refine lv_i2l hx hb dL_writeLengths_7 rfl ?_
    obtain ⟨f1, ef1, hq⟩ := b_s hq
    refine fa_sl hx hb hI ef1 dL_writeLengths_8 (fun H locs hI => ?_)
    refine lv_goto (tgt := 15) hx hb dL_writeLengths_9 (by decide) ?_
    refine lv_iconst (v := (0 : Int32)) hx hb dL_writeLengths_15 (by decide) ?_
    refine W.widen (k := 17) (n := 3206) (by decide) (by decide) ?_
    exact ge_Ni hx hb hlocks hr hn0 hI hq dL_writeLengths_16
abbrev rm_L_outputByte : Room := { frames := 9, cells := 1, slots := 6, locals := 229 }
set_option maxHeartbeats 4000000 in
set_option maxRecDepth 100000 in
theorem c_L_outputByte (l : Launch) (hl0 : l.stackTraces = false) (V : Nat → Nat) (g : GH) (D : va_G) (cT : Nat → ClassId) (f : GH) (n : Nat) (a0 : Nat) (a1 : Int32) (a2 : Nat) (o : Int32 × GH) (hq : p_L_outputByte V g f a0 a1 a2 = some o) : Met l yL_outputByte (Cond.codeWith yL_outputByte cL_outputByte 4 (some .int) [(0, 9, 12, 19)] :: g_B) rm_L_outputByte (va_Pc [.ref a0, .int a1, .ref a2] (g_I V g D cT f n)) (g_Wn V D cT o n) 1 6 (g_A V) := by
  refine gh_begin (own := RL) [.ref a0, .int a1, .ref a2] [(0, .ref a0), (1, .int a1), (2, .ref a2)] (by decide) rfl (Nat.le_of_ble_eq_true rfl) rfl ?_
  intro p e s m args below meth c hx hb hr hlocks hC ht hI ls hl
  obtain ⟨hx, hb, hml, hown, hB⟩ := id hC
  have hn0 : s.heap.size = n := hI.1
  obtain ⟨H, hH⟩ : ∃ H, H = s.heap := ⟨_, rfl⟩
  obtain ⟨locs, hlocs⟩ : ∃ L : List Loc, L = [] := ⟨_, rfl⟩
  rw [← hH, ← hlocs] at hI ⊢
  clear hH hlocs
  unfold p_L_outputByte at hq
  refine lv_aload_n hx hb dL_outputByte_0 rfl (lv_at hl 2 rfl) ?_
  refine lv_iconst (v := (0 : Int32)) hx hb dL_outputByte_1 (by decide) ?_
  refine lv_aload_n hx hb dL_outputByte_2 rfl (lv_at hl 0 rfl) ?_
  refine lv_iload_n hx hb dL_outputByte_3 rfl (lv_at hl 1 rfl) ?_
  split at hq
  · cases hq
  · rename_i z hz
    by_cases hz0 : z = 0
    · subst hz0
      replace hq := i_t rfl hq
      refine gh_cR (name := "java/lang/IndexOutOfBoundsException") (g_runVX (As := [.int a1]) (rest := [.int (0 : Int32), .ref a2]) (ci := 9) hC (c_X7_outputByte l hl0 V g D cT f n a0 a1 (.inl 0) hz) k_X7_outputByte m_1453 rfl rfl ⟨Nat.le_of_ble_eq_true rfl, Nat.le_of_ble_eq_true rfl⟩ hI rfl rfl (h_me_eq hz).1 rfl hl.1 rfl (Nat.le_of_ble_eq_true rfl) dL_outputByte_4 ⟨by decide, by decide⟩) no_i hI hown [] ⟨0, 9, 12, 19⟩ [] (by rw [ht]; rfl) (fun _ h => nomatch h) (by decide) (by decide) (hB _ m_745) (gh_ca hI (i := 4) (a := "java/lang/IndexOutOfBoundsException") (b := "java/lang/IndexOutOfBoundsException") rfl) (fun H locs q9 hI => ?_)
      refine lv_astore_n (lv' := [(3, .ref q9), (0, .ref a0), (1, .int a1), (2, .ref a2)]) hx hb dL_outputByte_12 rfl hl (by decide) rfl (fun ls hl => ?_)
      refine lv_iconst (v := (1 : Int32)) hx hb dL_outputByte_13 (by decide) ?_
      refine W.widen (k := 1) (n := 6) (by decide) (by decide) ?_
      exact ge_Ni hx hb hlocks hr hn0 hI hq dL_outputByte_14
    · replace hq := i_f hz0 hq
      cases hq
  · rename_i v hz
    refine gx_i (g_runVX (As := [.int a1]) (rest := [.int (0 : Int32), .ref a2]) (ci := 9) hC (c_X7_outputByte l hl0 V g D cT f n a0 a1 (.inr v) hz) k_X7_outputByte m_1453 rfl rfl ⟨Nat.le_of_ble_eq_true rfl, Nat.le_of_ble_eq_true rfl⟩ hI rfl rfl (h_me_eq hz).1 rfl hl.1 rfl (Nat.le_of_ble_eq_true rfl) dL_outputByte_4 ⟨by decide, by decide⟩) hI (fun H locs hI => ?_)
    refine lv_i2l hx hb dL_outputByte_7 rfl ?_
    obtain ⟨f1, ef1, hq⟩ := b_s hq
    refine fa_sl hx hb hI ef1 dL_outputByte_8 (fun H locs hI => ?_)
    refine lv_goto (tgt := 15) hx hb dL_outputByte_9 (by decide) ?_
    refine lv_iconst (v := (0 : Int32)) hx hb dL_outputByte_15 (by decide) ?_
    refine W.widen (k := 1) (n := 6) (by decide) (by decide) ?_
    exact ge_Ni hx hb hlocks hr hn0 hI hq dL_outputByte_16
abbrev rm_L_undo : Room := { frames := 9, cells := 1, slots := 6, locals := 183 }
set_option maxHeartbeats 4000000 in
set_option maxRecDepth 100000 in
theorem c_L_undo (l : Launch) (hl0 : l.stackTraces = false) (V : Nat → Nat) (g : GH) (D : va_G) (cT : Nat → ClassId) (f : GH) (n : Nat) (a0 : Nat) (a1 : Nat) (o : Int32 × GH) (hq : p_L_undo V g f a0 a1 = some o) : Met l yL_undo (Cond.codeWith yL_undo cL_undo 3 (some .int) [(0, 8, 11, 82)] :: g_B) rm_L_undo (va_Pc [.ref a0, .ref a1] (g_I V g D cT f n)) (g_Wn V D cT o n) 1 6 (g_A V) := by
  refine gh_begin (own := RL) [.ref a0, .ref a1] [(0, .ref a0), (1, .ref a1)] (by decide) rfl (Nat.le_of_ble_eq_true rfl) rfl ?_
  intro p e s m args below meth c hx hb hr hlocks hC ht hI ls hl
  obtain ⟨hx, hb, hml, hown, hB⟩ := id hC
  have hn0 : s.heap.size = n := hI.1
  obtain ⟨H, hH⟩ : ∃ H, H = s.heap := ⟨_, rfl⟩
  obtain ⟨locs, hlocs⟩ : ∃ L : List Loc, L = [] := ⟨_, rfl⟩
  rw [← hH, ← hlocs] at hI ⊢
  clear hH hlocs
  unfold p_L_undo at hq
  refine lv_aload_n hx hb dL_undo_0 rfl (lv_at hl 1 rfl) ?_
  refine lv_iconst (v := (0 : Int32)) hx hb dL_undo_1 (by decide) ?_
  refine lv_aload_n hx hb dL_undo_2 rfl (lv_at hl 0 rfl) ?_
  split at hq
  · cases hq
  · rename_i z hz
    by_cases hz0 : z.1 = 2
    · obtain ⟨z, fz⟩ := z
      dsimp only at hz0
      subst hz0
      replace hq := i_t rfl hq
      refine gh_cW (name := "java/lang/IllegalStateException") (g_runVX (As := []) (rest := [.int (0 : Int32), .ref a1]) (ci := 9) hC (c_X7_undo l hl0 V g D cT f n a0 (.inl (2, fz)) hz) k_X7_undo m_1471 rfl rfl ⟨Nat.le_of_ble_eq_true rfl, Nat.le_of_ble_eq_true rfl⟩ hI rfl rfl (h_me_eq hz).1 rfl hl.1 rfl (Nat.le_of_ble_eq_true rfl) dL_undo_3 ⟨by decide, by decide⟩) noy_i hI hown [] ⟨0, 8, 11, 82⟩ [] (by rw [ht]; rfl) (fun _ h => nomatch h) (by decide) (by decide) (hB _ m_936) (gh_ca hI (i := 6) (a := "java/lang/IllegalStateException") (b := "java/lang/IllegalStateException") rfl) (fun H locs q9 hI => ?_)
      refine lv_astore_n (lv' := [(2, .ref q9), (0, .ref a0), (1, .ref a1)]) hx hb dL_undo_11 rfl hl (by decide) rfl (fun ls hl => ?_)
      refine lv_iconst (v := (1 : Int32)) hx hb dL_undo_12 (by decide) ?_
      refine W.widen (k := 1) (n := 6) (by decide) (by decide) ?_
      exact ge_Ni hx hb hlocks hr hn0 hI hq dL_undo_13
    · replace hq := i_f hz0 hq
      cases hq
  · rename_i v hz
    obtain ⟨v, vf⟩ := v
    refine gy_i (g_runVX (As := []) (rest := [.int (0 : Int32), .ref a1]) (ci := 9) hC (c_X7_undo l hl0 V g D cT f n a0 (.inr (v, vf)) hz) k_X7_undo m_1471 rfl rfl ⟨Nat.le_of_ble_eq_true rfl, Nat.le_of_ble_eq_true rfl⟩ hI rfl rfl (h_me_eq hz).1 rfl hl.1 rfl (Nat.le_of_ble_eq_true rfl) dL_undo_3 ⟨by decide, by decide⟩) hI (fun H locs hI => ?_)
    refine lv_i2l hx hb dL_undo_6 rfl ?_
    obtain ⟨f1, ef1, hq⟩ := b_s hq
    refine fa_sl hx hb hI ef1 dL_undo_7 (fun H locs hI => ?_)
    refine lv_goto (tgt := 14) hx hb dL_undo_8 (by decide) ?_
    refine lv_iconst (v := (0 : Int32)) hx hb dL_undo_14 (by decide) ?_
    refine W.widen (k := 1) (n := 6) (by decide) (by decide) ?_
    exact ge_Ni hx hb hlocks hr hn0 hI hq dL_undo_15
abbrev rm_L_restoreSnapshot : Room := { frames := 9, cells := 1, slots := 6, locals := 183 }
set_option maxHeartbeats 4000000 in
set_option maxRecDepth 100000 in
theorem c_L_restoreSnapshot (l : Launch) (hl0 : l.stackTraces = false) (V : Nat → Nat) (g : GH) (D : va_G) (cT : Nat → ClassId) (f : GH) (n : Nat) (a0 : Nat) (a1 : Nat) (o : Int32 × GH) (hq : p_L_restoreSnapshot V g f a0 a1 = some o) : Met l yL_restoreSnapshot (Cond.codeWith yL_restoreSnapshot cL_restoreSnapshot 3 (some .int) [(0, 8, 11, 82)] :: g_B) rm_L_restoreSnapshot (va_Pc [.ref a0, .ref a1] (g_I V g D cT f n)) (g_Wn V D cT o n) 1 6 (g_A V) := by
  refine gh_begin (own := RL) [.ref a0, .ref a1] [(0, .ref a0), (1, .ref a1)] (by decide) rfl (Nat.le_of_ble_eq_true rfl) rfl ?_
  intro p e s m args below meth c hx hb hr hlocks hC ht hI ls hl
  obtain ⟨hx, hb, hml, hown, hB⟩ := id hC
  have hn0 : s.heap.size = n := hI.1
  obtain ⟨H, hH⟩ : ∃ H, H = s.heap := ⟨_, rfl⟩
  obtain ⟨locs, hlocs⟩ : ∃ L : List Loc, L = [] := ⟨_, rfl⟩
  rw [← hH, ← hlocs] at hI ⊢
  clear hH hlocs
  unfold p_L_restoreSnapshot at hq
  refine lv_aload_n hx hb dL_restoreSnapshot_0 rfl (lv_at hl 1 rfl) ?_
  refine lv_iconst (v := (0 : Int32)) hx hb dL_restoreSnapshot_1 (by decide) ?_
  refine lv_aload_n hx hb dL_restoreSnapshot_2 rfl (lv_at hl 0 rfl) ?_
  split at hq
  · cases hq
  · rename_i z hz
    by_cases hz0 : z.1 = 2
    · obtain ⟨z, fz⟩ := z
      dsimp only at hz0
      subst hz0
      replace hq := i_t rfl hq
      refine gh_cW (name := "java/lang/IllegalStateException") (g_runVX (As := []) (rest := [.int (0 : Int32), .ref a1]) (ci := 9) hC (c_X7_restoreSnapshot l hl0 V g D cT f n a0 (.inl (2, fz)) hz) k_X7_restoreSnapshot m_1479 rfl rfl ⟨Nat.le_of_ble_eq_true rfl, Nat.le_of_ble_eq_true rfl⟩ hI rfl rfl (h_me_eq hz).1 rfl hl.1 rfl (Nat.le_of_ble_eq_true rfl) dL_restoreSnapshot_3 ⟨by decide, by decide⟩) noy_i hI hown [] ⟨0, 8, 11, 82⟩ [] (by rw [ht]; rfl) (fun _ h => nomatch h) (by decide) (by decide) (hB _ m_936) (gh_ca hI (i := 6) (a := "java/lang/IllegalStateException") (b := "java/lang/IllegalStateException") rfl) (fun H locs q9 hI => ?_)
      refine lv_astore_n (lv' := [(2, .ref q9), (0, .ref a0), (1, .ref a1)]) hx hb dL_restoreSnapshot_11 rfl hl (by decide) rfl (fun ls hl => ?_)
      refine lv_iconst (v := (1 : Int32)) hx hb dL_restoreSnapshot_12 (by decide) ?_
      refine W.widen (k := 1) (n := 6) (by decide) (by decide) ?_
      exact ge_Ni hx hb hlocks hr hn0 hI hq dL_restoreSnapshot_13
    · replace hq := i_f hz0 hq
      cases hq
  · rename_i v hz
    obtain ⟨v, vf⟩ := v
    refine gy_i (g_runVX (As := []) (rest := [.int (0 : Int32), .ref a1]) (ci := 9) hC (c_X7_restoreSnapshot l hl0 V g D cT f n a0 (.inr (v, vf)) hz) k_X7_restoreSnapshot m_1479 rfl rfl ⟨Nat.le_of_ble_eq_true rfl, Nat.le_of_ble_eq_true rfl⟩ hI rfl rfl (h_me_eq hz).1 rfl hl.1 rfl (Nat.le_of_ble_eq_true rfl) dL_restoreSnapshot_3 ⟨by decide, by decide⟩) hI (fun H locs hI => ?_)
    refine lv_i2l hx hb dL_restoreSnapshot_6 rfl ?_
    obtain ⟨f1, ef1, hq⟩ := b_s hq
    refine fa_sl hx hb hI ef1 dL_restoreSnapshot_7 (fun H locs hI => ?_)
    refine lv_goto (tgt := 14) hx hb dL_restoreSnapshot_8 (by decide) ?_
    refine lv_iconst (v := (0 : Int32)) hx hb dL_restoreSnapshot_14 (by decide) ?_
    refine W.widen (k := 1) (n := 6) (by decide) (by decide) ?_
    exact ge_Ni hx hb hlocks hr hn0 hI hq dL_restoreSnapshot_15

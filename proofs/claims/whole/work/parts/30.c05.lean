abbrev rm_X5_init : Room := { frames := 2, cells := 1, slots := 700, locals := 120 }
theorem k_X5_init : g_CI yX5_init cX5_init 1 0 := ⟨⟨m_108, m_4, by decide +kernel⟩, rfl, m_107⟩
set_option maxHeartbeats 4000000 in
set_option maxRecDepth 100000 in
theorem c_X5_init (l : Launch) (V : Nat → Nat) (g : GH) (D : va_G) (cT : Nat → ClassId) (f : GH) (n : Nat) (a0 : Nat) (o : GH × Nat) (hq : p_X5_init V g f n a0 = some o) : Met l yX5_init (Cond.code yX5_init cX5_init 1 none :: g_B) rm_X5_init (va_Pc [.ref a0] (g_I V g D cT f n)) (g_Wv V D cT o.1 o.2) 1 700 (g_A V) := by
  refine g_begin (own := RX5) [.ref a0] [(0, .ref a0)] (g_A V) (fun _ h => h) (by decide) rfl (Nat.le_of_ble_eq_true rfl) rfl ?_
  intro p e s m args below meth c hx hb hr hlocks hin hC hI ls hl
  obtain ⟨hx, hb, hml, hown, hB⟩ := id hC
  obtain ⟨H, hH⟩ : ∃ H, H = s.heap := ⟨_, rfl⟩
  obtain ⟨locs, hlocs⟩ : ∃ L : List Loc, L = [] := ⟨_, rfl⟩
  rw [← hH, ← hlocs] at hI ⊢
  clear hH hlocs
  unfold p_X5_init at hq
  replace hq := (h_me_eq hq).2
  refine lv_aload_n hx hb dX5_init_0 rfl (lv_at hl 0 rfl) ?_
  refine W.objInit hx hb hown (hB _ m_109) (hB _ m_36) (hB _ m_37) rfl (by rw [hml]; exact hl.1) rfl dX5_init_1 (Nat.le_of_ble_eq_true rfl) (Nat.le_of_ble_eq_true rfl) ?_
  refine W.eq (g2 := F0 m 4 ls []) rfl ?_
  refine lv_aload_n hx hb dX5_init_4 rfl (lv_at hl 0 rfl) ?_
  refine lv_sipush (v := (700 : Int32)) hx hb dX5_init_5 (by decide) ?_
  obtain ⟨f1, ef1, hq⟩ := b_s hq
  refine fa_newa (atype := .byte) (N := 700) (t := 1) hx hb hB m_132 rfl (by decide) hI (fun _ => rfl) (by decide) (by decide +kernel) (by decide +kernel) (by decide) (by decide) ef1 dX5_init_8 (fun H locs hI => ?_)
  obtain ⟨f2, ef2, hq⟩ := b_s hq
  refine fa_ptF (own := RX5) (ref := "CoastlineRuler$Tokens") (k := 0) hx hb hB inB_RX5 tyX5_ok nmX5 hown hI rfl (by decide) m_110 (fun _ h9 => h9) (by decide) hin (by decide) rfl rfl ef2 dX5_init_10 (fun H locs hI => ?_)
  obtain rfl := Option.some.inj hq
  exact ge_Wv hx hb hlocks hr hI rfl dX5_init_13

abbrev rm_X5_append : Room := { frames := 2, cells := 0, slots := 0, locals := 120 }
theorem k_X5_append : g_CV yX5_append cX5_append 3 none 1 := ⟨⟨m_312, m_4, by decide +kernel⟩, m_310, m_311⟩
set_option maxHeartbeats 4000000 in
set_option maxRecDepth 100000 in
theorem c_X5_append (l : Launch) (V : Nat → Nat) (g : GH) (D : va_G) (cT : Nat → ClassId) (f : GH) (n : Nat) (a0 : Nat) (a1 : Int32) (o : GH) (hq : p_X5_append V g f a0 a1 = some o) : Met l yX5_append (Cond.code yX5_append cX5_append 3 none :: g_B) rm_X5_append (va_Pc [.ref a0, .int a1] (g_I V g D cT f n)) (g_Wv V D cT o n) 0 0 (g_A V) := by
  refine g_begin (own := RX5) [.ref a0, .int a1] [(0, .ref a0), (1, .int a1)] (g_A V) (fun _ h => h) (by decide) rfl (Nat.le_of_ble_eq_true rfl) rfl ?_
  intro p e s m args below meth c hx hb hr hlocks hin hC hI ls hl
  obtain ⟨hx, hb, hml, hown, hB⟩ := id hC
  obtain ⟨H, hH⟩ : ∃ H, H = s.heap := ⟨_, rfl⟩
  obtain ⟨locs, hlocs⟩ : ∃ L : List Loc, L = [] := ⟨_, rfl⟩
  rw [← hH, ← hlocs] at hI ⊢
  clear hH hlocs
  unfold p_X5_append at hq
  replace hq := (h_me_eq hq).2
  refine lv_bipush (v := (24 : Int32)) hx hb dX5_append_0 (by decide) ?_
  refine lv_istore_n (lv' := [(2, .int (24 : Int32)), (0, .ref a0), (1, .int a1)]) hx hb dX5_append_2 rfl hl (by decide) rfl (fun ls hl => ?_)
  have hl3 : ∀ (K46 : GH → Option GH) (hK46 : ∀ (f : GH) (H : Heap) (locs : List Loc) (ls : Array Slot), g_at (g_A V) V g D cT f n s H locs → lv_has ls 3 [] → K46 f = some o → W p l e rm_X5_append s m args below meth c H locs 0 0 (MQ below (g_Wv V D cT o n) args s 0 0 (g_A V)) (F0 m 46 ls [])) (N : Nat) (x0 : Nat) (x1 : Int32) (x2 : Int32) (f : GH) (H : Heap) (locs : List Loc) (ls : Array Slot), g_at (g_A V) V g D cT f n s H locs → lv_has ls 3 [(0, .ref x0), (1, .int x1), (2, .int x2)] → p_X5_append_l3 V g K46 N x0 x1 x2 f = some o → W p l e rm_X5_append s m args below meth c H locs 0 0 (MQ below (g_Wv V D cT o n) args s 0 0 (g_A V)) (F0 m 3 ls []) := by
    intro K46 hK46 N
    induction N with
    | zero =>
      intro x0 x1 x2 f H locs ls hI hl hq
      rw [p_X5_append_l3] at hq
      cases hq
    | succ N ih =>
      intro x0 x1 x2 f H locs ls hI hl hq
      rw [p_X5_append_l3] at hq
      refine lv_iload_n hx hb dX5_append_3 rfl (lv_at hl 2 rfl) ?_
      refine lv_if_lt (tgt := 46) hx hb dX5_append_4 (by decide) (fun c1 => ?_) (fun c1 => ?_)
      · replace hq := i_t c1 hq
        exact hK46 f H locs ls hI (lv_sub hl [] rfl) hq
      · replace hq := i_f c1 hq
        refine lv_aload_n hx hb dX5_append_7 rfl (lv_at hl 0 rfl) ?_
        obtain ⟨v2, ev2, hq⟩ := b_s hq
        refine fa_gi (own := RX5) (ref := "CoastlineRuler$Tokens") (k := 1) hx hb hB inB_RX5 hown hI rfl (by decide) m_112 (fun _ h9 => h9) ev2 dX5_append_8 ?_
        refine lv_sipush (v := (700 : Int32)) hx hb dX5_append_11 (by decide) ?_
        refine lv_icmp_ge (tgt := 46) hx hb dX5_append_14 (by decide) (fun c3 => ?_) (fun c3 => ?_)
        · replace hq := i_t c3 hq
          exact hK46 f H locs ls hI (lv_sub hl [] rfl) hq
        · replace hq := i_f c3 hq
          refine lv_aload_n hx hb dX5_append_17 rfl (lv_at hl 0 rfl) ?_
          obtain ⟨v4, ev4, hq⟩ := b_s hq
          refine fa_gr (own := RX5) (ref := "CoastlineRuler$Tokens") (k := 0) hx hb hB inB_RX5 hown hI rfl (by decide) m_110 (fun _ h9 => h9) ev4 dX5_append_18 ?_
          refine lv_aload_n hx hb dX5_append_21 rfl (lv_at hl 0 rfl) ?_
          obtain ⟨v5, ev5, hq⟩ := b_s hq
          refine fa_gi (own := RX5) (ref := "CoastlineRuler$Tokens") (k := 1) hx hb hB inB_RX5 hown hI rfl (by decide) m_112 (fun _ h9 => h9) ev5 dX5_append_22 ?_
          refine lv_iload_n hx hb dX5_append_25 rfl (lv_at hl 1 rfl) ?_
          refine lv_iload_n hx hb dX5_append_26 rfl (lv_at hl 2 rfl) ?_
          refine lv_ishr hx hb dX5_append_27 ?_
          refine lv_i2b (v := (x1 >>> (x2 &&& 31)).toInt8.toInt32) hx hb dX5_append_28 rfl ?_
          obtain ⟨f6, ef6, hq⟩ := b_s hq
          refine fa_sb hx hb hI ef6 dX5_append_29 (fun H locs hI => ?_)
          refine lv_aload_n hx hb dX5_append_30 rfl (lv_at hl 0 rfl) ?_
          refine lv_dup hx hb dX5_append_31 rfl ?_
          obtain ⟨v7, ev7, hq⟩ := b_s hq
          refine fa_gi (own := RX5) (ref := "CoastlineRuler$Tokens") (k := 1) hx hb hB inB_RX5 hown hI rfl (by decide) m_112 (fun _ h9 => h9) ev7 dX5_append_32 ?_
          refine lv_iconst (v := (1 : Int32)) hx hb dX5_append_35 (by decide) ?_
          refine lv_iadd hx hb dX5_append_36 ?_
          obtain ⟨f8, ef8, hq⟩ := b_s hq
          refine fa_pt (own := RX5) (ref := "CoastlineRuler$Tokens") (k := 1) hx hb hB inB_RX5 tyX5_ok nmX5 hown hI rfl (by decide) m_112 (fun _ h9 => h9) (by decide) rfl rfl ef8 dX5_append_37 (fun H locs hI => ?_)
          refine lv_iinc (v := x2 + (-8 : Int32)) (lv' := [(2, .int (x2 + (-8 : Int32))), (0, .ref x0), (1, .int x1)]) hx hb dX5_append_40 hl (k := 2) rfl rfl (by decide) rfl (fun ls hl => ?_)
          refine lv_goto (tgt := 3) hx hb dX5_append_43 (by decide) ?_
          exact ih x0 x1 (x2 + (-8 : Int32)) f8 H locs ls hI (lv_sub hl [1, 2, 0] rfl) hq
  refine hl3 _ ?_ FU a0 a1 (24 : Int32) f H locs ls hI (lv_sub hl [1, 2, 0] rfl) hq
  · intro f H locs ls hI hl hq
    exact ge_Wv hx hb hlocks hr hI (Option.some.inj hq) dX5_append_46

abbrev rm_X7_init : Room := { frames := 4, cells := 314, slots := 36774, locals := 167 }
theorem k_X7_init : g_CI yX7_init cX7_init 2 0 := ⟨⟨m_34, m_1, by decide +kernel⟩, rfl, m_33⟩
set_option maxHeartbeats 4000000 in
set_option maxRecDepth 100000 in
theorem sg_X7_init_17 {p : Program} {l : Launch} {e : Env} {s : State} {m : MethodId} {args : Array Value} {below : List Frame} {meth : Method} {c : Code} {V : Nat → Nat} {g : GH} {D : va_G} {cT : Nat → ClassId} {o : GH × Nat} (hx : p.tables.exec = Jvm.exec) (hb : c.code = cX7_init) (hr : meth.sig.returnType = none) (hlocks : meth.locks = false) (hin : meth.name = yX7_init.name) (hC : CallFix p m c cX7_init 2 s args g_B RX7) : ∀ (x0 : Nat) (f : GH) (n : Nat) (H : Heap) (locs : List Loc) (ls : Array Slot), g_at (g_A V) V g D cT f n s H locs → lv_has ls 2 [(0, .ref x0)] → p_X7_init_s17 V g x0 f n = some o → W p l e rm_X7_init s m args below meth c H locs 314 36774 (MQ below (g_Wv V D cT o.1 o.2) args s 314 36774 (g_A V)) (F0 m 182 ls []) := by
  intro x0 f n H locs ls hI hl hq
  obtain ⟨_, _, hml, hown, hB⟩ := id hC
  unfold p_X7_init_s17 at hq
  refine lv_aload_n hx hb dX7_init_182 rfl (lv_at hl 0 rfl) ?_
  obtain ⟨v144, ev144, hq⟩ := b_s hq
  refine fa_gr (own := RX7) (ref := "CoastlineRuler") (k := 0) hx hb hB inB_RX7 hown hI rfl (by decide) m_265 (fun _ h9 => h9) ev144 dX7_init_183 ?_
  refine fs_gs (i := 14) hx hb hown hI rfl (hB _ m_253) (fun _ h9 => h9) dX7_init_186 ?_
  refine lv_iconst (v := (1 : Int32)) hx hb dX7_init_189 (by decide) ?_
  obtain ⟨v145, ev145, hq⟩ := b_s hq
  refine gw_v (g_runV (As := [.ref (V 15), .int (1 : Int32)]) (rest := []) (ci := 4) hC (c_X1_place l V g D cT f n v144 (V 15) (1 : Int32) v145 ev145) k_X1_place m_242 rfl rfl ⟨Nat.le_of_ble_eq_true rfl, Nat.le_of_ble_eq_true rfl⟩ hI rfl rfl (h_me_eq ev145).1 rfl hl.1 rfl (Nat.le_of_ble_eq_true rfl) dX7_init_190 ⟨by decide, by decide⟩) hI (fun H locs hI => ?_)
  refine lv_aload_n hx hb dX7_init_193 rfl (lv_at hl 0 rfl) ?_
  obtain ⟨v146, ev146, hq⟩ := b_s hq
  refine fa_gr (own := RX7) (ref := "CoastlineRuler") (k := 0) hx hb hB inB_RX7 hown hI rfl (by decide) m_265 (fun _ h9 => h9) ev146 dX7_init_194 ?_
  refine fs_gs (i := 15) hx hb hown hI rfl (hB _ m_255) (fun _ h9 => h9) dX7_init_197 ?_
  refine lv_iconst (v := (1 : Int32)) hx hb dX7_init_200 (by decide) ?_
  obtain ⟨v147, ev147, hq⟩ := b_s hq
  refine gw_v (g_runV (As := [.ref (V 16), .int (1 : Int32)]) (rest := []) (ci := 4) hC (c_X1_place l V g D cT v145 n v146 (V 16) (1 : Int32) v147 ev147) k_X1_place m_242 rfl rfl ⟨Nat.le_of_ble_eq_true rfl, Nat.le_of_ble_eq_true rfl⟩ hI rfl rfl (h_me_eq ev147).1 rfl hl.1 rfl (Nat.le_of_ble_eq_true rfl) dX7_init_201 ⟨by decide, by decide⟩) hI (fun H locs hI => ?_)
  refine lv_aload_n hx hb dX7_init_204 rfl (lv_at hl 0 rfl) ?_
  obtain ⟨v148, ev148, hq⟩ := b_s hq
  refine fa_gr (own := RX7) (ref := "CoastlineRuler") (k := 0) hx hb hB inB_RX7 hown hI rfl (by decide) m_265 (fun _ h9 => h9) ev148 dX7_init_205 ?_
  obtain ⟨v149, ev149, hq⟩ := b_s hq
  refine gw_v (g_runV (As := []) (rest := []) (ci := 4) hC (c_X1_startLedgers l V g D cT v147 n v148 v149 ev149) k_X1_startLedgers m_257 rfl rfl ⟨Nat.le_of_ble_eq_true rfl, Nat.le_of_ble_eq_true rfl⟩ hI rfl rfl (h_me_eq ev149).1 rfl hl.1 rfl (Nat.le_of_ble_eq_true rfl) dX7_init_208 ⟨by decide, by decide⟩) hI (fun H locs hI => ?_)
  obtain rfl := Option.some.inj hq
  exact ge_Wv hx hb hlocks hr hI rfl dX7_init_211

set_option maxHeartbeats 4000000 in
set_option maxRecDepth 100000 in
theorem sg_X7_init_16 {p : Program} {l : Launch} {e : Env} {s : State} {m : MethodId} {args : Array Value} {below : List Frame} {meth : Method} {c : Code} {V : Nat → Nat} {g : GH} {D : va_G} {cT : Nat → ClassId} {o : GH × Nat} (hx : p.tables.exec = Jvm.exec) (hb : c.code = cX7_init) (hr : meth.sig.returnType = none) (hlocks : meth.locks = false) (hin : meth.name = yX7_init.name) (hC : CallFix p m c cX7_init 2 s args g_B RX7) : ∀ (x0 : Nat) (f : GH) (n : Nat) (H : Heap) (locs : List Loc) (ls : Array Slot), g_at (g_A V) V g D cT f n s H locs → lv_has ls 2 [(0, .ref x0), (1, .int (18 : Int32))] → p_X7_init_s16 V g x0 f n = some o → W p l e rm_X7_init s m args below meth c H locs 310 36363 (MQ below (g_Wv V D cT o.1 o.2) args s 314 36774 (g_A V)) (F0 m 165 ls []) := by
  intro x0 f n H locs ls hI hl hq
  obtain ⟨_, _, hml, hown, hB⟩ := id hC
  unfold p_X7_init_s16 at hq
  refine lv_iinc (v := (19 : Int32)) (lv' := [(1, .int (19 : Int32)), (0, .ref x0)]) hx hb dX7_init_165 hl (k := 1) rfl (by decide) (by decide) rfl (fun ls hl => ?_)
  refine lv_goto (tgt := 146) hx hb dX7_init_168 (by decide) ?_
  refine lv_iload_n hx hb dX7_init_146 rfl (lv_at hl 0 rfl) ?_
  refine lv_bipush (v := (20 : Int32)) hx hb dX7_init_147 (by decide) ?_
  refine lv_icmp_ge (tgt := 171) hx hb dX7_init_149 (by decide) (fun c => absurd c (by decide)) (fun _ => ?_)
  refine lv_aload_n hx hb dX7_init_152 rfl (lv_at hl 1 rfl) ?_
  obtain ⟨v138, ev138, hq⟩ := b_s hq
  refine fa_gr (own := RX7) (ref := "CoastlineRuler") (k := 9) hx hb hB inB_RX7 hown hI rfl (by decide) m_274 (fun _ h9 => h9) ev138 dX7_init_153 ?_
  refine lv_iload_n hx hb dX7_init_156 rfl (lv_at hl 0 rfl) ?_
  obtain ⟨f139, ef139, hq⟩ := b_s hq
  refine fa_new (own := RX7) (ci := 6) hx hb hB inB_RX3 tyX3_ok hown m_157 m_159 m_6 hI rfl (by decide +kernel) (by decide) (by decide) ef139 dX7_init_157 (fun H locs hI => ?_)
  refine lv_dup hx hb dX7_init_160 rfl ?_
  obtain ⟨v140, ev140, hq⟩ := b_s hq
  refine gw_v (g_runIN (As := []) (rest := [.ref n, .int (19 : Int32), .ref v138]) (j0 := 1) hC (c_X3_init l V g D cT f139 (n + 1) n v140 ev140) k_X3_init rfl rfl rfl ⟨Nat.le_of_ble_eq_true rfl, Nat.le_of_ble_eq_true rfl⟩ hI rfl hl.1 rfl (Nat.le_of_ble_eq_true rfl) dX7_init_161 ⟨by decide, by decide⟩) hI (fun H locs hI => ?_)
  obtain ⟨f141, ef141, hq⟩ := b_s hq
  refine fa_sq hx hb hI (by decide) (ci := 6) rfl rfl ef141 dX7_init_164 (fun H locs hI => ?_)
  refine lv_iinc (v := (20 : Int32)) (lv' := [(1, .int (20 : Int32)), (0, .ref x0)]) hx hb dX7_init_165 hl (k := 0) rfl (by decide) (by decide) rfl (fun ls hl => ?_)
  refine lv_goto (tgt := 146) hx hb dX7_init_168 (by decide) ?_
  refine lv_iload_n hx hb dX7_init_146 rfl (lv_at hl 0 rfl) ?_
  refine lv_bipush (v := (20 : Int32)) hx hb dX7_init_147 (by decide) ?_
  refine lv_icmp_ge (tgt := 171) hx hb dX7_init_149 (by decide) (fun _ => ?_) (fun c => absurd (by decide) c)
  refine lv_aload_n hx hb dX7_init_171 rfl (lv_at hl 1 rfl) ?_
  obtain ⟨v142, ev142, hq⟩ := b_s hq
  refine fa_gr (own := RX7) (ref := "CoastlineRuler") (k := 0) hx hb hB inB_RX7 hown hI rfl (by decide) m_265 (fun _ h9 => h9) ev142 dX7_init_172 ?_
  refine fs_gs (i := 13) hx hb hown hI rfl (hB _ m_240) (fun _ h9 => h9) dX7_init_175 ?_
  refine lv_iconst (v := (0 : Int32)) hx hb dX7_init_178 (by decide) ?_
  obtain ⟨v143, ev143, hq⟩ := b_s hq
  refine gw_v (g_runV (As := [.ref (V 14), .int (0 : Int32)]) (rest := []) (ci := 4) hC (c_X1_place l V g D cT f141 v140.2 v142 (V 14) (0 : Int32) v143 ev143) k_X1_place m_242 rfl rfl ⟨Nat.le_of_ble_eq_true rfl, Nat.le_of_ble_eq_true rfl⟩ hI rfl rfl (h_me_eq ev143).1 rfl hl.1 rfl (Nat.le_of_ble_eq_true rfl) dX7_init_179 ⟨by decide, by decide⟩) hI (fun H locs hI => ?_)
  exact sg_X7_init_17 hx hb hr hlocks hin hC x0 v143 v140.2 H locs ls hI (lv_sub hl [1] rfl) hq

set_option maxHeartbeats 4000000 in
set_option maxRecDepth 100000 in
theorem sg_X7_init_15 {p : Program} {l : Launch} {e : Env} {s : State} {m : MethodId} {args : Array Value} {below : List Frame} {meth : Method} {c : Code} {V : Nat → Nat} {g : GH} {D : va_G} {cT : Nat → ClassId} {o : GH × Nat} (hx : p.tables.exec = Jvm.exec) (hb : c.code = cX7_init) (hr : meth.sig.returnType = none) (hlocks : meth.locks = false) (hin : meth.name = yX7_init.name) (hC : CallFix p m c cX7_init 2 s args g_B RX7) : ∀ (x0 : Nat) (f : GH) (n : Nat) (H : Heap) (locs : List Loc) (ls : Array Slot), g_at (g_A V) V g D cT f n s H locs → lv_has ls 2 [(0, .ref x0), (1, .int (16 : Int32))] → p_X7_init_s15 V g x0 f n = some o → W p l e rm_X7_init s m args below meth c H locs 302 35541 (MQ below (g_Wv V D cT o.1 o.2) args s 314 36774 (g_A V)) (F0 m 165 ls []) := by
  intro x0 f n H locs ls hI hl hq
  obtain ⟨_, _, hml, hown, hB⟩ := id hC
  unfold p_X7_init_s15 at hq
  refine lv_iinc (v := (17 : Int32)) (lv' := [(1, .int (17 : Int32)), (0, .ref x0)]) hx hb dX7_init_165 hl (k := 1) rfl (by decide) (by decide) rfl (fun ls hl => ?_)
  refine lv_goto (tgt := 146) hx hb dX7_init_168 (by decide) ?_
  refine lv_iload_n hx hb dX7_init_146 rfl (lv_at hl 0 rfl) ?_
  refine lv_bipush (v := (20 : Int32)) hx hb dX7_init_147 (by decide) ?_
  refine lv_icmp_ge (tgt := 171) hx hb dX7_init_149 (by decide) (fun c => absurd c (by decide)) (fun _ => ?_)
  refine lv_aload_n hx hb dX7_init_152 rfl (lv_at hl 1 rfl) ?_
  obtain ⟨v130, ev130, hq⟩ := b_s hq
  refine fa_gr (own := RX7) (ref := "CoastlineRuler") (k := 9) hx hb hB inB_RX7 hown hI rfl (by decide) m_274 (fun _ h9 => h9) ev130 dX7_init_153 ?_
  refine lv_iload_n hx hb dX7_init_156 rfl (lv_at hl 0 rfl) ?_
  obtain ⟨f131, ef131, hq⟩ := b_s hq
  refine fa_new (own := RX7) (ci := 6) hx hb hB inB_RX3 tyX3_ok hown m_157 m_159 m_6 hI rfl (by decide +kernel) (by decide) (by decide) ef131 dX7_init_157 (fun H locs hI => ?_)
  refine lv_dup hx hb dX7_init_160 rfl ?_
  obtain ⟨v132, ev132, hq⟩ := b_s hq
  refine gw_v (g_runIN (As := []) (rest := [.ref n, .int (17 : Int32), .ref v130]) (j0 := 1) hC (c_X3_init l V g D cT f131 (n + 1) n v132 ev132) k_X3_init rfl rfl rfl ⟨Nat.le_of_ble_eq_true rfl, Nat.le_of_ble_eq_true rfl⟩ hI rfl hl.1 rfl (Nat.le_of_ble_eq_true rfl) dX7_init_161 ⟨by decide, by decide⟩) hI (fun H locs hI => ?_)
  obtain ⟨f133, ef133, hq⟩ := b_s hq
  refine fa_sq hx hb hI (by decide) (ci := 6) rfl rfl ef133 dX7_init_164 (fun H locs hI => ?_)
  refine lv_iinc (v := (18 : Int32)) (lv' := [(1, .int (18 : Int32)), (0, .ref x0)]) hx hb dX7_init_165 hl (k := 0) rfl (by decide) (by decide) rfl (fun ls hl => ?_)
  refine lv_goto (tgt := 146) hx hb dX7_init_168 (by decide) ?_
  refine lv_iload_n hx hb dX7_init_146 rfl (lv_at hl 0 rfl) ?_
  refine lv_bipush (v := (20 : Int32)) hx hb dX7_init_147 (by decide) ?_
  refine lv_icmp_ge (tgt := 171) hx hb dX7_init_149 (by decide) (fun c => absurd c (by decide)) (fun _ => ?_)
  refine lv_aload_n hx hb dX7_init_152 rfl (lv_at hl 1 rfl) ?_
  obtain ⟨v134, ev134, hq⟩ := b_s hq
  refine fa_gr (own := RX7) (ref := "CoastlineRuler") (k := 9) hx hb hB inB_RX7 hown hI rfl (by decide) m_274 (fun _ h9 => h9) ev134 dX7_init_153 ?_
  refine lv_iload_n hx hb dX7_init_156 rfl (lv_at hl 0 rfl) ?_
  obtain ⟨f135, ef135, hq⟩ := b_s hq
  refine fa_new (own := RX7) (ci := 6) hx hb hB inB_RX3 tyX3_ok hown m_157 m_159 m_6 hI rfl (by decide +kernel) (by decide) (by decide) ef135 dX7_init_157 (fun H locs hI => ?_)
  refine lv_dup hx hb dX7_init_160 rfl ?_
  obtain ⟨v136, ev136, hq⟩ := b_s hq
  refine gw_v (g_runIN (As := []) (rest := [.ref v132.2, .int (18 : Int32), .ref v134]) (j0 := 1) hC (c_X3_init l V g D cT f135 (v132.2 + 1) v132.2 v136 ev136) k_X3_init rfl rfl rfl ⟨Nat.le_of_ble_eq_true rfl, Nat.le_of_ble_eq_true rfl⟩ hI rfl hl.1 rfl (Nat.le_of_ble_eq_true rfl) dX7_init_161 ⟨by decide, by decide⟩) hI (fun H locs hI => ?_)
  obtain ⟨f137, ef137, hq⟩ := b_s hq
  refine fa_sq hx hb hI (by decide) (ci := 6) rfl rfl ef137 dX7_init_164 (fun H locs hI => ?_)
  exact sg_X7_init_16 hx hb hr hlocks hin hC x0 f137 v136.2 H locs ls hI (lv_sub hl [1, 0] rfl) hq

set_option maxHeartbeats 4000000 in
set_option maxRecDepth 100000 in
theorem sg_X7_init_14 {p : Program} {l : Launch} {e : Env} {s : State} {m : MethodId} {args : Array Value} {below : List Frame} {meth : Method} {c : Code} {V : Nat → Nat} {g : GH} {D : va_G} {cT : Nat → ClassId} {o : GH × Nat} (hx : p.tables.exec = Jvm.exec) (hb : c.code = cX7_init) (hr : meth.sig.returnType = none) (hlocks : meth.locks = false) (hin : meth.name = yX7_init.name) (hC : CallFix p m c cX7_init 2 s args g_B RX7) : ∀ (x0 : Nat) (f : GH) (n : Nat) (H : Heap) (locs : List Loc) (ls : Array Slot), g_at (g_A V) V g D cT f n s H locs → lv_has ls 2 [(0, .ref x0), (1, .int (14 : Int32))] → p_X7_init_s14 V g x0 f n = some o → W p l e rm_X7_init s m args below meth c H locs 294 34719 (MQ below (g_Wv V D cT o.1 o.2) args s 314 36774 (g_A V)) (F0 m 165 ls []) := by
  intro x0 f n H locs ls hI hl hq
  obtain ⟨_, _, hml, hown, hB⟩ := id hC
  unfold p_X7_init_s14 at hq
  refine lv_iinc (v := (15 : Int32)) (lv' := [(1, .int (15 : Int32)), (0, .ref x0)]) hx hb dX7_init_165 hl (k := 1) rfl (by decide) (by decide) rfl (fun ls hl => ?_)
  refine lv_goto (tgt := 146) hx hb dX7_init_168 (by decide) ?_
  refine lv_iload_n hx hb dX7_init_146 rfl (lv_at hl 0 rfl) ?_
  refine lv_bipush (v := (20 : Int32)) hx hb dX7_init_147 (by decide) ?_
  refine lv_icmp_ge (tgt := 171) hx hb dX7_init_149 (by decide) (fun c => absurd c (by decide)) (fun _ => ?_)
  refine lv_aload_n hx hb dX7_init_152 rfl (lv_at hl 1 rfl) ?_
  obtain ⟨v122, ev122, hq⟩ := b_s hq
  refine fa_gr (own := RX7) (ref := "CoastlineRuler") (k := 9) hx hb hB inB_RX7 hown hI rfl (by decide) m_274 (fun _ h9 => h9) ev122 dX7_init_153 ?_
  refine lv_iload_n hx hb dX7_init_156 rfl (lv_at hl 0 rfl) ?_
  obtain ⟨f123, ef123, hq⟩ := b_s hq
  refine fa_new (own := RX7) (ci := 6) hx hb hB inB_RX3 tyX3_ok hown m_157 m_159 m_6 hI rfl (by decide +kernel) (by decide) (by decide) ef123 dX7_init_157 (fun H locs hI => ?_)
  refine lv_dup hx hb dX7_init_160 rfl ?_
  obtain ⟨v124, ev124, hq⟩ := b_s hq
  refine gw_v (g_runIN (As := []) (rest := [.ref n, .int (15 : Int32), .ref v122]) (j0 := 1) hC (c_X3_init l V g D cT f123 (n + 1) n v124 ev124) k_X3_init rfl rfl rfl ⟨Nat.le_of_ble_eq_true rfl, Nat.le_of_ble_eq_true rfl⟩ hI rfl hl.1 rfl (Nat.le_of_ble_eq_true rfl) dX7_init_161 ⟨by decide, by decide⟩) hI (fun H locs hI => ?_)
  obtain ⟨f125, ef125, hq⟩ := b_s hq
  refine fa_sq hx hb hI (by decide) (ci := 6) rfl rfl ef125 dX7_init_164 (fun H locs hI => ?_)
  refine lv_iinc (v := (16 : Int32)) (lv' := [(1, .int (16 : Int32)), (0, .ref x0)]) hx hb dX7_init_165 hl (k := 0) rfl (by decide) (by decide) rfl (fun ls hl => ?_)
  refine lv_goto (tgt := 146) hx hb dX7_init_168 (by decide) ?_
  refine lv_iload_n hx hb dX7_init_146 rfl (lv_at hl 0 rfl) ?_
  refine lv_bipush (v := (20 : Int32)) hx hb dX7_init_147 (by decide) ?_
  refine lv_icmp_ge (tgt := 171) hx hb dX7_init_149 (by decide) (fun c => absurd c (by decide)) (fun _ => ?_)
  refine lv_aload_n hx hb dX7_init_152 rfl (lv_at hl 1 rfl) ?_
  obtain ⟨v126, ev126, hq⟩ := b_s hq
  refine fa_gr (own := RX7) (ref := "CoastlineRuler") (k := 9) hx hb hB inB_RX7 hown hI rfl (by decide) m_274 (fun _ h9 => h9) ev126 dX7_init_153 ?_
  refine lv_iload_n hx hb dX7_init_156 rfl (lv_at hl 0 rfl) ?_
  obtain ⟨f127, ef127, hq⟩ := b_s hq
  refine fa_new (own := RX7) (ci := 6) hx hb hB inB_RX3 tyX3_ok hown m_157 m_159 m_6 hI rfl (by decide +kernel) (by decide) (by decide) ef127 dX7_init_157 (fun H locs hI => ?_)
  refine lv_dup hx hb dX7_init_160 rfl ?_
  obtain ⟨v128, ev128, hq⟩ := b_s hq
  refine gw_v (g_runIN (As := []) (rest := [.ref v124.2, .int (16 : Int32), .ref v126]) (j0 := 1) hC (c_X3_init l V g D cT f127 (v124.2 + 1) v124.2 v128 ev128) k_X3_init rfl rfl rfl ⟨Nat.le_of_ble_eq_true rfl, Nat.le_of_ble_eq_true rfl⟩ hI rfl hl.1 rfl (Nat.le_of_ble_eq_true rfl) dX7_init_161 ⟨by decide, by decide⟩) hI (fun H locs hI => ?_)
  obtain ⟨f129, ef129, hq⟩ := b_s hq
  refine fa_sq hx hb hI (by decide) (ci := 6) rfl rfl ef129 dX7_init_164 (fun H locs hI => ?_)
  exact sg_X7_init_15 hx hb hr hlocks hin hC x0 f129 v128.2 H locs ls hI (lv_sub hl [1, 0] rfl) hq

set_option maxHeartbeats 4000000 in
set_option maxRecDepth 100000 in
theorem sg_X7_init_13 {p : Program} {l : Launch} {e : Env} {s : State} {m : MethodId} {args : Array Value} {below : List Frame} {meth : Method} {c : Code} {V : Nat → Nat} {g : GH} {D : va_G} {cT : Nat → ClassId} {o : GH × Nat} (hx : p.tables.exec = Jvm.exec) (hb : c.code = cX7_init) (hr : meth.sig.returnType = none) (hlocks : meth.locks = false) (hin : meth.name = yX7_init.name) (hC : CallFix p m c cX7_init 2 s args g_B RX7) : ∀ (x0 : Nat) (f : GH) (n : Nat) (H : Heap) (locs : List Loc) (ls : Array Slot), g_at (g_A V) V g D cT f n s H locs → lv_has ls 2 [(0, .ref x0), (1, .int (12 : Int32))] → p_X7_init_s13 V g x0 f n = some o → W p l e rm_X7_init s m args below meth c H locs 286 33897 (MQ below (g_Wv V D cT o.1 o.2) args s 314 36774 (g_A V)) (F0 m 165 ls []) := by
  intro x0 f n H locs ls hI hl hq
  obtain ⟨_, _, hml, hown, hB⟩ := id hC
  unfold p_X7_init_s13 at hq
  refine lv_iinc (v := (13 : Int32)) (lv' := [(1, .int (13 : Int32)), (0, .ref x0)]) hx hb dX7_init_165 hl (k := 1) rfl (by decide) (by decide) rfl (fun ls hl => ?_)
  refine lv_goto (tgt := 146) hx hb dX7_init_168 (by decide) ?_
  refine lv_iload_n hx hb dX7_init_146 rfl (lv_at hl 0 rfl) ?_
  refine lv_bipush (v := (20 : Int32)) hx hb dX7_init_147 (by decide) ?_
  refine lv_icmp_ge (tgt := 171) hx hb dX7_init_149 (by decide) (fun c => absurd c (by decide)) (fun _ => ?_)
  refine lv_aload_n hx hb dX7_init_152 rfl (lv_at hl 1 rfl) ?_
  obtain ⟨v114, ev114, hq⟩ := b_s hq
  refine fa_gr (own := RX7) (ref := "CoastlineRuler") (k := 9) hx hb hB inB_RX7 hown hI rfl (by decide) m_274 (fun _ h9 => h9) ev114 dX7_init_153 ?_
  refine lv_iload_n hx hb dX7_init_156 rfl (lv_at hl 0 rfl) ?_
  obtain ⟨f115, ef115, hq⟩ := b_s hq
  refine fa_new (own := RX7) (ci := 6) hx hb hB inB_RX3 tyX3_ok hown m_157 m_159 m_6 hI rfl (by decide +kernel) (by decide) (by decide) ef115 dX7_init_157 (fun H locs hI => ?_)
  refine lv_dup hx hb dX7_init_160 rfl ?_
  obtain ⟨v116, ev116, hq⟩ := b_s hq
  refine gw_v (g_runIN (As := []) (rest := [.ref n, .int (13 : Int32), .ref v114]) (j0 := 1) hC (c_X3_init l V g D cT f115 (n + 1) n v116 ev116) k_X3_init rfl rfl rfl ⟨Nat.le_of_ble_eq_true rfl, Nat.le_of_ble_eq_true rfl⟩ hI rfl hl.1 rfl (Nat.le_of_ble_eq_true rfl) dX7_init_161 ⟨by decide, by decide⟩) hI (fun H locs hI => ?_)
  obtain ⟨f117, ef117, hq⟩ := b_s hq
  refine fa_sq hx hb hI (by decide) (ci := 6) rfl rfl ef117 dX7_init_164 (fun H locs hI => ?_)
  refine lv_iinc (v := (14 : Int32)) (lv' := [(1, .int (14 : Int32)), (0, .ref x0)]) hx hb dX7_init_165 hl (k := 0) rfl (by decide) (by decide) rfl (fun ls hl => ?_)
  refine lv_goto (tgt := 146) hx hb dX7_init_168 (by decide) ?_
  refine lv_iload_n hx hb dX7_init_146 rfl (lv_at hl 0 rfl) ?_
  refine lv_bipush (v := (20 : Int32)) hx hb dX7_init_147 (by decide) ?_
  refine lv_icmp_ge (tgt := 171) hx hb dX7_init_149 (by decide) (fun c => absurd c (by decide)) (fun _ => ?_)
  refine lv_aload_n hx hb dX7_init_152 rfl (lv_at hl 1 rfl) ?_
  obtain ⟨v118, ev118, hq⟩ := b_s hq
  refine fa_gr (own := RX7) (ref := "CoastlineRuler") (k := 9) hx hb hB inB_RX7 hown hI rfl (by decide) m_274 (fun _ h9 => h9) ev118 dX7_init_153 ?_
  refine lv_iload_n hx hb dX7_init_156 rfl (lv_at hl 0 rfl) ?_
  obtain ⟨f119, ef119, hq⟩ := b_s hq
  refine fa_new (own := RX7) (ci := 6) hx hb hB inB_RX3 tyX3_ok hown m_157 m_159 m_6 hI rfl (by decide +kernel) (by decide) (by decide) ef119 dX7_init_157 (fun H locs hI => ?_)
  refine lv_dup hx hb dX7_init_160 rfl ?_
  obtain ⟨v120, ev120, hq⟩ := b_s hq
  refine gw_v (g_runIN (As := []) (rest := [.ref v116.2, .int (14 : Int32), .ref v118]) (j0 := 1) hC (c_X3_init l V g D cT f119 (v116.2 + 1) v116.2 v120 ev120) k_X3_init rfl rfl rfl ⟨Nat.le_of_ble_eq_true rfl, Nat.le_of_ble_eq_true rfl⟩ hI rfl hl.1 rfl (Nat.le_of_ble_eq_true rfl) dX7_init_161 ⟨by decide, by decide⟩) hI (fun H locs hI => ?_)
  obtain ⟨f121, ef121, hq⟩ := b_s hq
  refine fa_sq hx hb hI (by decide) (ci := 6) rfl rfl ef121 dX7_init_164 (fun H locs hI => ?_)
  exact sg_X7_init_14 hx hb hr hlocks hin hC x0 f121 v120.2 H locs ls hI (lv_sub hl [1, 0] rfl) hq

set_option maxHeartbeats 4000000 in
set_option maxRecDepth 100000 in
theorem sg_X7_init_12 {p : Program} {l : Launch} {e : Env} {s : State} {m : MethodId} {args : Array Value} {below : List Frame} {meth : Method} {c : Code} {V : Nat → Nat} {g : GH} {D : va_G} {cT : Nat → ClassId} {o : GH × Nat} (hx : p.tables.exec = Jvm.exec) (hb : c.code = cX7_init) (hr : meth.sig.returnType = none) (hlocks : meth.locks = false) (hin : meth.name = yX7_init.name) (hC : CallFix p m c cX7_init 2 s args g_B RX7) : ∀ (x0 : Nat) (f : GH) (n : Nat) (H : Heap) (locs : List Loc) (ls : Array Slot), g_at (g_A V) V g D cT f n s H locs → lv_has ls 2 [(0, .ref x0), (1, .int (10 : Int32))] → p_X7_init_s12 V g x0 f n = some o → W p l e rm_X7_init s m args below meth c H locs 278 33075 (MQ below (g_Wv V D cT o.1 o.2) args s 314 36774 (g_A V)) (F0 m 165 ls []) := by
  intro x0 f n H locs ls hI hl hq
  obtain ⟨_, _, hml, hown, hB⟩ := id hC
  unfold p_X7_init_s12 at hq
  refine lv_iinc (v := (11 : Int32)) (lv' := [(1, .int (11 : Int32)), (0, .ref x0)]) hx hb dX7_init_165 hl (k := 1) rfl (by decide) (by decide) rfl (fun ls hl => ?_)
  refine lv_goto (tgt := 146) hx hb dX7_init_168 (by decide) ?_
  refine lv_iload_n hx hb dX7_init_146 rfl (lv_at hl 0 rfl) ?_
  refine lv_bipush (v := (20 : Int32)) hx hb dX7_init_147 (by decide) ?_
  refine lv_icmp_ge (tgt := 171) hx hb dX7_init_149 (by decide) (fun c => absurd c (by decide)) (fun _ => ?_)
  refine lv_aload_n hx hb dX7_init_152 rfl (lv_at hl 1 rfl) ?_
  obtain ⟨v106, ev106, hq⟩ := b_s hq
  refine fa_gr (own := RX7) (ref := "CoastlineRuler") (k := 9) hx hb hB inB_RX7 hown hI rfl (by decide) m_274 (fun _ h9 => h9) ev106 dX7_init_153 ?_
  refine lv_iload_n hx hb dX7_init_156 rfl (lv_at hl 0 rfl) ?_
  obtain ⟨f107, ef107, hq⟩ := b_s hq
  refine fa_new (own := RX7) (ci := 6) hx hb hB inB_RX3 tyX3_ok hown m_157 m_159 m_6 hI rfl (by decide +kernel) (by decide) (by decide) ef107 dX7_init_157 (fun H locs hI => ?_)
  refine lv_dup hx hb dX7_init_160 rfl ?_
  obtain ⟨v108, ev108, hq⟩ := b_s hq
  refine gw_v (g_runIN (As := []) (rest := [.ref n, .int (11 : Int32), .ref v106]) (j0 := 1) hC (c_X3_init l V g D cT f107 (n + 1) n v108 ev108) k_X3_init rfl rfl rfl ⟨Nat.le_of_ble_eq_true rfl, Nat.le_of_ble_eq_true rfl⟩ hI rfl hl.1 rfl (Nat.le_of_ble_eq_true rfl) dX7_init_161 ⟨by decide, by decide⟩) hI (fun H locs hI => ?_)
  obtain ⟨f109, ef109, hq⟩ := b_s hq
  refine fa_sq hx hb hI (by decide) (ci := 6) rfl rfl ef109 dX7_init_164 (fun H locs hI => ?_)
  refine lv_iinc (v := (12 : Int32)) (lv' := [(1, .int (12 : Int32)), (0, .ref x0)]) hx hb dX7_init_165 hl (k := 0) rfl (by decide) (by decide) rfl (fun ls hl => ?_)
  refine lv_goto (tgt := 146) hx hb dX7_init_168 (by decide) ?_
  refine lv_iload_n hx hb dX7_init_146 rfl (lv_at hl 0 rfl) ?_
  refine lv_bipush (v := (20 : Int32)) hx hb dX7_init_147 (by decide) ?_
  refine lv_icmp_ge (tgt := 171) hx hb dX7_init_149 (by decide) (fun c => absurd c (by decide)) (fun _ => ?_)
  refine lv_aload_n hx hb dX7_init_152 rfl (lv_at hl 1 rfl) ?_
  obtain ⟨v110, ev110, hq⟩ := b_s hq
  refine fa_gr (own := RX7) (ref := "CoastlineRuler") (k := 9) hx hb hB inB_RX7 hown hI rfl (by decide) m_274 (fun _ h9 => h9) ev110 dX7_init_153 ?_
  refine lv_iload_n hx hb dX7_init_156 rfl (lv_at hl 0 rfl) ?_
  obtain ⟨f111, ef111, hq⟩ := b_s hq
  refine fa_new (own := RX7) (ci := 6) hx hb hB inB_RX3 tyX3_ok hown m_157 m_159 m_6 hI rfl (by decide +kernel) (by decide) (by decide) ef111 dX7_init_157 (fun H locs hI => ?_)
  refine lv_dup hx hb dX7_init_160 rfl ?_
  obtain ⟨v112, ev112, hq⟩ := b_s hq
  refine gw_v (g_runIN (As := []) (rest := [.ref v108.2, .int (12 : Int32), .ref v110]) (j0 := 1) hC (c_X3_init l V g D cT f111 (v108.2 + 1) v108.2 v112 ev112) k_X3_init rfl rfl rfl ⟨Nat.le_of_ble_eq_true rfl, Nat.le_of_ble_eq_true rfl⟩ hI rfl hl.1 rfl (Nat.le_of_ble_eq_true rfl) dX7_init_161 ⟨by decide, by decide⟩) hI (fun H locs hI => ?_)
  obtain ⟨f113, ef113, hq⟩ := b_s hq
  refine fa_sq hx hb hI (by decide) (ci := 6) rfl rfl ef113 dX7_init_164 (fun H locs hI => ?_)
  exact sg_X7_init_13 hx hb hr hlocks hin hC x0 f113 v112.2 H locs ls hI (lv_sub hl [1, 0] rfl) hq

set_option maxHeartbeats 4000000 in
set_option maxRecDepth 100000 in
theorem sg_X7_init_11 {p : Program} {l : Launch} {e : Env} {s : State} {m : MethodId} {args : Array Value} {below : List Frame} {meth : Method} {c : Code} {V : Nat → Nat} {g : GH} {D : va_G} {cT : Nat → ClassId} {o : GH × Nat} (hx : p.tables.exec = Jvm.exec) (hb : c.code = cX7_init) (hr : meth.sig.returnType = none) (hlocks : meth.locks = false) (hin : meth.name = yX7_init.name) (hC : CallFix p m c cX7_init 2 s args g_B RX7) : ∀ (x0 : Nat) (f : GH) (n : Nat) (H : Heap) (locs : List Loc) (ls : Array Slot), g_at (g_A V) V g D cT f n s H locs → lv_has ls 2 [(0, .ref x0), (1, .int (8 : Int32))] → p_X7_init_s11 V g x0 f n = some o → W p l e rm_X7_init s m args below meth c H locs 270 32253 (MQ below (g_Wv V D cT o.1 o.2) args s 314 36774 (g_A V)) (F0 m 165 ls []) := by
  intro x0 f n H locs ls hI hl hq
  obtain ⟨_, _, hml, hown, hB⟩ := id hC
  unfold p_X7_init_s11 at hq
  refine lv_iinc (v := (9 : Int32)) (lv' := [(1, .int (9 : Int32)), (0, .ref x0)]) hx hb dX7_init_165 hl (k := 1) rfl (by decide) (by decide) rfl (fun ls hl => ?_)
  refine lv_goto (tgt := 146) hx hb dX7_init_168 (by decide) ?_
  refine lv_iload_n hx hb dX7_init_146 rfl (lv_at hl 0 rfl) ?_
  refine lv_bipush (v := (20 : Int32)) hx hb dX7_init_147 (by decide) ?_
  refine lv_icmp_ge (tgt := 171) hx hb dX7_init_149 (by decide) (fun c => absurd c (by decide)) (fun _ => ?_)
  refine lv_aload_n hx hb dX7_init_152 rfl (lv_at hl 1 rfl) ?_
  obtain ⟨v98, ev98, hq⟩ := b_s hq
  refine fa_gr (own := RX7) (ref := "CoastlineRuler") (k := 9) hx hb hB inB_RX7 hown hI rfl (by decide) m_274 (fun _ h9 => h9) ev98 dX7_init_153 ?_
  refine lv_iload_n hx hb dX7_init_156 rfl (lv_at hl 0 rfl) ?_
  obtain ⟨f99, ef99, hq⟩ := b_s hq
  refine fa_new (own := RX7) (ci := 6) hx hb hB inB_RX3 tyX3_ok hown m_157 m_159 m_6 hI rfl (by decide +kernel) (by decide) (by decide) ef99 dX7_init_157 (fun H locs hI => ?_)
  refine lv_dup hx hb dX7_init_160 rfl ?_
  obtain ⟨v100, ev100, hq⟩ := b_s hq
  refine gw_v (g_runIN (As := []) (rest := [.ref n, .int (9 : Int32), .ref v98]) (j0 := 1) hC (c_X3_init l V g D cT f99 (n + 1) n v100 ev100) k_X3_init rfl rfl rfl ⟨Nat.le_of_ble_eq_true rfl, Nat.le_of_ble_eq_true rfl⟩ hI rfl hl.1 rfl (Nat.le_of_ble_eq_true rfl) dX7_init_161 ⟨by decide, by decide⟩) hI (fun H locs hI => ?_)
  obtain ⟨f101, ef101, hq⟩ := b_s hq
  refine fa_sq hx hb hI (by decide) (ci := 6) rfl rfl ef101 dX7_init_164 (fun H locs hI => ?_)
  refine lv_iinc (v := (10 : Int32)) (lv' := [(1, .int (10 : Int32)), (0, .ref x0)]) hx hb dX7_init_165 hl (k := 0) rfl (by decide) (by decide) rfl (fun ls hl => ?_)
  refine lv_goto (tgt := 146) hx hb dX7_init_168 (by decide) ?_
  refine lv_iload_n hx hb dX7_init_146 rfl (lv_at hl 0 rfl) ?_
  refine lv_bipush (v := (20 : Int32)) hx hb dX7_init_147 (by decide) ?_
  refine lv_icmp_ge (tgt := 171) hx hb dX7_init_149 (by decide) (fun c => absurd c (by decide)) (fun _ => ?_)
  refine lv_aload_n hx hb dX7_init_152 rfl (lv_at hl 1 rfl) ?_
  obtain ⟨v102, ev102, hq⟩ := b_s hq
  refine fa_gr (own := RX7) (ref := "CoastlineRuler") (k := 9) hx hb hB inB_RX7 hown hI rfl (by decide) m_274 (fun _ h9 => h9) ev102 dX7_init_153 ?_
  refine lv_iload_n hx hb dX7_init_156 rfl (lv_at hl 0 rfl) ?_
  obtain ⟨f103, ef103, hq⟩ := b_s hq
  refine fa_new (own := RX7) (ci := 6) hx hb hB inB_RX3 tyX3_ok hown m_157 m_159 m_6 hI rfl (by decide +kernel) (by decide) (by decide) ef103 dX7_init_157 (fun H locs hI => ?_)
  refine lv_dup hx hb dX7_init_160 rfl ?_
  obtain ⟨v104, ev104, hq⟩ := b_s hq
  refine gw_v (g_runIN (As := []) (rest := [.ref v100.2, .int (10 : Int32), .ref v102]) (j0 := 1) hC (c_X3_init l V g D cT f103 (v100.2 + 1) v100.2 v104 ev104) k_X3_init rfl rfl rfl ⟨Nat.le_of_ble_eq_true rfl, Nat.le_of_ble_eq_true rfl⟩ hI rfl hl.1 rfl (Nat.le_of_ble_eq_true rfl) dX7_init_161 ⟨by decide, by decide⟩) hI (fun H locs hI => ?_)
  obtain ⟨f105, ef105, hq⟩ := b_s hq
  refine fa_sq hx hb hI (by decide) (ci := 6) rfl rfl ef105 dX7_init_164 (fun H locs hI => ?_)
  exact sg_X7_init_12 hx hb hr hlocks hin hC x0 f105 v104.2 H locs ls hI (lv_sub hl [1, 0] rfl) hq

set_option maxHeartbeats 4000000 in
set_option maxRecDepth 100000 in
theorem sg_X7_init_10 {p : Program} {l : Launch} {e : Env} {s : State} {m : MethodId} {args : Array Value} {below : List Frame} {meth : Method} {c : Code} {V : Nat → Nat} {g : GH} {D : va_G} {cT : Nat → ClassId} {o : GH × Nat} (hx : p.tables.exec = Jvm.exec) (hb : c.code = cX7_init) (hr : meth.sig.returnType = none) (hlocks : meth.locks = false) (hin : meth.name = yX7_init.name) (hC : CallFix p m c cX7_init 2 s args g_B RX7) : ∀ (x0 : Nat) (f : GH) (n : Nat) (H : Heap) (locs : List Loc) (ls : Array Slot), g_at (g_A V) V g D cT f n s H locs → lv_has ls 2 [(0, .ref x0), (1, .int (6 : Int32))] → p_X7_init_s10 V g x0 f n = some o → W p l e rm_X7_init s m args below meth c H locs 262 31431 (MQ below (g_Wv V D cT o.1 o.2) args s 314 36774 (g_A V)) (F0 m 165 ls []) := by
  intro x0 f n H locs ls hI hl hq
  obtain ⟨_, _, hml, hown, hB⟩ := id hC
  unfold p_X7_init_s10 at hq
  refine lv_iinc (v := (7 : Int32)) (lv' := [(1, .int (7 : Int32)), (0, .ref x0)]) hx hb dX7_init_165 hl (k := 1) rfl (by decide) (by decide) rfl (fun ls hl => ?_)
  refine lv_goto (tgt := 146) hx hb dX7_init_168 (by decide) ?_
  refine lv_iload_n hx hb dX7_init_146 rfl (lv_at hl 0 rfl) ?_
  refine lv_bipush (v := (20 : Int32)) hx hb dX7_init_147 (by decide) ?_
  refine lv_icmp_ge (tgt := 171) hx hb dX7_init_149 (by decide) (fun c => absurd c (by decide)) (fun _ => ?_)
  refine lv_aload_n hx hb dX7_init_152 rfl (lv_at hl 1 rfl) ?_
  obtain ⟨v90, ev90, hq⟩ := b_s hq
  refine fa_gr (own := RX7) (ref := "CoastlineRuler") (k := 9) hx hb hB inB_RX7 hown hI rfl (by decide) m_274 (fun _ h9 => h9) ev90 dX7_init_153 ?_
  refine lv_iload_n hx hb dX7_init_156 rfl (lv_at hl 0 rfl) ?_
  obtain ⟨f91, ef91, hq⟩ := b_s hq
  refine fa_new (own := RX7) (ci := 6) hx hb hB inB_RX3 tyX3_ok hown m_157 m_159 m_6 hI rfl (by decide +kernel) (by decide) (by decide) ef91 dX7_init_157 (fun H locs hI => ?_)
  refine lv_dup hx hb dX7_init_160 rfl ?_
  obtain ⟨v92, ev92, hq⟩ := b_s hq
  refine gw_v (g_runIN (As := []) (rest := [.ref n, .int (7 : Int32), .ref v90]) (j0 := 1) hC (c_X3_init l V g D cT f91 (n + 1) n v92 ev92) k_X3_init rfl rfl rfl ⟨Nat.le_of_ble_eq_true rfl, Nat.le_of_ble_eq_true rfl⟩ hI rfl hl.1 rfl (Nat.le_of_ble_eq_true rfl) dX7_init_161 ⟨by decide, by decide⟩) hI (fun H locs hI => ?_)
  obtain ⟨f93, ef93, hq⟩ := b_s hq
  refine fa_sq hx hb hI (by decide) (ci := 6) rfl rfl ef93 dX7_init_164 (fun H locs hI => ?_)
  refine lv_iinc (v := (8 : Int32)) (lv' := [(1, .int (8 : Int32)), (0, .ref x0)]) hx hb dX7_init_165 hl (k := 0) rfl (by decide) (by decide) rfl (fun ls hl => ?_)
  refine lv_goto (tgt := 146) hx hb dX7_init_168 (by decide) ?_
  refine lv_iload_n hx hb dX7_init_146 rfl (lv_at hl 0 rfl) ?_
  refine lv_bipush (v := (20 : Int32)) hx hb dX7_init_147 (by decide) ?_
  refine lv_icmp_ge (tgt := 171) hx hb dX7_init_149 (by decide) (fun c => absurd c (by decide)) (fun _ => ?_)
  refine lv_aload_n hx hb dX7_init_152 rfl (lv_at hl 1 rfl) ?_
  obtain ⟨v94, ev94, hq⟩ := b_s hq
  refine fa_gr (own := RX7) (ref := "CoastlineRuler") (k := 9) hx hb hB inB_RX7 hown hI rfl (by decide) m_274 (fun _ h9 => h9) ev94 dX7_init_153 ?_
  refine lv_iload_n hx hb dX7_init_156 rfl (lv_at hl 0 rfl) ?_
  obtain ⟨f95, ef95, hq⟩ := b_s hq
  refine fa_new (own := RX7) (ci := 6) hx hb hB inB_RX3 tyX3_ok hown m_157 m_159 m_6 hI rfl (by decide +kernel) (by decide) (by decide) ef95 dX7_init_157 (fun H locs hI => ?_)
  refine lv_dup hx hb dX7_init_160 rfl ?_
  obtain ⟨v96, ev96, hq⟩ := b_s hq
  refine gw_v (g_runIN (As := []) (rest := [.ref v92.2, .int (8 : Int32), .ref v94]) (j0 := 1) hC (c_X3_init l V g D cT f95 (v92.2 + 1) v92.2 v96 ev96) k_X3_init rfl rfl rfl ⟨Nat.le_of_ble_eq_true rfl, Nat.le_of_ble_eq_true rfl⟩ hI rfl hl.1 rfl (Nat.le_of_ble_eq_true rfl) dX7_init_161 ⟨by decide, by decide⟩) hI (fun H locs hI => ?_)
  obtain ⟨f97, ef97, hq⟩ := b_s hq
  refine fa_sq hx hb hI (by decide) (ci := 6) rfl rfl ef97 dX7_init_164 (fun H locs hI => ?_)
  exact sg_X7_init_11 hx hb hr hlocks hin hC x0 f97 v96.2 H locs ls hI (lv_sub hl [1, 0] rfl) hq

set_option maxHeartbeats 4000000 in
set_option maxRecDepth 100000 in
theorem sg_X7_init_9 {p : Program} {l : Launch} {e : Env} {s : State} {m : MethodId} {args : Array Value} {below : List Frame} {meth : Method} {c : Code} {V : Nat → Nat} {g : GH} {D : va_G} {cT : Nat → ClassId} {o : GH × Nat} (hx : p.tables.exec = Jvm.exec) (hb : c.code = cX7_init) (hr : meth.sig.returnType = none) (hlocks : meth.locks = false) (hin : meth.name = yX7_init.name) (hC : CallFix p m c cX7_init 2 s args g_B RX7) : ∀ (x0 : Nat) (f : GH) (n : Nat) (H : Heap) (locs : List Loc) (ls : Array Slot), g_at (g_A V) V g D cT f n s H locs → lv_has ls 2 [(0, .ref x0), (1, .int (4 : Int32))] → p_X7_init_s9 V g x0 f n = some o → W p l e rm_X7_init s m args below meth c H locs 254 30609 (MQ below (g_Wv V D cT o.1 o.2) args s 314 36774 (g_A V)) (F0 m 165 ls []) := by
  intro x0 f n H locs ls hI hl hq
  obtain ⟨_, _, hml, hown, hB⟩ := id hC
  unfold p_X7_init_s9 at hq
  refine lv_iinc (v := (5 : Int32)) (lv' := [(1, .int (5 : Int32)), (0, .ref x0)]) hx hb dX7_init_165 hl (k := 1) rfl (by decide) (by decide) rfl (fun ls hl => ?_)
  refine lv_goto (tgt := 146) hx hb dX7_init_168 (by decide) ?_
  refine lv_iload_n hx hb dX7_init_146 rfl (lv_at hl 0 rfl) ?_
  refine lv_bipush (v := (20 : Int32)) hx hb dX7_init_147 (by decide) ?_
  refine lv_icmp_ge (tgt := 171) hx hb dX7_init_149 (by decide) (fun c => absurd c (by decide)) (fun _ => ?_)
  refine lv_aload_n hx hb dX7_init_152 rfl (lv_at hl 1 rfl) ?_
  obtain ⟨v82, ev82, hq⟩ := b_s hq
  refine fa_gr (own := RX7) (ref := "CoastlineRuler") (k := 9) hx hb hB inB_RX7 hown hI rfl (by decide) m_274 (fun _ h9 => h9) ev82 dX7_init_153 ?_
  refine lv_iload_n hx hb dX7_init_156 rfl (lv_at hl 0 rfl) ?_
  obtain ⟨f83, ef83, hq⟩ := b_s hq
  refine fa_new (own := RX7) (ci := 6) hx hb hB inB_RX3 tyX3_ok hown m_157 m_159 m_6 hI rfl (by decide +kernel) (by decide) (by decide) ef83 dX7_init_157 (fun H locs hI => ?_)
  refine lv_dup hx hb dX7_init_160 rfl ?_
  obtain ⟨v84, ev84, hq⟩ := b_s hq
  refine gw_v (g_runIN (As := []) (rest := [.ref n, .int (5 : Int32), .ref v82]) (j0 := 1) hC (c_X3_init l V g D cT f83 (n + 1) n v84 ev84) k_X3_init rfl rfl rfl ⟨Nat.le_of_ble_eq_true rfl, Nat.le_of_ble_eq_true rfl⟩ hI rfl hl.1 rfl (Nat.le_of_ble_eq_true rfl) dX7_init_161 ⟨by decide, by decide⟩) hI (fun H locs hI => ?_)
  obtain ⟨f85, ef85, hq⟩ := b_s hq
  refine fa_sq hx hb hI (by decide) (ci := 6) rfl rfl ef85 dX7_init_164 (fun H locs hI => ?_)
  refine lv_iinc (v := (6 : Int32)) (lv' := [(1, .int (6 : Int32)), (0, .ref x0)]) hx hb dX7_init_165 hl (k := 0) rfl (by decide) (by decide) rfl (fun ls hl => ?_)
  refine lv_goto (tgt := 146) hx hb dX7_init_168 (by decide) ?_
  refine lv_iload_n hx hb dX7_init_146 rfl (lv_at hl 0 rfl) ?_
  refine lv_bipush (v := (20 : Int32)) hx hb dX7_init_147 (by decide) ?_
  refine lv_icmp_ge (tgt := 171) hx hb dX7_init_149 (by decide) (fun c => absurd c (by decide)) (fun _ => ?_)
  refine lv_aload_n hx hb dX7_init_152 rfl (lv_at hl 1 rfl) ?_
  obtain ⟨v86, ev86, hq⟩ := b_s hq
  refine fa_gr (own := RX7) (ref := "CoastlineRuler") (k := 9) hx hb hB inB_RX7 hown hI rfl (by decide) m_274 (fun _ h9 => h9) ev86 dX7_init_153 ?_
  refine lv_iload_n hx hb dX7_init_156 rfl (lv_at hl 0 rfl) ?_
  obtain ⟨f87, ef87, hq⟩ := b_s hq
  refine fa_new (own := RX7) (ci := 6) hx hb hB inB_RX3 tyX3_ok hown m_157 m_159 m_6 hI rfl (by decide +kernel) (by decide) (by decide) ef87 dX7_init_157 (fun H locs hI => ?_)
  refine lv_dup hx hb dX7_init_160 rfl ?_
  obtain ⟨v88, ev88, hq⟩ := b_s hq
  refine gw_v (g_runIN (As := []) (rest := [.ref v84.2, .int (6 : Int32), .ref v86]) (j0 := 1) hC (c_X3_init l V g D cT f87 (v84.2 + 1) v84.2 v88 ev88) k_X3_init rfl rfl rfl ⟨Nat.le_of_ble_eq_true rfl, Nat.le_of_ble_eq_true rfl⟩ hI rfl hl.1 rfl (Nat.le_of_ble_eq_true rfl) dX7_init_161 ⟨by decide, by decide⟩) hI (fun H locs hI => ?_)
  obtain ⟨f89, ef89, hq⟩ := b_s hq
  refine fa_sq hx hb hI (by decide) (ci := 6) rfl rfl ef89 dX7_init_164 (fun H locs hI => ?_)
  exact sg_X7_init_10 hx hb hr hlocks hin hC x0 f89 v88.2 H locs ls hI (lv_sub hl [1, 0] rfl) hq

set_option maxHeartbeats 4000000 in
set_option maxRecDepth 100000 in
theorem sg_X7_init_8 {p : Program} {l : Launch} {e : Env} {s : State} {m : MethodId} {args : Array Value} {below : List Frame} {meth : Method} {c : Code} {V : Nat → Nat} {g : GH} {D : va_G} {cT : Nat → ClassId} {o : GH × Nat} (hx : p.tables.exec = Jvm.exec) (hb : c.code = cX7_init) (hr : meth.sig.returnType = none) (hlocks : meth.locks = false) (hin : meth.name = yX7_init.name) (hC : CallFix p m c cX7_init 2 s args g_B RX7) : ∀ (x0 : Nat) (f : GH) (n : Nat) (H : Heap) (locs : List Loc) (ls : Array Slot), g_at (g_A V) V g D cT f n s H locs → lv_has ls 2 [(0, .ref x0), (1, .int (2 : Int32))] → p_X7_init_s8 V g x0 f n = some o → W p l e rm_X7_init s m args below meth c H locs 246 29787 (MQ below (g_Wv V D cT o.1 o.2) args s 314 36774 (g_A V)) (F0 m 165 ls []) := by
  intro x0 f n H locs ls hI hl hq
  obtain ⟨_, _, hml, hown, hB⟩ := id hC
  unfold p_X7_init_s8 at hq
  refine lv_iinc (v := (3 : Int32)) (lv' := [(1, .int (3 : Int32)), (0, .ref x0)]) hx hb dX7_init_165 hl (k := 1) rfl (by decide) (by decide) rfl (fun ls hl => ?_)
  refine lv_goto (tgt := 146) hx hb dX7_init_168 (by decide) ?_
  refine lv_iload_n hx hb dX7_init_146 rfl (lv_at hl 0 rfl) ?_
  refine lv_bipush (v := (20 : Int32)) hx hb dX7_init_147 (by decide) ?_
  refine lv_icmp_ge (tgt := 171) hx hb dX7_init_149 (by decide) (fun c => absurd c (by decide)) (fun _ => ?_)
  refine lv_aload_n hx hb dX7_init_152 rfl (lv_at hl 1 rfl) ?_
  obtain ⟨v74, ev74, hq⟩ := b_s hq
  refine fa_gr (own := RX7) (ref := "CoastlineRuler") (k := 9) hx hb hB inB_RX7 hown hI rfl (by decide) m_274 (fun _ h9 => h9) ev74 dX7_init_153 ?_
  refine lv_iload_n hx hb dX7_init_156 rfl (lv_at hl 0 rfl) ?_
  obtain ⟨f75, ef75, hq⟩ := b_s hq
  refine fa_new (own := RX7) (ci := 6) hx hb hB inB_RX3 tyX3_ok hown m_157 m_159 m_6 hI rfl (by decide +kernel) (by decide) (by decide) ef75 dX7_init_157 (fun H locs hI => ?_)
  refine lv_dup hx hb dX7_init_160 rfl ?_
  obtain ⟨v76, ev76, hq⟩ := b_s hq
  refine gw_v (g_runIN (As := []) (rest := [.ref n, .int (3 : Int32), .ref v74]) (j0 := 1) hC (c_X3_init l V g D cT f75 (n + 1) n v76 ev76) k_X3_init rfl rfl rfl ⟨Nat.le_of_ble_eq_true rfl, Nat.le_of_ble_eq_true rfl⟩ hI rfl hl.1 rfl (Nat.le_of_ble_eq_true rfl) dX7_init_161 ⟨by decide, by decide⟩) hI (fun H locs hI => ?_)
  obtain ⟨f77, ef77, hq⟩ := b_s hq
  refine fa_sq hx hb hI (by decide) (ci := 6) rfl rfl ef77 dX7_init_164 (fun H locs hI => ?_)
  refine lv_iinc (v := (4 : Int32)) (lv' := [(1, .int (4 : Int32)), (0, .ref x0)]) hx hb dX7_init_165 hl (k := 0) rfl (by decide) (by decide) rfl (fun ls hl => ?_)
  refine lv_goto (tgt := 146) hx hb dX7_init_168 (by decide) ?_
  refine lv_iload_n hx hb dX7_init_146 rfl (lv_at hl 0 rfl) ?_
  refine lv_bipush (v := (20 : Int32)) hx hb dX7_init_147 (by decide) ?_
  refine lv_icmp_ge (tgt := 171) hx hb dX7_init_149 (by decide) (fun c => absurd c (by decide)) (fun _ => ?_)
  refine lv_aload_n hx hb dX7_init_152 rfl (lv_at hl 1 rfl) ?_
  obtain ⟨v78, ev78, hq⟩ := b_s hq
  refine fa_gr (own := RX7) (ref := "CoastlineRuler") (k := 9) hx hb hB inB_RX7 hown hI rfl (by decide) m_274 (fun _ h9 => h9) ev78 dX7_init_153 ?_
  refine lv_iload_n hx hb dX7_init_156 rfl (lv_at hl 0 rfl) ?_
  obtain ⟨f79, ef79, hq⟩ := b_s hq
  refine fa_new (own := RX7) (ci := 6) hx hb hB inB_RX3 tyX3_ok hown m_157 m_159 m_6 hI rfl (by decide +kernel) (by decide) (by decide) ef79 dX7_init_157 (fun H locs hI => ?_)
  refine lv_dup hx hb dX7_init_160 rfl ?_
  obtain ⟨v80, ev80, hq⟩ := b_s hq
  refine gw_v (g_runIN (As := []) (rest := [.ref v76.2, .int (4 : Int32), .ref v78]) (j0 := 1) hC (c_X3_init l V g D cT f79 (v76.2 + 1) v76.2 v80 ev80) k_X3_init rfl rfl rfl ⟨Nat.le_of_ble_eq_true rfl, Nat.le_of_ble_eq_true rfl⟩ hI rfl hl.1 rfl (Nat.le_of_ble_eq_true rfl) dX7_init_161 ⟨by decide, by decide⟩) hI (fun H locs hI => ?_)
  obtain ⟨f81, ef81, hq⟩ := b_s hq
  refine fa_sq hx hb hI (by decide) (ci := 6) rfl rfl ef81 dX7_init_164 (fun H locs hI => ?_)
  exact sg_X7_init_9 hx hb hr hlocks hin hC x0 f81 v80.2 H locs ls hI (lv_sub hl [1, 0] rfl) hq

set_option maxHeartbeats 4000000 in
set_option maxRecDepth 100000 in
theorem sg_X7_init_7 {p : Program} {l : Launch} {e : Env} {s : State} {m : MethodId} {args : Array Value} {below : List Frame} {meth : Method} {c : Code} {V : Nat → Nat} {g : GH} {D : va_G} {cT : Nat → ClassId} {o : GH × Nat} (hx : p.tables.exec = Jvm.exec) (hb : c.code = cX7_init) (hr : meth.sig.returnType = none) (hlocks : meth.locks = false) (hin : meth.name = yX7_init.name) (hC : CallFix p m c cX7_init 2 s args g_B RX7) : ∀ (x0 : Nat) (f : GH) (n : Nat) (H : Heap) (locs : List Loc) (ls : Array Slot), g_at (g_A V) V g D cT f n s H locs → lv_has ls 2 [(0, .ref x0), (1, .int (0 : Int32))] → p_X7_init_s7 V g x0 f n = some o → W p l e rm_X7_init s m args below meth c H locs 238 28965 (MQ below (g_Wv V D cT o.1 o.2) args s 314 36774 (g_A V)) (F0 m 165 ls []) := by
  intro x0 f n H locs ls hI hl hq
  obtain ⟨_, _, hml, hown, hB⟩ := id hC
  unfold p_X7_init_s7 at hq
  refine lv_iinc (v := (1 : Int32)) (lv' := [(1, .int (1 : Int32)), (0, .ref x0)]) hx hb dX7_init_165 hl (k := 1) rfl (by decide) (by decide) rfl (fun ls hl => ?_)
  refine lv_goto (tgt := 146) hx hb dX7_init_168 (by decide) ?_
  refine lv_iload_n hx hb dX7_init_146 rfl (lv_at hl 0 rfl) ?_
  refine lv_bipush (v := (20 : Int32)) hx hb dX7_init_147 (by decide) ?_
  refine lv_icmp_ge (tgt := 171) hx hb dX7_init_149 (by decide) (fun c => absurd c (by decide)) (fun _ => ?_)
  refine lv_aload_n hx hb dX7_init_152 rfl (lv_at hl 1 rfl) ?_
  obtain ⟨v66, ev66, hq⟩ := b_s hq
  refine fa_gr (own := RX7) (ref := "CoastlineRuler") (k := 9) hx hb hB inB_RX7 hown hI rfl (by decide) m_274 (fun _ h9 => h9) ev66 dX7_init_153 ?_
  refine lv_iload_n hx hb dX7_init_156 rfl (lv_at hl 0 rfl) ?_
  obtain ⟨f67, ef67, hq⟩ := b_s hq
  refine fa_new (own := RX7) (ci := 6) hx hb hB inB_RX3 tyX3_ok hown m_157 m_159 m_6 hI rfl (by decide +kernel) (by decide) (by decide) ef67 dX7_init_157 (fun H locs hI => ?_)
  refine lv_dup hx hb dX7_init_160 rfl ?_
  obtain ⟨v68, ev68, hq⟩ := b_s hq
  refine gw_v (g_runIN (As := []) (rest := [.ref n, .int (1 : Int32), .ref v66]) (j0 := 1) hC (c_X3_init l V g D cT f67 (n + 1) n v68 ev68) k_X3_init rfl rfl rfl ⟨Nat.le_of_ble_eq_true rfl, Nat.le_of_ble_eq_true rfl⟩ hI rfl hl.1 rfl (Nat.le_of_ble_eq_true rfl) dX7_init_161 ⟨by decide, by decide⟩) hI (fun H locs hI => ?_)
  obtain ⟨f69, ef69, hq⟩ := b_s hq
  refine fa_sq hx hb hI (by decide) (ci := 6) rfl rfl ef69 dX7_init_164 (fun H locs hI => ?_)
  refine lv_iinc (v := (2 : Int32)) (lv' := [(1, .int (2 : Int32)), (0, .ref x0)]) hx hb dX7_init_165 hl (k := 0) rfl (by decide) (by decide) rfl (fun ls hl => ?_)
  refine lv_goto (tgt := 146) hx hb dX7_init_168 (by decide) ?_
  refine lv_iload_n hx hb dX7_init_146 rfl (lv_at hl 0 rfl) ?_
  refine lv_bipush (v := (20 : Int32)) hx hb dX7_init_147 (by decide) ?_
  refine lv_icmp_ge (tgt := 171) hx hb dX7_init_149 (by decide) (fun c => absurd c (by decide)) (fun _ => ?_)
  refine lv_aload_n hx hb dX7_init_152 rfl (lv_at hl 1 rfl) ?_
  obtain ⟨v70, ev70, hq⟩ := b_s hq
  refine fa_gr (own := RX7) (ref := "CoastlineRuler") (k := 9) hx hb hB inB_RX7 hown hI rfl (by decide) m_274 (fun _ h9 => h9) ev70 dX7_init_153 ?_
  refine lv_iload_n hx hb dX7_init_156 rfl (lv_at hl 0 rfl) ?_
  obtain ⟨f71, ef71, hq⟩ := b_s hq
  refine fa_new (own := RX7) (ci := 6) hx hb hB inB_RX3 tyX3_ok hown m_157 m_159 m_6 hI rfl (by decide +kernel) (by decide) (by decide) ef71 dX7_init_157 (fun H locs hI => ?_)
  refine lv_dup hx hb dX7_init_160 rfl ?_
  obtain ⟨v72, ev72, hq⟩ := b_s hq
  refine gw_v (g_runIN (As := []) (rest := [.ref v68.2, .int (2 : Int32), .ref v70]) (j0 := 1) hC (c_X3_init l V g D cT f71 (v68.2 + 1) v68.2 v72 ev72) k_X3_init rfl rfl rfl ⟨Nat.le_of_ble_eq_true rfl, Nat.le_of_ble_eq_true rfl⟩ hI rfl hl.1 rfl (Nat.le_of_ble_eq_true rfl) dX7_init_161 ⟨by decide, by decide⟩) hI (fun H locs hI => ?_)
  obtain ⟨f73, ef73, hq⟩ := b_s hq
  refine fa_sq hx hb hI (by decide) (ci := 6) rfl rfl ef73 dX7_init_164 (fun H locs hI => ?_)
  exact sg_X7_init_8 hx hb hr hlocks hin hC x0 f73 v72.2 H locs ls hI (lv_sub hl [1, 0] rfl) hq

set_option maxHeartbeats 4000000 in
set_option maxRecDepth 100000 in
theorem sg_X7_init_6 {p : Program} {l : Launch} {e : Env} {s : State} {m : MethodId} {args : Array Value} {below : List Frame} {meth : Method} {c : Code} {V : Nat → Nat} {g : GH} {D : va_G} {cT : Nat → ClassId} {o : GH × Nat} (hx : p.tables.exec = Jvm.exec) (hb : c.code = cX7_init) (hr : meth.sig.returnType = none) (hlocks : meth.locks = false) (hin : meth.name = yX7_init.name) (hC : CallFix p m c cX7_init 2 s args g_B RX7) : ∀ (x0 : Nat) (f : GH) (n : Nat) (H : Heap) (locs : List Loc) (ls : Array Slot), g_at (g_A V) V g D cT f n s H locs → lv_has ls 2 [(0, .ref x0), (1, .int (7 : Int32))] → p_X7_init_s6 V g x0 f n = some o → W p l e rm_X7_init s m args below meth c H locs 214 26118 (MQ below (g_Wv V D cT o.1 o.2) args s 314 36774 (g_A V)) (F0 m 125 ls []) := by
  intro x0 f n H locs ls hI hl hq
  obtain ⟨_, _, hml, hown, hB⟩ := id hC
  unfold p_X7_init_s6 at hq
  refine lv_aload_n hx hb dX7_init_125 rfl (lv_at hl 0 rfl) ?_
  obtain ⟨v58, ev58, hq⟩ := b_s hq
  refine fa_gr (own := RX7) (ref := "CoastlineRuler") (k := 4) hx hb hB inB_RX7 hown hI rfl (by decide) m_269 (fun _ h9 => h9) ev58 dX7_init_126 ?_
  refine lv_iload_n hx hb dX7_init_129 rfl (lv_at hl 1 rfl) ?_
  obtain ⟨f59, ef59, hq⟩ := b_s hq
  refine fa_new (own := RX7) (ci := 4) hx hb hB inB_RX1 tyX1_ok hown m_38 m_39 m_2 hI rfl (by decide +kernel) (by decide) (by decide) ef59 dX7_init_130 (fun H locs hI => ?_)
  refine lv_dup hx hb dX7_init_133 rfl ?_
  obtain ⟨v60, ev60, hq⟩ := b_s hq
  refine gw_v (g_runI (As := []) (rest := [.ref n, .int (7 : Int32), .ref v58]) hC (c_X1_init l V g D cT f59 (n + 1) n v60 ev60) k_X1_init m_40 rfl rfl ⟨Nat.le_of_ble_eq_true rfl, Nat.le_of_ble_eq_true rfl⟩ hI rfl hl.1 rfl (Nat.le_of_ble_eq_true rfl) dX7_init_134 ⟨by decide, by decide⟩) hI (fun H locs hI => ?_)
  obtain ⟨f61, ef61, hq⟩ := b_s hq
  refine fa_sq hx hb hI (by decide) (ci := 4) rfl rfl ef61 dX7_init_137 (fun H locs hI => ?_)
  refine lv_iinc (v := (8 : Int32)) (lv' := [(1, .int (8 : Int32)), (0, .ref x0)]) hx hb dX7_init_138 hl (k := 1) rfl (by decide) (by decide) rfl (fun ls hl => ?_)
  refine lv_goto (tgt := 119) hx hb dX7_init_141 (by decide) ?_
  refine lv_iload_n hx hb dX7_init_119 rfl (lv_at hl 0 rfl) ?_
  refine lv_bipush (v := (8 : Int32)) hx hb dX7_init_120 (by decide) ?_
  refine lv_icmp_ge (tgt := 144) hx hb dX7_init_122 (by decide) (fun _ => ?_) (fun c => absurd (by decide) c)
  refine lv_iconst (v := (0 : Int32)) hx hb dX7_init_144 (by decide) ?_
  refine lv_istore_n (lv' := [(1, .int (0 : Int32)), (0, .ref x0)]) hx hb dX7_init_145 rfl hl (by decide) rfl (fun ls hl => ?_)
  refine lv_iload_n hx hb dX7_init_146 rfl (lv_at hl 0 rfl) ?_
  refine lv_bipush (v := (20 : Int32)) hx hb dX7_init_147 (by decide) ?_
  refine lv_icmp_ge (tgt := 171) hx hb dX7_init_149 (by decide) (fun c => absurd c (by decide)) (fun _ => ?_)
  refine lv_aload_n hx hb dX7_init_152 rfl (lv_at hl 1 rfl) ?_
  obtain ⟨v62, ev62, hq⟩ := b_s hq
  refine fa_gr (own := RX7) (ref := "CoastlineRuler") (k := 9) hx hb hB inB_RX7 hown hI rfl (by decide) m_274 (fun _ h9 => h9) ev62 dX7_init_153 ?_
  refine lv_iload_n hx hb dX7_init_156 rfl (lv_at hl 0 rfl) ?_
  obtain ⟨f63, ef63, hq⟩ := b_s hq
  refine fa_new (own := RX7) (ci := 6) hx hb hB inB_RX3 tyX3_ok hown m_157 m_159 m_6 hI rfl (by decide +kernel) (by decide) (by decide) ef63 dX7_init_157 (fun H locs hI => ?_)
  refine lv_dup hx hb dX7_init_160 rfl ?_
  obtain ⟨v64, ev64, hq⟩ := b_s hq
  refine gw_v (g_runIN (As := []) (rest := [.ref v60.2, .int (0 : Int32), .ref v62]) (j0 := 1) hC (c_X3_init l V g D cT f63 (v60.2 + 1) v60.2 v64 ev64) k_X3_init rfl rfl rfl ⟨Nat.le_of_ble_eq_true rfl, Nat.le_of_ble_eq_true rfl⟩ hI rfl hl.1 rfl (Nat.le_of_ble_eq_true rfl) dX7_init_161 ⟨by decide, by decide⟩) hI (fun H locs hI => ?_)
  obtain ⟨f65, ef65, hq⟩ := b_s hq
  refine fa_sq hx hb hI (by decide) (ci := 6) rfl rfl ef65 dX7_init_164 (fun H locs hI => ?_)
  exact sg_X7_init_7 hx hb hr hlocks hin hC x0 f65 v64.2 H locs ls hI (lv_sub hl [1, 0] rfl) hq

set_option maxHeartbeats 4000000 in
set_option maxRecDepth 100000 in
theorem sg_X7_init_5 {p : Program} {l : Launch} {e : Env} {s : State} {m : MethodId} {args : Array Value} {below : List Frame} {meth : Method} {c : Code} {V : Nat → Nat} {g : GH} {D : va_G} {cT : Nat → ClassId} {o : GH × Nat} (hx : p.tables.exec = Jvm.exec) (hb : c.code = cX7_init) (hr : meth.sig.returnType = none) (hlocks : meth.locks = false) (hin : meth.name = yX7_init.name) (hC : CallFix p m c cX7_init 2 s args g_B RX7) : ∀ (x0 : Nat) (f : GH) (n : Nat) (H : Heap) (locs : List Loc) (ls : Array Slot), g_at (g_A V) V g D cT f n s H locs → lv_has ls 2 [(0, .ref x0), (1, .int (5 : Int32))] → p_X7_init_s5 V g x0 f n = some o → W p l e rm_X7_init s m args below meth c H locs 174 21246 (MQ below (g_Wv V D cT o.1 o.2) args s 314 36774 (g_A V)) (F0 m 125 ls []) := by
  intro x0 f n H locs ls hI hl hq
  obtain ⟨_, _, hml, hown, hB⟩ := id hC
  unfold p_X7_init_s5 at hq
  refine lv_aload_n hx hb dX7_init_125 rfl (lv_at hl 0 rfl) ?_
  obtain ⟨v50, ev50, hq⟩ := b_s hq
  refine fa_gr (own := RX7) (ref := "CoastlineRuler") (k := 4) hx hb hB inB_RX7 hown hI rfl (by decide) m_269 (fun _ h9 => h9) ev50 dX7_init_126 ?_
  refine lv_iload_n hx hb dX7_init_129 rfl (lv_at hl 1 rfl) ?_
  obtain ⟨f51, ef51, hq⟩ := b_s hq
  refine fa_new (own := RX7) (ci := 4) hx hb hB inB_RX1 tyX1_ok hown m_38 m_39 m_2 hI rfl (by decide +kernel) (by decide) (by decide) ef51 dX7_init_130 (fun H locs hI => ?_)
  refine lv_dup hx hb dX7_init_133 rfl ?_
  obtain ⟨v52, ev52, hq⟩ := b_s hq
  refine gw_v (g_runI (As := []) (rest := [.ref n, .int (5 : Int32), .ref v50]) hC (c_X1_init l V g D cT f51 (n + 1) n v52 ev52) k_X1_init m_40 rfl rfl ⟨Nat.le_of_ble_eq_true rfl, Nat.le_of_ble_eq_true rfl⟩ hI rfl hl.1 rfl (Nat.le_of_ble_eq_true rfl) dX7_init_134 ⟨by decide, by decide⟩) hI (fun H locs hI => ?_)
  obtain ⟨f53, ef53, hq⟩ := b_s hq
  refine fa_sq hx hb hI (by decide) (ci := 4) rfl rfl ef53 dX7_init_137 (fun H locs hI => ?_)
  refine lv_iinc (v := (6 : Int32)) (lv' := [(1, .int (6 : Int32)), (0, .ref x0)]) hx hb dX7_init_138 hl (k := 1) rfl (by decide) (by decide) rfl (fun ls hl => ?_)
  refine lv_goto (tgt := 119) hx hb dX7_init_141 (by decide) ?_
  refine lv_iload_n hx hb dX7_init_119 rfl (lv_at hl 0 rfl) ?_
  refine lv_bipush (v := (8 : Int32)) hx hb dX7_init_120 (by decide) ?_
  refine lv_icmp_ge (tgt := 144) hx hb dX7_init_122 (by decide) (fun c => absurd c (by decide)) (fun _ => ?_)
  refine lv_aload_n hx hb dX7_init_125 rfl (lv_at hl 1 rfl) ?_
  obtain ⟨v54, ev54, hq⟩ := b_s hq
  refine fa_gr (own := RX7) (ref := "CoastlineRuler") (k := 4) hx hb hB inB_RX7 hown hI rfl (by decide) m_269 (fun _ h9 => h9) ev54 dX7_init_126 ?_
  refine lv_iload_n hx hb dX7_init_129 rfl (lv_at hl 0 rfl) ?_
  obtain ⟨f55, ef55, hq⟩ := b_s hq
  refine fa_new (own := RX7) (ci := 4) hx hb hB inB_RX1 tyX1_ok hown m_38 m_39 m_2 hI rfl (by decide +kernel) (by decide) (by decide) ef55 dX7_init_130 (fun H locs hI => ?_)
  refine lv_dup hx hb dX7_init_133 rfl ?_
  obtain ⟨v56, ev56, hq⟩ := b_s hq
  refine gw_v (g_runI (As := []) (rest := [.ref v52.2, .int (6 : Int32), .ref v54]) hC (c_X1_init l V g D cT f55 (v52.2 + 1) v52.2 v56 ev56) k_X1_init m_40 rfl rfl ⟨Nat.le_of_ble_eq_true rfl, Nat.le_of_ble_eq_true rfl⟩ hI rfl hl.1 rfl (Nat.le_of_ble_eq_true rfl) dX7_init_134 ⟨by decide, by decide⟩) hI (fun H locs hI => ?_)
  obtain ⟨f57, ef57, hq⟩ := b_s hq
  refine fa_sq hx hb hI (by decide) (ci := 4) rfl rfl ef57 dX7_init_137 (fun H locs hI => ?_)
  refine lv_iinc (v := (7 : Int32)) (lv' := [(1, .int (7 : Int32)), (0, .ref x0)]) hx hb dX7_init_138 hl (k := 0) rfl (by decide) (by decide) rfl (fun ls hl => ?_)
  refine lv_goto (tgt := 119) hx hb dX7_init_141 (by decide) ?_
  refine lv_iload_n hx hb dX7_init_119 rfl (lv_at hl 0 rfl) ?_
  refine lv_bipush (v := (8 : Int32)) hx hb dX7_init_120 (by decide) ?_
  refine lv_icmp_ge (tgt := 144) hx hb dX7_init_122 (by decide) (fun c => absurd c (by decide)) (fun _ => ?_)
  exact sg_X7_init_6 hx hb hr hlocks hin hC x0 f57 v56.2 H locs ls hI (lv_sub hl [1, 0] rfl) hq

set_option maxHeartbeats 4000000 in
set_option maxRecDepth 100000 in
theorem sg_X7_init_4 {p : Program} {l : Launch} {e : Env} {s : State} {m : MethodId} {args : Array Value} {below : List Frame} {meth : Method} {c : Code} {V : Nat → Nat} {g : GH} {D : va_G} {cT : Nat → ClassId} {o : GH × Nat} (hx : p.tables.exec = Jvm.exec) (hb : c.code = cX7_init) (hr : meth.sig.returnType = none) (hlocks : meth.locks = false) (hin : meth.name = yX7_init.name) (hC : CallFix p m c cX7_init 2 s args g_B RX7) : ∀ (x0 : Nat) (f : GH) (n : Nat) (H : Heap) (locs : List Loc) (ls : Array Slot), g_at (g_A V) V g D cT f n s H locs → lv_has ls 2 [(0, .ref x0), (1, .int (3 : Int32))] → p_X7_init_s4 V g x0 f n = some o → W p l e rm_X7_init s m args below meth c H locs 134 16374 (MQ below (g_Wv V D cT o.1 o.2) args s 314 36774 (g_A V)) (F0 m 125 ls []) := by
  intro x0 f n H locs ls hI hl hq
  obtain ⟨_, _, hml, hown, hB⟩ := id hC
  unfold p_X7_init_s4 at hq
  refine lv_aload_n hx hb dX7_init_125 rfl (lv_at hl 0 rfl) ?_
  obtain ⟨v42, ev42, hq⟩ := b_s hq
  refine fa_gr (own := RX7) (ref := "CoastlineRuler") (k := 4) hx hb hB inB_RX7 hown hI rfl (by decide) m_269 (fun _ h9 => h9) ev42 dX7_init_126 ?_
  refine lv_iload_n hx hb dX7_init_129 rfl (lv_at hl 1 rfl) ?_
  obtain ⟨f43, ef43, hq⟩ := b_s hq
  refine fa_new (own := RX7) (ci := 4) hx hb hB inB_RX1 tyX1_ok hown m_38 m_39 m_2 hI rfl (by decide +kernel) (by decide) (by decide) ef43 dX7_init_130 (fun H locs hI => ?_)
  refine lv_dup hx hb dX7_init_133 rfl ?_
  obtain ⟨v44, ev44, hq⟩ := b_s hq
  refine gw_v (g_runI (As := []) (rest := [.ref n, .int (3 : Int32), .ref v42]) hC (c_X1_init l V g D cT f43 (n + 1) n v44 ev44) k_X1_init m_40 rfl rfl ⟨Nat.le_of_ble_eq_true rfl, Nat.le_of_ble_eq_true rfl⟩ hI rfl hl.1 rfl (Nat.le_of_ble_eq_true rfl) dX7_init_134 ⟨by decide, by decide⟩) hI (fun H locs hI => ?_)
  obtain ⟨f45, ef45, hq⟩ := b_s hq
  refine fa_sq hx hb hI (by decide) (ci := 4) rfl rfl ef45 dX7_init_137 (fun H locs hI => ?_)
  refine lv_iinc (v := (4 : Int32)) (lv' := [(1, .int (4 : Int32)), (0, .ref x0)]) hx hb dX7_init_138 hl (k := 1) rfl (by decide) (by decide) rfl (fun ls hl => ?_)
  refine lv_goto (tgt := 119) hx hb dX7_init_141 (by decide) ?_
  refine lv_iload_n hx hb dX7_init_119 rfl (lv_at hl 0 rfl) ?_
  refine lv_bipush (v := (8 : Int32)) hx hb dX7_init_120 (by decide) ?_
  refine lv_icmp_ge (tgt := 144) hx hb dX7_init_122 (by decide) (fun c => absurd c (by decide)) (fun _ => ?_)
  refine lv_aload_n hx hb dX7_init_125 rfl (lv_at hl 1 rfl) ?_
  obtain ⟨v46, ev46, hq⟩ := b_s hq
  refine fa_gr (own := RX7) (ref := "CoastlineRuler") (k := 4) hx hb hB inB_RX7 hown hI rfl (by decide) m_269 (fun _ h9 => h9) ev46 dX7_init_126 ?_
  refine lv_iload_n hx hb dX7_init_129 rfl (lv_at hl 0 rfl) ?_
  obtain ⟨f47, ef47, hq⟩ := b_s hq
  refine fa_new (own := RX7) (ci := 4) hx hb hB inB_RX1 tyX1_ok hown m_38 m_39 m_2 hI rfl (by decide +kernel) (by decide) (by decide) ef47 dX7_init_130 (fun H locs hI => ?_)
  refine lv_dup hx hb dX7_init_133 rfl ?_
  obtain ⟨v48, ev48, hq⟩ := b_s hq
  refine gw_v (g_runI (As := []) (rest := [.ref v44.2, .int (4 : Int32), .ref v46]) hC (c_X1_init l V g D cT f47 (v44.2 + 1) v44.2 v48 ev48) k_X1_init m_40 rfl rfl ⟨Nat.le_of_ble_eq_true rfl, Nat.le_of_ble_eq_true rfl⟩ hI rfl hl.1 rfl (Nat.le_of_ble_eq_true rfl) dX7_init_134 ⟨by decide, by decide⟩) hI (fun H locs hI => ?_)
  obtain ⟨f49, ef49, hq⟩ := b_s hq
  refine fa_sq hx hb hI (by decide) (ci := 4) rfl rfl ef49 dX7_init_137 (fun H locs hI => ?_)
  refine lv_iinc (v := (5 : Int32)) (lv' := [(1, .int (5 : Int32)), (0, .ref x0)]) hx hb dX7_init_138 hl (k := 0) rfl (by decide) (by decide) rfl (fun ls hl => ?_)
  refine lv_goto (tgt := 119) hx hb dX7_init_141 (by decide) ?_
  refine lv_iload_n hx hb dX7_init_119 rfl (lv_at hl 0 rfl) ?_
  refine lv_bipush (v := (8 : Int32)) hx hb dX7_init_120 (by decide) ?_
  refine lv_icmp_ge (tgt := 144) hx hb dX7_init_122 (by decide) (fun c => absurd c (by decide)) (fun _ => ?_)
  exact sg_X7_init_5 hx hb hr hlocks hin hC x0 f49 v48.2 H locs ls hI (lv_sub hl [1, 0] rfl) hq

set_option maxHeartbeats 4000000 in
set_option maxRecDepth 100000 in
theorem sg_X7_init_3 {p : Program} {l : Launch} {e : Env} {s : State} {m : MethodId} {args : Array Value} {below : List Frame} {meth : Method} {c : Code} {V : Nat → Nat} {g : GH} {D : va_G} {cT : Nat → ClassId} {o : GH × Nat} (hx : p.tables.exec = Jvm.exec) (hb : c.code = cX7_init) (hr : meth.sig.returnType = none) (hlocks : meth.locks = false) (hin : meth.name = yX7_init.name) (hC : CallFix p m c cX7_init 2 s args g_B RX7) : ∀ (x0 : Nat) (f : GH) (n : Nat) (H : Heap) (locs : List Loc) (ls : Array Slot), g_at (g_A V) V g D cT f n s H locs → lv_has ls 2 [(0, .ref x0), (1, .int (1 : Int32))] → p_X7_init_s3 V g x0 f n = some o → W p l e rm_X7_init s m args below meth c H locs 94 11502 (MQ below (g_Wv V D cT o.1 o.2) args s 314 36774 (g_A V)) (F0 m 125 ls []) := by
  intro x0 f n H locs ls hI hl hq
  obtain ⟨_, _, hml, hown, hB⟩ := id hC
  unfold p_X7_init_s3 at hq
  refine lv_aload_n hx hb dX7_init_125 rfl (lv_at hl 0 rfl) ?_
  obtain ⟨v34, ev34, hq⟩ := b_s hq
  refine fa_gr (own := RX7) (ref := "CoastlineRuler") (k := 4) hx hb hB inB_RX7 hown hI rfl (by decide) m_269 (fun _ h9 => h9) ev34 dX7_init_126 ?_
  refine lv_iload_n hx hb dX7_init_129 rfl (lv_at hl 1 rfl) ?_
  obtain ⟨f35, ef35, hq⟩ := b_s hq
  refine fa_new (own := RX7) (ci := 4) hx hb hB inB_RX1 tyX1_ok hown m_38 m_39 m_2 hI rfl (by decide +kernel) (by decide) (by decide) ef35 dX7_init_130 (fun H locs hI => ?_)
  refine lv_dup hx hb dX7_init_133 rfl ?_
  obtain ⟨v36, ev36, hq⟩ := b_s hq
  refine gw_v (g_runI (As := []) (rest := [.ref n, .int (1 : Int32), .ref v34]) hC (c_X1_init l V g D cT f35 (n + 1) n v36 ev36) k_X1_init m_40 rfl rfl ⟨Nat.le_of_ble_eq_true rfl, Nat.le_of_ble_eq_true rfl⟩ hI rfl hl.1 rfl (Nat.le_of_ble_eq_true rfl) dX7_init_134 ⟨by decide, by decide⟩) hI (fun H locs hI => ?_)
  obtain ⟨f37, ef37, hq⟩ := b_s hq
  refine fa_sq hx hb hI (by decide) (ci := 4) rfl rfl ef37 dX7_init_137 (fun H locs hI => ?_)
  refine lv_iinc (v := (2 : Int32)) (lv' := [(1, .int (2 : Int32)), (0, .ref x0)]) hx hb dX7_init_138 hl (k := 1) rfl (by decide) (by decide) rfl (fun ls hl => ?_)
  refine lv_goto (tgt := 119) hx hb dX7_init_141 (by decide) ?_
  refine lv_iload_n hx hb dX7_init_119 rfl (lv_at hl 0 rfl) ?_
  refine lv_bipush (v := (8 : Int32)) hx hb dX7_init_120 (by decide) ?_
  refine lv_icmp_ge (tgt := 144) hx hb dX7_init_122 (by decide) (fun c => absurd c (by decide)) (fun _ => ?_)
  refine lv_aload_n hx hb dX7_init_125 rfl (lv_at hl 1 rfl) ?_
  obtain ⟨v38, ev38, hq⟩ := b_s hq
  refine fa_gr (own := RX7) (ref := "CoastlineRuler") (k := 4) hx hb hB inB_RX7 hown hI rfl (by decide) m_269 (fun _ h9 => h9) ev38 dX7_init_126 ?_
  refine lv_iload_n hx hb dX7_init_129 rfl (lv_at hl 0 rfl) ?_
  obtain ⟨f39, ef39, hq⟩ := b_s hq
  refine fa_new (own := RX7) (ci := 4) hx hb hB inB_RX1 tyX1_ok hown m_38 m_39 m_2 hI rfl (by decide +kernel) (by decide) (by decide) ef39 dX7_init_130 (fun H locs hI => ?_)
  refine lv_dup hx hb dX7_init_133 rfl ?_
  obtain ⟨v40, ev40, hq⟩ := b_s hq
  refine gw_v (g_runI (As := []) (rest := [.ref v36.2, .int (2 : Int32), .ref v38]) hC (c_X1_init l V g D cT f39 (v36.2 + 1) v36.2 v40 ev40) k_X1_init m_40 rfl rfl ⟨Nat.le_of_ble_eq_true rfl, Nat.le_of_ble_eq_true rfl⟩ hI rfl hl.1 rfl (Nat.le_of_ble_eq_true rfl) dX7_init_134 ⟨by decide, by decide⟩) hI (fun H locs hI => ?_)
  obtain ⟨f41, ef41, hq⟩ := b_s hq
  refine fa_sq hx hb hI (by decide) (ci := 4) rfl rfl ef41 dX7_init_137 (fun H locs hI => ?_)
  refine lv_iinc (v := (3 : Int32)) (lv' := [(1, .int (3 : Int32)), (0, .ref x0)]) hx hb dX7_init_138 hl (k := 0) rfl (by decide) (by decide) rfl (fun ls hl => ?_)
  refine lv_goto (tgt := 119) hx hb dX7_init_141 (by decide) ?_
  refine lv_iload_n hx hb dX7_init_119 rfl (lv_at hl 0 rfl) ?_
  refine lv_bipush (v := (8 : Int32)) hx hb dX7_init_120 (by decide) ?_
  refine lv_icmp_ge (tgt := 144) hx hb dX7_init_122 (by decide) (fun c => absurd c (by decide)) (fun _ => ?_)
  exact sg_X7_init_4 hx hb hr hlocks hin hC x0 f41 v40.2 H locs ls hI (lv_sub hl [1, 0] rfl) hq

set_option maxHeartbeats 4000000 in
set_option maxRecDepth 100000 in
theorem sg_X7_init_2 {p : Program} {l : Launch} {e : Env} {s : State} {m : MethodId} {args : Array Value} {below : List Frame} {meth : Method} {c : Code} {V : Nat → Nat} {g : GH} {D : va_G} {cT : Nat → ClassId} {o : GH × Nat} (hx : p.tables.exec = Jvm.exec) (hb : c.code = cX7_init) (hr : meth.sig.returnType = none) (hlocks : meth.locks = false) (hin : meth.name = yX7_init.name) (hC : CallFix p m c cX7_init 2 s args g_B RX7) : ∀ (x0 : Nat) (f : GH) (n : Nat) (H : Heap) (locs : List Loc) (ls : Array Slot), g_at (g_A V) V g D cT f n s H locs → lv_has ls 2 [(0, .ref x0)] → p_X7_init_s2 V g x0 f n = some o → W p l e rm_X7_init s m args below meth c H locs 72 8862 (MQ below (g_Wv V D cT o.1 o.2) args s 314 36774 (g_A V)) (F0 m 106 ls []) := by
  intro x0 f n H locs ls hI hl hq
  obtain ⟨_, _, hml, hown, hB⟩ := id hC
  unfold p_X7_init_s2 at hq
  refine lv_aload_n hx hb dX7_init_106 rfl (lv_at hl 0 rfl) ?_
  obtain ⟨f27, ef27, hq⟩ := b_s hq
  refine fa_new (own := RX7) (ci := 1) hx hb hB inB_RJ4 tyJ4_ok hown m_208 m_209 m_10 hI rfl (by decide +kernel) (by decide) (by decide) ef27 dX7_init_107 (fun H locs hI => ?_)
  refine lv_dup hx hb dX7_init_110 rfl ?_
  obtain ⟨v28, ev28, hq⟩ := b_s hq
  refine gw_v (g_runI (As := []) (rest := [.ref n, .ref x0]) hC (c_J4_init_da8c8 l V g D cT f27 (n + 1) n v28 ev28) k_J4_init_da8c8 m_210 rfl rfl ⟨Nat.le_of_ble_eq_true rfl, Nat.le_of_ble_eq_true rfl⟩ hI rfl hl.1 rfl (Nat.le_of_ble_eq_true rfl) dX7_init_111 ⟨by decide, by decide⟩) hI (fun H locs hI => ?_)
  obtain ⟨f29, ef29, hq⟩ := b_s hq
  refine fa_ptF (own := RX7) (ref := "CoastlineRuler") (k := 12) hx hb hB inB_RX7 tyX7_ok nmX7 hown hI rfl (by decide) m_277 (fun _ h9 => h9) (by decide) hin (by decide) rfl rfl ef29 dX7_init_114 (fun H locs hI => ?_)
  refine lv_iconst (v := (0 : Int32)) hx hb dX7_init_117 (by decide) ?_
  refine lv_istore_n (lv' := [(1, .int (0 : Int32)), (0, .ref x0)]) hx hb dX7_init_118 rfl hl (by decide) rfl (fun ls hl => ?_)
  refine lv_iload_n hx hb dX7_init_119 rfl (lv_at hl 0 rfl) ?_
  refine lv_bipush (v := (8 : Int32)) hx hb dX7_init_120 (by decide) ?_
  refine lv_icmp_ge (tgt := 144) hx hb dX7_init_122 (by decide) (fun c => absurd c (by decide)) (fun _ => ?_)
  refine lv_aload_n hx hb dX7_init_125 rfl (lv_at hl 1 rfl) ?_
  obtain ⟨v30, ev30, hq⟩ := b_s hq
  refine fa_gr (own := RX7) (ref := "CoastlineRuler") (k := 4) hx hb hB inB_RX7 hown hI rfl (by decide) m_269 (fun _ h9 => h9) ev30 dX7_init_126 ?_
  refine lv_iload_n hx hb dX7_init_129 rfl (lv_at hl 0 rfl) ?_
  obtain ⟨f31, ef31, hq⟩ := b_s hq
  refine fa_new (own := RX7) (ci := 4) hx hb hB inB_RX1 tyX1_ok hown m_38 m_39 m_2 hI rfl (by decide +kernel) (by decide) (by decide) ef31 dX7_init_130 (fun H locs hI => ?_)
  refine lv_dup hx hb dX7_init_133 rfl ?_
  obtain ⟨v32, ev32, hq⟩ := b_s hq
  refine gw_v (g_runI (As := []) (rest := [.ref v28.2, .int (0 : Int32), .ref v30]) hC (c_X1_init l V g D cT f31 (v28.2 + 1) v28.2 v32 ev32) k_X1_init m_40 rfl rfl ⟨Nat.le_of_ble_eq_true rfl, Nat.le_of_ble_eq_true rfl⟩ hI rfl hl.1 rfl (Nat.le_of_ble_eq_true rfl) dX7_init_134 ⟨by decide, by decide⟩) hI (fun H locs hI => ?_)
  obtain ⟨f33, ef33, hq⟩ := b_s hq
  refine fa_sq hx hb hI (by decide) (ci := 4) rfl rfl ef33 dX7_init_137 (fun H locs hI => ?_)
  refine lv_iinc (v := (1 : Int32)) (lv' := [(1, .int (1 : Int32)), (0, .ref x0)]) hx hb dX7_init_138 hl (k := 0) rfl (by decide) (by decide) rfl (fun ls hl => ?_)
  refine lv_goto (tgt := 119) hx hb dX7_init_141 (by decide) ?_
  refine lv_iload_n hx hb dX7_init_119 rfl (lv_at hl 0 rfl) ?_
  refine lv_bipush (v := (8 : Int32)) hx hb dX7_init_120 (by decide) ?_
  refine lv_icmp_ge (tgt := 144) hx hb dX7_init_122 (by decide) (fun c => absurd c (by decide)) (fun _ => ?_)
  exact sg_X7_init_3 hx hb hr hlocks hin hC x0 f33 v32.2 H locs ls hI (lv_sub hl [1, 0] rfl) hq

set_option maxHeartbeats 4000000 in
set_option maxRecDepth 100000 in
theorem sg_X7_init_1 {p : Program} {l : Launch} {e : Env} {s : State} {m : MethodId} {args : Array Value} {below : List Frame} {meth : Method} {c : Code} {V : Nat → Nat} {g : GH} {D : va_G} {cT : Nat → ClassId} {o : GH × Nat} (hx : p.tables.exec = Jvm.exec) (hb : c.code = cX7_init) (hr : meth.sig.returnType = none) (hlocks : meth.locks = false) (hin : meth.name = yX7_init.name) (hC : CallFix p m c cX7_init 2 s args g_B RX7) : ∀ (x0 : Nat) (f : GH) (n : Nat) (H : Heap) (locs : List Loc) (ls : Array Slot), g_at (g_A V) V g D cT f n s H locs → lv_has ls 2 [(0, .ref x0)] → p_X7_init_s1 V g x0 f n = some o → W p l e rm_X7_init s m args below meth c H locs 63 8022 (MQ below (g_Wv V D cT o.1 o.2) args s 314 36774 (g_A V)) (F0 m 57 ls []) := by
  intro x0 f n H locs ls hI hl hq
  obtain ⟨_, _, hml, hown, hB⟩ := id hC
  unfold p_X7_init_s1 at hq
  refine lv_aload_n hx hb dX7_init_57 rfl (lv_at hl 0 rfl) ?_
  obtain ⟨f15, ef15, hq⟩ := b_s hq
  refine fa_new (own := RX7) (ci := 7) hx hb hB inB_RX4 tyX4_ok hown m_133 m_134 m_5 hI rfl (by decide +kernel) (by decide) (by decide) ef15 dX7_init_58 (fun H locs hI => ?_)
  refine lv_dup hx hb dX7_init_61 rfl ?_
  refine lv_aload_n hx hb dX7_init_62 rfl (lv_at hl 0 rfl) ?_
  obtain ⟨v16, ev16, hq⟩ := b_s hq
  refine fa_gr (own := RX7) (ref := "CoastlineRuler") (k := 7) hx hb hB inB_RX7 hown hI rfl (by decide) m_272 (fun _ h9 => h9) ev16 dX7_init_63 ?_
  obtain ⟨v17, ev17, hq⟩ := b_s hq
  refine gw_v (g_runI (As := [.ref v16]) (rest := [.ref n, .ref x0]) hC (c_X4_init l V g D cT f15 (n + 1) n v16 v17 ev17) k_X4_init m_135 rfl rfl ⟨Nat.le_of_ble_eq_true rfl, Nat.le_of_ble_eq_true rfl⟩ hI rfl hl.1 rfl (Nat.le_of_ble_eq_true rfl) dX7_init_66 ⟨by decide, by decide⟩) hI (fun H locs hI => ?_)
  obtain ⟨f18, ef18, hq⟩ := b_s hq
  refine fa_ptF (own := RX7) (ref := "CoastlineRuler") (k := 8) hx hb hB inB_RX7 tyX7_ok nmX7 hown hI rfl (by decide) m_273 (fun _ h9 => h9) (by decide) hin (by decide) rfl rfl ef18 dX7_init_69 (fun H locs hI => ?_)
  refine lv_aload_n hx hb dX7_init_72 rfl (lv_at hl 0 rfl) ?_
  refine lv_bipush (v := (20 : Int32)) hx hb dX7_init_73 (by decide) ?_
  obtain ⟨f19, ef19, hq⟩ := b_s hq
  refine fa_newq (N := 20) (t := 6) (own := RX7) hx hb hown (hB _ m_157) (g_aox hI (i := 2) rfl) (by decide) rfl hI (by decide) (by decide +kernel) (by decide +kernel) (by decide) (by decide) ef19 dX7_init_75 (fun H locs hI => ?_)
  obtain ⟨f20, ef20, hq⟩ := b_s hq
  refine fa_ptF (own := RX7) (ref := "CoastlineRuler") (k := 9) hx hb hB inB_RX7 tyX7_ok nmX7 hown hI rfl (by decide) m_274 (fun _ h9 => h9) (by decide) hin (by decide) rfl rfl ef20 dX7_init_78 (fun H locs hI => ?_)
  refine lv_aload_n hx hb dX7_init_81 rfl (lv_at hl 0 rfl) ?_
  obtain ⟨f21, ef21, hq⟩ := b_s hq
  refine fa_new (own := RX7) (ci := 6) hx hb hB inB_RX3 tyX3_ok hown m_157 m_159 m_6 hI rfl (by decide +kernel) (by decide) (by decide) ef21 dX7_init_82 (fun H locs hI => ?_)
  refine lv_dup hx hb dX7_init_85 rfl ?_
  obtain ⟨v22, ev22, hq⟩ := b_s hq
  refine gw_v (g_runIN (As := []) (rest := [.ref (n + 2), .ref x0]) (j0 := 1) hC (c_X3_init l V g D cT f21 (n + 3) (n + 2) v22 ev22) k_X3_init rfl rfl rfl ⟨Nat.le_of_ble_eq_true rfl, Nat.le_of_ble_eq_true rfl⟩ hI rfl hl.1 rfl (Nat.le_of_ble_eq_true rfl) dX7_init_86 ⟨by decide, by decide⟩) hI (fun H locs hI => ?_)
  obtain ⟨f23, ef23, hq⟩ := b_s hq
  refine fa_ptF (own := RX7) (ref := "CoastlineRuler") (k := 10) hx hb hB inB_RX7 tyX7_ok nmX7 hown hI rfl (by decide) m_275 (fun _ h9 => h9) (by decide) hin (by decide) rfl rfl ef23 dX7_init_89 (fun H locs hI => ?_)
  refine lv_aload_n hx hb dX7_init_92 rfl (lv_at hl 0 rfl) ?_
  obtain ⟨f24, ef24, hq⟩ := b_s hq
  refine fa_new (own := RX7) (ci := 5) hx hb hB inB_RX2 tyX2_ok hown m_206 m_46 m_3 hI rfl (by decide +kernel) (by decide) (by decide) ef24 dX7_init_93 (fun H locs hI => ?_)
  refine lv_dup hx hb dX7_init_96 rfl ?_
  refine lv_sipush (v := (129 : Int32)) hx hb dX7_init_97 (by decide) ?_
  obtain ⟨v25, ev25, hq⟩ := b_s hq
  refine gw_v (g_runI (As := [.int (129 : Int32)]) (rest := [.ref v22.2, .ref x0]) hC (c_X2_init l V g D cT f24 (v22.2 + 1) v22.2 (129 : Int32) v25 ev25) k_X2_init m_207 rfl rfl ⟨Nat.le_of_ble_eq_true rfl, Nat.le_of_ble_eq_true rfl⟩ hI rfl hl.1 rfl (Nat.le_of_ble_eq_true rfl) dX7_init_100 ⟨by decide, by decide⟩) hI (fun H locs hI => ?_)
  obtain ⟨f26, ef26, hq⟩ := b_s hq
  refine fa_ptF (own := RX7) (ref := "CoastlineRuler") (k := 11) hx hb hB inB_RX7 tyX7_ok nmX7 hown hI rfl (by decide) m_276 (fun _ h9 => h9) (by decide) hin (by decide) rfl rfl ef26 dX7_init_103 (fun H locs hI => ?_)
  exact sg_X7_init_2 hx hb hr hlocks hin hC x0 f26 v25.2 H locs ls hI (lv_sub hl [0] rfl) hq

set_option maxHeartbeats 4000000 in
set_option maxRecDepth 100000 in
theorem c_X7_init (l : Launch) (V : Nat → Nat) (g : GH) (D : va_G) (cT : Nat → ClassId) (f : GH) (n : Nat) (a0 : Nat) (o : GH × Nat) (hq : p_X7_init V g f n a0 = some o) : Met l yX7_init (Cond.code yX7_init cX7_init 2 none :: g_B) rm_X7_init (va_Pc [.ref a0] (g_I V g D cT f n)) (g_Wv V D cT o.1 o.2) 314 36774 (g_A V) := by
  refine g_begin (own := RX7) [.ref a0] [(0, .ref a0)] (g_A V) (fun _ h => h) (by decide) rfl (Nat.le_of_ble_eq_true rfl) rfl ?_
  intro p e s m args below meth c hx hb hr hlocks hin hC hI ls hl
  obtain ⟨hx, hb, hml, hown, hB⟩ := id hC
  obtain ⟨H, hH⟩ : ∃ H, H = s.heap := ⟨_, rfl⟩
  obtain ⟨locs, hlocs⟩ : ∃ L : List Loc, L = [] := ⟨_, rfl⟩
  rw [← hH, ← hlocs] at hI ⊢
  clear hH hlocs
  unfold p_X7_init at hq
  replace hq := (h_me_eq hq).2
  refine lv_aload_n hx hb dX7_init_0 rfl (lv_at hl 0 rfl) ?_
  refine W.objInit hx hb hown (hB _ m_35) (hB _ m_36) (hB _ m_37) rfl (by rw [hml]; exact hl.1) rfl dX7_init_1 (Nat.le_of_ble_eq_true rfl) (Nat.le_of_ble_eq_true rfl) ?_
  refine W.eq (g2 := F0 m 4 ls []) rfl ?_
  refine lv_aload_n hx hb dX7_init_4 rfl (lv_at hl 0 rfl) ?_
  obtain ⟨f1, ef1, hq⟩ := b_s hq
  refine fa_new (own := RX7) (ci := 4) hx hb hB inB_RX1 tyX1_ok hown m_38 m_39 m_2 hI rfl (by decide +kernel) (by decide) (by decide) ef1 dX7_init_5 (fun H locs hI => ?_)
  refine lv_dup hx hb dX7_init_8 rfl ?_
  obtain ⟨v2, ev2, hq⟩ := b_s hq
  refine gw_v (g_runI (As := []) (rest := [.ref n, .ref a0]) hC (c_X1_init l V g D cT f1 (n + 1) n v2 ev2) k_X1_init m_40 rfl rfl ⟨Nat.le_of_ble_eq_true rfl, Nat.le_of_ble_eq_true rfl⟩ hI rfl hl.1 rfl (Nat.le_of_ble_eq_true rfl) dX7_init_9 ⟨by decide, by decide⟩) hI (fun H locs hI => ?_)
  obtain ⟨f3, ef3, hq⟩ := b_s hq
  refine fa_ptF (own := RX7) (ref := "CoastlineRuler") (k := 0) hx hb hB inB_RX7 tyX7_ok nmX7 hown hI rfl (by decide) m_265 (fun _ h9 => h9) (by decide) hin (by decide) rfl rfl ef3 dX7_init_12 (fun H locs hI => ?_)
  refine lv_aload_n hx hb dX7_init_15 rfl (lv_at hl 0 rfl) ?_
  obtain ⟨f4, ef4, hq⟩ := b_s hq
  refine fa_new (own := RX7) (ci := 4) hx hb hB inB_RX1 tyX1_ok hown m_38 m_39 m_2 hI rfl (by decide +kernel) (by decide) (by decide) ef4 dX7_init_16 (fun H locs hI => ?_)
  refine lv_dup hx hb dX7_init_19 rfl ?_
  obtain ⟨v5, ev5, hq⟩ := b_s hq
  refine gw_v (g_runI (As := []) (rest := [.ref v2.2, .ref a0]) hC (c_X1_init l V g D cT f4 (v2.2 + 1) v2.2 v5 ev5) k_X1_init m_40 rfl rfl ⟨Nat.le_of_ble_eq_true rfl, Nat.le_of_ble_eq_true rfl⟩ hI rfl hl.1 rfl (Nat.le_of_ble_eq_true rfl) dX7_init_20 ⟨by decide, by decide⟩) hI (fun H locs hI => ?_)
  obtain ⟨f6, ef6, hq⟩ := b_s hq
  refine fa_ptF (own := RX7) (ref := "CoastlineRuler") (k := 1) hx hb hB inB_RX7 tyX7_ok nmX7 hown hI rfl (by decide) m_266 (fun _ h9 => h9) (by decide) hin (by decide) rfl rfl ef6 dX7_init_23 (fun H locs hI => ?_)
  refine lv_aload_n hx hb dX7_init_26 rfl (lv_at hl 0 rfl) ?_
  obtain ⟨f7, ef7, hq⟩ := b_s hq
  refine fa_new (own := RX7) (ci := 4) hx hb hB inB_RX1 tyX1_ok hown m_38 m_39 m_2 hI rfl (by decide +kernel) (by decide) (by decide) ef7 dX7_init_27 (fun H locs hI => ?_)
  refine lv_dup hx hb dX7_init_30 rfl ?_
  obtain ⟨v8, ev8, hq⟩ := b_s hq
  refine gw_v (g_runI (As := []) (rest := [.ref v5.2, .ref a0]) hC (c_X1_init l V g D cT f7 (v5.2 + 1) v5.2 v8 ev8) k_X1_init m_40 rfl rfl ⟨Nat.le_of_ble_eq_true rfl, Nat.le_of_ble_eq_true rfl⟩ hI rfl hl.1 rfl (Nat.le_of_ble_eq_true rfl) dX7_init_31 ⟨by decide, by decide⟩) hI (fun H locs hI => ?_)
  obtain ⟨f9, ef9, hq⟩ := b_s hq
  refine fa_ptF (own := RX7) (ref := "CoastlineRuler") (k := 2) hx hb hB inB_RX7 tyX7_ok nmX7 hown hI rfl (by decide) m_267 (fun _ h9 => h9) (by decide) hin (by decide) rfl rfl ef9 dX7_init_34 (fun H locs hI => ?_)
  refine lv_aload_n hx hb dX7_init_37 rfl (lv_at hl 0 rfl) ?_
  refine lv_bipush (v := (8 : Int32)) hx hb dX7_init_38 (by decide) ?_
  obtain ⟨f10, ef10, hq⟩ := b_s hq
  refine fa_newq (N := 8) (t := 4) (own := RX7) hx hb hown (hB _ m_38) (g_aox hI (i := 0) rfl) (by decide) rfl hI (by decide) (by decide +kernel) (by decide +kernel) (by decide) (by decide) ef10 dX7_init_40 (fun H locs hI => ?_)
  obtain ⟨f11, ef11, hq⟩ := b_s hq
  refine fa_ptF (own := RX7) (ref := "CoastlineRuler") (k := 4) hx hb hB inB_RX7 tyX7_ok nmX7 hown hI rfl (by decide) m_269 (fun _ h9 => h9) (by decide) hin (by decide) rfl rfl ef11 dX7_init_43 (fun H locs hI => ?_)
  refine lv_aload_n hx hb dX7_init_46 rfl (lv_at hl 0 rfl) ?_
  obtain ⟨f12, ef12, hq⟩ := b_s hq
  refine fa_new (own := RX7) (ci := 8) hx hb hB inB_RX5 tyX5_ok hown m_104 m_105 m_4 hI rfl (by decide +kernel) (by decide) (by decide) ef12 dX7_init_47 (fun H locs hI => ?_)
  refine lv_dup hx hb dX7_init_50 rfl ?_
  obtain ⟨v13, ev13, hq⟩ := b_s hq
  refine gw_v (g_runIN (As := []) (rest := [.ref (v8.2 + 1), .ref a0]) (j0 := 0) hC (c_X5_init l V g D cT f12 (v8.2 + 2) (v8.2 + 1) v13 ev13) k_X5_init rfl rfl rfl ⟨Nat.le_of_ble_eq_true rfl, Nat.le_of_ble_eq_true rfl⟩ hI rfl hl.1 rfl (Nat.le_of_ble_eq_true rfl) dX7_init_51 ⟨by decide, by decide⟩) hI (fun H locs hI => ?_)
  obtain ⟨f14, ef14, hq⟩ := b_s hq
  refine fa_ptF (own := RX7) (ref := "CoastlineRuler") (k := 7) hx hb hB inB_RX7 tyX7_ok nmX7 hown hI rfl (by decide) m_272 (fun _ h9 => h9) (by decide) hin (by decide) rfl rfl ef14 dX7_init_54 (fun H locs hI => ?_)
  exact sg_X7_init_1 hx hb hr hlocks hin hC a0 f14 v13.2 H locs ls hI (lv_sub hl [0] rfl) hq

abbrev rm_X7_appendText : Room := { frames := 3, cells := 0, slots := 0, locals := 142 }
theorem k_X7_appendText : g_CV yX7_appendText cX7_appendText 6 (some .int) 5 := ⟨⟨m_308, m_1, by decide +kernel⟩, m_306, m_307⟩
set_option maxHeartbeats 4000000 in
set_option maxRecDepth 100000 in
theorem c_X7_appendText (l : Launch) (V : Nat → Nat) (g : GH) (D : va_G) (cT : Nat → ClassId) (f : GH) (n : Nat) (a0 : Nat) (a1 : Int32) (a2 : Int32) (a3 : Int32) (a4 : Int32) (a5 : Int32) (o : Int32 × GH) (hq : p_X7_appendText V g f a0 a1 a2 a3 a4 a5 = some o) : Met l yX7_appendText (Cond.code yX7_appendText cX7_appendText 6 (some .int) :: g_B) rm_X7_appendText (va_Pc [.ref a0, .int a1, .int a2, .int a3, .int a4, .int a5] (g_I V g D cT f n)) (g_Wi V D cT o.1 o.2 n) 0 0 (g_A V) := by
  refine g_begin (own := RX7) [.ref a0, .int a1, .int a2, .int a3, .int a4, .int a5] [(0, .ref a0), (1, .int a1), (2, .int a2), (3, .int a3), (4, .int a4), (5, .int a5)] (g_A V) (fun _ h => h) (by decide) rfl (Nat.le_of_ble_eq_true rfl) rfl ?_
  intro p e s m args below meth c hx hb hr hlocks hin hC hI ls hl
  obtain ⟨hx, hb, hml, hown, hB⟩ := id hC
  obtain ⟨H, hH⟩ : ∃ H, H = s.heap := ⟨_, rfl⟩
  obtain ⟨locs, hlocs⟩ : ∃ L : List Loc, L = [] := ⟨_, rfl⟩
  rw [← hH, ← hlocs] at hI ⊢
  clear hH hlocs
  unfold p_X7_appendText at hq
  replace hq := (h_me_eq hq).2
  refine lv_aload_n hx hb dX7_appendText_0 rfl (lv_at hl 0 rfl) ?_
  obtain ⟨v1, ev1, hq⟩ := b_s hq
  refine fa_gr (own := RX7) (ref := "CoastlineRuler") (k := 7) hx hb hB inB_RX7 hown hI rfl (by decide) m_272 (fun _ h9 => h9) ev1 dX7_appendText_1 ?_
  obtain ⟨v2, ev2, hq⟩ := b_s hq
  refine fa_gi (own := RX7) (ref := "CoastlineRuler$Tokens") (k := 1) hx hb hB inB_RX5 hown hI rfl (by decide) m_111 (fun _ h9 => h9) ev2 dX7_appendText_4 ?_
  refine lv_bipush (v := (20 : Int32)) hx hb dX7_appendText_7 (by decide) ?_
  refine lv_iadd hx hb dX7_appendText_9 ?_
  refine lv_sipush (v := (700 : Int32)) hx hb dX7_appendText_10 (by decide) ?_
  refine lv_icmp_le (tgt := 18) hx hb dX7_appendText_13 (by decide) (fun c3 => ?_) (fun c3 => ?_)
  · replace hq := i_t c3 hq
    refine lv_aload_n hx hb dX7_appendText_18 rfl (lv_at hl 0 rfl) ?_
    obtain ⟨v4, ev4, hq⟩ := b_s hq
    refine fa_gr (own := RX7) (ref := "CoastlineRuler") (k := 7) hx hb hB inB_RX7 hown hI rfl (by decide) m_272 (fun _ h9 => h9) ev4 dX7_appendText_19 ?_
    refine lv_iload_n hx hb dX7_appendText_22 rfl (lv_at hl 1 rfl) ?_
    obtain ⟨v5, ev5, hq⟩ := b_s hq
    refine gw_v (g_runV (As := [.int a1]) (rest := []) (ci := 8) hC (c_X5_append l V g D cT f n v4 a1 v5 ev5) k_X5_append m_309 rfl rfl ⟨Nat.le_of_ble_eq_true rfl, Nat.le_of_ble_eq_true rfl⟩ hI rfl rfl (h_me_eq ev5).1 rfl hl.1 rfl (Nat.le_of_ble_eq_true rfl) dX7_appendText_23 ⟨by decide, by decide⟩) hI (fun H locs hI => ?_)
    refine lv_aload_n hx hb dX7_appendText_26 rfl (lv_at hl 0 rfl) ?_
    obtain ⟨v6, ev6, hq⟩ := b_s hq
    refine fa_gr (own := RX7) (ref := "CoastlineRuler") (k := 7) hx hb hB inB_RX7 hown hI rfl (by decide) m_272 (fun _ h9 => h9) ev6 dX7_appendText_27 ?_
    refine lv_iload_n hx hb dX7_appendText_30 rfl (lv_at hl 2 rfl) ?_
    obtain ⟨v7, ev7, hq⟩ := b_s hq
    refine gw_v (g_runV (As := [.int a2]) (rest := []) (ci := 8) hC (c_X5_append l V g D cT v5 n v6 a2 v7 ev7) k_X5_append m_309 rfl rfl ⟨Nat.le_of_ble_eq_true rfl, Nat.le_of_ble_eq_true rfl⟩ hI rfl rfl (h_me_eq ev7).1 rfl hl.1 rfl (Nat.le_of_ble_eq_true rfl) dX7_appendText_31 ⟨by decide, by decide⟩) hI (fun H locs hI => ?_)
    refine lv_aload_n hx hb dX7_appendText_34 rfl (lv_at hl 0 rfl) ?_
    obtain ⟨v8, ev8, hq⟩ := b_s hq
    refine fa_gr (own := RX7) (ref := "CoastlineRuler") (k := 7) hx hb hB inB_RX7 hown hI rfl (by decide) m_272 (fun _ h9 => h9) ev8 dX7_appendText_35 ?_
    refine lv_iload_n hx hb dX7_appendText_38 rfl (lv_at hl 3 rfl) ?_
    obtain ⟨v9, ev9, hq⟩ := b_s hq
    refine gw_v (g_runV (As := [.int a3]) (rest := []) (ci := 8) hC (c_X5_append l V g D cT v7 n v8 a3 v9 ev9) k_X5_append m_309 rfl rfl ⟨Nat.le_of_ble_eq_true rfl, Nat.le_of_ble_eq_true rfl⟩ hI rfl rfl (h_me_eq ev9).1 rfl hl.1 rfl (Nat.le_of_ble_eq_true rfl) dX7_appendText_39 ⟨by decide, by decide⟩) hI (fun H locs hI => ?_)
    refine lv_aload_n hx hb dX7_appendText_42 rfl (lv_at hl 0 rfl) ?_
    obtain ⟨v10, ev10, hq⟩ := b_s hq
    refine fa_gr (own := RX7) (ref := "CoastlineRuler") (k := 7) hx hb hB inB_RX7 hown hI rfl (by decide) m_272 (fun _ h9 => h9) ev10 dX7_appendText_43 ?_
    refine lv_iload hx hb dX7_appendText_46 (lv_at hl 4 rfl) ?_
    obtain ⟨v11, ev11, hq⟩ := b_s hq
    refine gw_v (g_runV (As := [.int a4]) (rest := []) (ci := 8) hC (c_X5_append l V g D cT v9 n v10 a4 v11 ev11) k_X5_append m_309 rfl rfl ⟨Nat.le_of_ble_eq_true rfl, Nat.le_of_ble_eq_true rfl⟩ hI rfl rfl (h_me_eq ev11).1 rfl hl.1 rfl (Nat.le_of_ble_eq_true rfl) dX7_appendText_48 ⟨by decide, by decide⟩) hI (fun H locs hI => ?_)
    refine lv_aload_n hx hb dX7_appendText_51 rfl (lv_at hl 0 rfl) ?_
    obtain ⟨v12, ev12, hq⟩ := b_s hq
    refine fa_gr (own := RX7) (ref := "CoastlineRuler") (k := 7) hx hb hB inB_RX7 hown hI rfl (by decide) m_272 (fun _ h9 => h9) ev12 dX7_appendText_52 ?_
    refine lv_iload hx hb dX7_appendText_55 (lv_at hl 5 rfl) ?_
    obtain ⟨v13, ev13, hq⟩ := b_s hq
    refine gw_v (g_runV (As := [.int a5]) (rest := []) (ci := 8) hC (c_X5_append l V g D cT v11 n v12 a5 v13 ev13) k_X5_append m_309 rfl rfl ⟨Nat.le_of_ble_eq_true rfl, Nat.le_of_ble_eq_true rfl⟩ hI rfl rfl (h_me_eq ev13).1 rfl hl.1 rfl (Nat.le_of_ble_eq_true rfl) dX7_appendText_57 ⟨by decide, by decide⟩) hI (fun H locs hI => ?_)
    refine lv_aload_n hx hb dX7_appendText_60 rfl (lv_at hl 0 rfl) ?_
    obtain ⟨v14, ev14, hq⟩ := b_s hq
    refine fa_gr (own := RX7) (ref := "CoastlineRuler") (k := 7) hx hb hB inB_RX7 hown hI rfl (by decide) m_272 (fun _ h9 => h9) ev14 dX7_appendText_61 ?_
    obtain ⟨v15, ev15, hq⟩ := b_s hq
    refine fa_gi (own := RX7) (ref := "CoastlineRuler$Tokens") (k := 1) hx hb hB inB_RX5 hown hI rfl (by decide) m_111 (fun _ h9 => h9) ev15 dX7_appendText_64 ?_
    exact ge_Wi hx hb hlocks hr rfl hI (congrArg (fun z => z.1) (Option.some.inj hq)) (congrArg (fun z => z.2) (Option.some.inj hq)) dX7_appendText_67
  · replace hq := i_f c3 hq
    refine lv_iconst (v := (-1 : Int32)) hx hb dX7_appendText_16 (by decide) ?_
    exact ge_Wi hx hb hlocks hr rfl hI (congrArg (fun z => z.1) (Option.some.inj hq)) (congrArg (fun z => z.2) (Option.some.inj hq)) dX7_appendText_17

abbrev rm_X7_requireWithin : Room := { frames := 8, cells := 1, slots := 6, locals := 120 }
theorem k_X7_requireWithin : g_CS yX7_requireWithin cX7_requireWithin 3 none 3 := ⟨⟨m_620, m_1, by decide +kernel⟩, m_619⟩
set_option maxHeartbeats 4000000 in
set_option maxRecDepth 100000 in
theorem c_X7_requireWithin (l : Launch) (hl0 : l.stackTraces = false) (V : Nat → Nat) (g : GH) (D : va_G) (cT : Nat → ClassId) (f : GH) (n : Nat) (a0 : Int32) (a1 : Int32) (a2 : Int32) (o : Nat ⊕ Unit) (hq : p_X7_requireWithin V g f a0 a1 a2 = some o) : vx_Met l yX7_requireWithin (Cond.code yX7_requireWithin cX7_requireWithin 3 none :: g_B) rm_X7_requireWithin (va_Pc [.int a0, .int a1, .int a2] (g_I V g D cT f n)) (g_Xv o n) (g_XX V D cT f o) 1 6 g_no := by
  refine g_beginX (own := RX7) [.int a0, .int a1, .int a2] [(0, .int a0), (1, .int a1), (2, .int a2)] g_no (fun _ h => h.elim) (by decide) rfl (Nat.le_of_ble_eq_true rfl) rfl ?_
  intro p e s m args below meth c hx hb hr hlocks ht0 hC hI ls hl
  obtain ⟨hx, hb, hml, hown, hB⟩ := id hC
  obtain ⟨H, hH⟩ : ∃ H, H = s.heap := ⟨_, rfl⟩
  obtain ⟨locs, hlocs⟩ : ∃ L : List Loc, L = [] := ⟨_, rfl⟩
  rw [← hH, ← hlocs] at hI ⊢
  clear hH hlocs
  unfold p_X7_requireWithin at hq
  refine lv_iload_n hx hb dX7_requireWithin_0 rfl (lv_at hl 0 rfl) ?_
  refine lv_iload_n hx hb dX7_requireWithin_1 rfl (lv_at hl 1 rfl) ?_
  refine lv_icmp_lt (tgt := 10) hx hb dX7_requireWithin_2 (by decide) (fun c1 => ?_) (fun c1 => ?_)
  · replace hq := i_t c1 hq
    exact vx_throwSW (own := RX7) (cls := "java/lang/IllegalArgumentException") (names := ["java/lang/RuntimeException", "java/lang/Exception"]) hx hb hl0 hown (by decide +kernel) (by decide +kernel) (hB _ m_505) (hB _ m_18) (g_rtq hI rt_1) (g_hat hB hI xat_RX7_350) xgd_RX7_350 (g_uns hI) (g_sup hI) hI.2.2.2.2.2.2.1 (hl.1.trans hml.symm) dX7_requireWithin_10 dX7_requireWithin_13 dX7_requireWithin_14 dX7_requireWithin_17 dX7_requireWithin_20 (fun x hx => (ht0 x hx).elim) (by decide) (by decide) (by decide) (by decide) hlocks (g_thrR hI hq) hI.2.2.2.2.2.2.1.2.2 (by decide) (by decide)
  · replace hq := i_f c1 hq
    refine lv_iload_n hx hb dX7_requireWithin_5 rfl (lv_at hl 0 rfl) ?_
    refine lv_iload_n hx hb dX7_requireWithin_6 rfl (lv_at hl 2 rfl) ?_
    refine lv_icmp_le (tgt := 21) hx hb dX7_requireWithin_7 (by decide) (fun c2 => ?_) (fun c2 => ?_)
    · replace hq := i_t c2 hq
      refine W.widen (k := 1) (n := 6) (by decide) (by decide) ?_
      exact ge_Xv hx hb hlocks hr hI hq dX7_requireWithin_21
    · replace hq := i_f c2 hq
      exact vx_throwSW (own := RX7) (cls := "java/lang/IllegalArgumentException") (names := ["java/lang/RuntimeException", "java/lang/Exception"]) hx hb hl0 hown (by decide +kernel) (by decide +kernel) (hB _ m_505) (hB _ m_18) (g_rtq hI rt_1) (g_hat hB hI xat_RX7_350) xgd_RX7_350 (g_uns hI) (g_sup hI) hI.2.2.2.2.2.2.1 (hl.1.trans hml.symm) dX7_requireWithin_10 dX7_requireWithin_13 dX7_requireWithin_14 dX7_requireWithin_17 dX7_requireWithin_20 (fun x hx => (ht0 x hx).elim) (by decide) (by decide) (by decide) (by decide) hlocks (g_thrR hI hq) hI.2.2.2.2.2.2.1.2.2 (by decide) (by decide)


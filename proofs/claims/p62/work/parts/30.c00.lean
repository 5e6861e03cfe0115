abbrev rm_X2_init : Room := { frames := 2, cells := 2, slots := 400, locals := 120 }
theorem k_X2_init : g_CI yX2_init cX2_init 2 1 := ⟨⟨m_46, m_3, by decide +kernel⟩, rfl, m_45⟩
set_option maxHeartbeats 4000000 in
set_option maxRecDepth 100000 in
theorem c_X2_init (l : Launch) (V : Nat → Nat) (g : GH) (D : va_G) (cT : Nat → ClassId) (f : GH) (n : Nat) (a0 : Nat) (a1 : Int32) (o : GH × Nat) (hq : p_X2_init V g f n a0 a1 = some o) : Met l yX2_init (Cond.code yX2_init cX2_init 2 none :: g_B) rm_X2_init (va_Pc [.ref a0, .int a1] (g_I V g D cT f n)) (g_Wv V D cT o.1 o.2) 2 400 (g_A V) := by
  refine g_begin (own := RX2) [.ref a0, .int a1] [(0, .ref a0), (1, .int a1)] (g_A V) (fun _ h => h) (by decide) rfl (Nat.le_of_ble_eq_true rfl) rfl ?_
  intro p e s m args below meth c hx hb hr hlocks hin hC hI ls hl
  obtain ⟨hx, hb, hml, hown, hB⟩ := id hC
  obtain ⟨H, hH⟩ : ∃ H, H = s.heap := ⟨_, rfl⟩
  obtain ⟨locs, hlocs⟩ : ∃ L : List Loc, L = [] := ⟨_, rfl⟩
  rw [← hH, ← hlocs] at hI ⊢
  clear hH hlocs
  unfold p_X2_init at hq
  replace hq := (h_me_eq hq).2
  refine lv_aload_n hx hb dX2_init_0 rfl (lv_at hl 0 rfl) ?_
  refine W.objInit hx hb hown (hB _ m_47) (hB _ m_33) (hB _ m_34) rfl (by rw [hml]; exact hl.1) rfl dX2_init_1 (Nat.le_of_ble_eq_true rfl) (Nat.le_of_ble_eq_true rfl) ?_
  refine W.eq (g2 := F0 m 4 ls []) rfl ?_
  refine lv_aload_n hx hb dX2_init_4 rfl (lv_at hl 0 rfl) ?_
  refine lv_iload_n hx hb dX2_init_5 rfl (lv_at hl 1 rfl) ?_
  obtain ⟨f1, ef1, hq⟩ := b_s hq
  refine fa_newv (atype := .int) (M := 200) (t := 0) hx hb hB m_71 rfl (by decide) (by decide) hI (by decide) (by decide) (by decide) ef1 dX2_init_6 (fun H locs hI => ?_)
  obtain ⟨f2, ef2, hq⟩ := b_s hq
  refine fa_ptF (own := RX2) (ref := "CoastlineRuler$Coast") (k := 0) hx hb hB inB_RX2 tyX2_ok nmX2 hown hI rfl (by decide) m_48 (fun _ h9 => h9) (by decide) hin (by decide) rfl rfl ef2 dX2_init_8 (fun H locs hI => ?_)
  refine lv_aload_n hx hb dX2_init_11 rfl (lv_at hl 0 rfl) ?_
  refine lv_iload_n hx hb dX2_init_12 rfl (lv_at hl 1 rfl) ?_
  obtain ⟨f3, ef3, hq⟩ := b_s hq
  refine fa_newv (atype := .int) (M := 200) (t := 0) hx hb hB m_71 rfl (by decide) (by decide) hI (by decide) (by decide) (by decide) ef3 dX2_init_13 (fun H locs hI => ?_)
  obtain ⟨f4, ef4, hq⟩ := b_s hq
  refine fa_ptF (own := RX2) (ref := "CoastlineRuler$Coast") (k := 1) hx hb hB inB_RX2 tyX2_ok nmX2 hown hI rfl (by decide) m_51 (fun _ h9 => h9) (by decide) hin (by decide) rfl rfl ef4 dX2_init_15 (fun H locs hI => ?_)
  obtain rfl := Option.some.inj hq
  exact ge_Wv hx hb hlocks hr hI rfl dX2_init_18

abbrev rm_X1_init : Room := { frames := 3, cells := 19, slots := 2430, locals := 141 }
theorem k_X1_init : g_CI yX1_init cX1_init 2 0 := ⟨⟨m_39, m_2, by decide +kernel⟩, rfl, m_38⟩
set_option maxHeartbeats 4000000 in
set_option maxRecDepth 100000 in
theorem sg_X1_init_3 {p : Program} {l : Launch} {e : Env} {s : State} {m : MethodId} {args : Array Value} {below : List Frame} {meth : Method} {c : Code} {V : Nat → Nat} {g : GH} {D : va_G} {cT : Nat → ClassId} {o : GH × Nat} (hx : p.tables.exec = Jvm.exec) (hb : c.code = cX1_init) (hr : meth.sig.returnType = none) (hlocks : meth.locks = false) (hin : meth.name = yX1_init.name) (hC : CallFix p m c cX1_init 2 s args g_B RX1) : ∀ (x0 : Nat) (f : GH) (n : Nat) (H : Heap) (locs : List Loc) (ls : Array Slot), g_at (g_A V) V g D cT f n s H locs → lv_has ls 2 [(0, .ref x0), (1, .int (4 : Int32))] → p_X1_init_s3 V g x0 f n = some o → W p l e rm_X1_init s m args below meth c H locs 16 2026 (MQ below (g_Wv V D cT o.1 o.2) args s 19 2430 (g_A V)) (F0 m 37 ls []) := by
  intro x0 f n H locs ls hI hl hq
  obtain ⟨_, _, hml, hown, hB⟩ := id hC
  unfold p_X1_init_s3 at hq
  refine lv_iinc (v := (5 : Int32)) (lv' := [(1, .int (5 : Int32)), (0, .ref x0)]) hx hb dX1_init_37 hl (k := 1) rfl (by decide) (by decide) rfl (fun ls hl => ?_)
  refine lv_goto (tgt := 15) hx hb dX1_init_40 (by decide) ?_
  refine lv_iload_n hx hb dX1_init_15 rfl (lv_at hl 0 rfl) ?_
  refine lv_bipush (v := (6 : Int32)) hx hb dX1_init_16 (by decide) ?_
  refine lv_icmp_ge (tgt := 43) hx hb dX1_init_18 (by decide) (fun c => absurd c (by decide)) (fun _ => ?_)
  refine lv_aload_n hx hb dX1_init_21 rfl (lv_at hl 1 rfl) ?_
  obtain ⟨v23, ev23, hq⟩ := b_s hq
  refine fa_gr (own := RX1) (ref := "CoastlineRuler$Chart") (k := 0) hx hb hB inB_RX1 hown hI rfl (by decide) m_72 (fun _ h9 => h9) ev23 dX1_init_22 ?_
  refine lv_iload_n hx hb dX1_init_25 rfl (lv_at hl 0 rfl) ?_
  obtain ⟨f24, ef24, hq⟩ := b_s hq
  refine fa_new (own := RX1) (ci := 5) hx hb hB inB_RX2 tyX2_ok hown m_41 m_43 m_3 hI rfl (by decide +kernel) (by decide) (by decide) ef24 dX1_init_26 (fun H locs hI => ?_)
  refine lv_dup hx hb dX1_init_29 rfl ?_
  refine lv_sipush (v := (129 : Int32)) hx hb dX1_init_30 (by decide) ?_
  obtain ⟨v25, ev25, hq⟩ := b_s hq
  refine gw_v (g_runI (As := [.int (129 : Int32)]) (rest := [.ref n, .int (5 : Int32), .ref v23]) hC (c_X2_init l V g D cT f24 (n + 1) n (129 : Int32) v25 ev25) k_X2_init m_44 rfl rfl ⟨Nat.le_of_ble_eq_true rfl, Nat.le_of_ble_eq_true rfl⟩ hI rfl hl.1 rfl (Nat.le_of_ble_eq_true rfl) dX1_init_33 ⟨by decide, by decide⟩) hI (fun H locs hI => ?_)
  obtain ⟨f26, ef26, hq⟩ := b_s hq
  refine fa_sq hx hb hI (by decide) (ci := 5) rfl rfl ef26 dX1_init_36 (fun H locs hI => ?_)
  refine lv_iinc (v := (6 : Int32)) (lv' := [(1, .int (6 : Int32)), (0, .ref x0)]) hx hb dX1_init_37 hl (k := 0) rfl (by decide) (by decide) rfl (fun ls hl => ?_)
  refine lv_goto (tgt := 15) hx hb dX1_init_40 (by decide) ?_
  refine lv_iload_n hx hb dX1_init_15 rfl (lv_at hl 0 rfl) ?_
  refine lv_bipush (v := (6 : Int32)) hx hb dX1_init_16 (by decide) ?_
  refine lv_icmp_ge (tgt := 43) hx hb dX1_init_18 (by decide) (fun _ => ?_) (fun c => absurd (by decide) c)
  obtain rfl := Option.some.inj hq
  exact ge_Wv hx hb hlocks hr hI rfl dX1_init_43

set_option maxHeartbeats 4000000 in
set_option maxRecDepth 100000 in
theorem sg_X1_init_2 {p : Program} {l : Launch} {e : Env} {s : State} {m : MethodId} {args : Array Value} {below : List Frame} {meth : Method} {c : Code} {V : Nat → Nat} {g : GH} {D : va_G} {cT : Nat → ClassId} {o : GH × Nat} (hx : p.tables.exec = Jvm.exec) (hb : c.code = cX1_init) (hr : meth.sig.returnType = none) (hlocks : meth.locks = false) (hin : meth.name = yX1_init.name) (hC : CallFix p m c cX1_init 2 s args g_B RX1) : ∀ (x0 : Nat) (f : GH) (n : Nat) (H : Heap) (locs : List Loc) (ls : Array Slot), g_at (g_A V) V g D cT f n s H locs → lv_has ls 2 [(0, .ref x0), (1, .int (3 : Int32))] → p_X1_init_s2 V g x0 f n = some o → W p l e rm_X1_init s m args below meth c H locs 10 1218 (MQ below (g_Wv V D cT o.1 o.2) args s 19 2430 (g_A V)) (F0 m 40 ls []) := by
  intro x0 f n H locs ls hI hl hq
  obtain ⟨_, _, hml, hown, hB⟩ := id hC
  unfold p_X1_init_s2 at hq
  refine lv_goto (tgt := 15) hx hb dX1_init_40 (by decide) ?_
  refine lv_iload_n hx hb dX1_init_15 rfl (lv_at hl 1 rfl) ?_
  refine lv_bipush (v := (6 : Int32)) hx hb dX1_init_16 (by decide) ?_
  refine lv_icmp_ge (tgt := 43) hx hb dX1_init_18 (by decide) (fun c => absurd c (by decide)) (fun _ => ?_)
  refine lv_aload_n hx hb dX1_init_21 rfl (lv_at hl 0 rfl) ?_
  obtain ⟨v15, ev15, hq⟩ := b_s hq
  refine fa_gr (own := RX1) (ref := "CoastlineRuler$Chart") (k := 0) hx hb hB inB_RX1 hown hI rfl (by decide) m_72 (fun _ h9 => h9) ev15 dX1_init_22 ?_
  refine lv_iload_n hx hb dX1_init_25 rfl (lv_at hl 1 rfl) ?_
  obtain ⟨f16, ef16, hq⟩ := b_s hq
  refine fa_new (own := RX1) (ci := 5) hx hb hB inB_RX2 tyX2_ok hown m_41 m_43 m_3 hI rfl (by decide +kernel) (by decide) (by decide) ef16 dX1_init_26 (fun H locs hI => ?_)
  refine lv_dup hx hb dX1_init_29 rfl ?_
  refine lv_sipush (v := (129 : Int32)) hx hb dX1_init_30 (by decide) ?_
  obtain ⟨v17, ev17, hq⟩ := b_s hq
  refine gw_v (g_runI (As := [.int (129 : Int32)]) (rest := [.ref n, .int (3 : Int32), .ref v15]) hC (c_X2_init l V g D cT f16 (n + 1) n (129 : Int32) v17 ev17) k_X2_init m_44 rfl rfl ⟨Nat.le_of_ble_eq_true rfl, Nat.le_of_ble_eq_true rfl⟩ hI rfl hl.1 rfl (Nat.le_of_ble_eq_true rfl) dX1_init_33 ⟨by decide, by decide⟩) hI (fun H locs hI => ?_)
  obtain ⟨f18, ef18, hq⟩ := b_s hq
  refine fa_sq hx hb hI (by decide) (ci := 5) rfl rfl ef18 dX1_init_36 (fun H locs hI => ?_)
  refine lv_iinc (v := (4 : Int32)) (lv' := [(1, .int (4 : Int32)), (0, .ref x0)]) hx hb dX1_init_37 hl (k := 1) rfl (by decide) (by decide) rfl (fun ls hl => ?_)
  refine lv_goto (tgt := 15) hx hb dX1_init_40 (by decide) ?_
  refine lv_iload_n hx hb dX1_init_15 rfl (lv_at hl 0 rfl) ?_
  refine lv_bipush (v := (6 : Int32)) hx hb dX1_init_16 (by decide) ?_
  refine lv_icmp_ge (tgt := 43) hx hb dX1_init_18 (by decide) (fun c => absurd c (by decide)) (fun _ => ?_)
  refine lv_aload_n hx hb dX1_init_21 rfl (lv_at hl 1 rfl) ?_
  obtain ⟨v19, ev19, hq⟩ := b_s hq
  refine fa_gr (own := RX1) (ref := "CoastlineRuler$Chart") (k := 0) hx hb hB inB_RX1 hown hI rfl (by decide) m_72 (fun _ h9 => h9) ev19 dX1_init_22 ?_
  refine lv_iload_n hx hb dX1_init_25 rfl (lv_at hl 0 rfl) ?_
  obtain ⟨f20, ef20, hq⟩ := b_s hq
  refine fa_new (own := RX1) (ci := 5) hx hb hB inB_RX2 tyX2_ok hown m_41 m_43 m_3 hI rfl (by decide +kernel) (by decide) (by decide) ef20 dX1_init_26 (fun H locs hI => ?_)
  refine lv_dup hx hb dX1_init_29 rfl ?_
  refine lv_sipush (v := (129 : Int32)) hx hb dX1_init_30 (by decide) ?_
  obtain ⟨v21, ev21, hq⟩ := b_s hq
  refine gw_v (g_runI (As := [.int (129 : Int32)]) (rest := [.ref v17.2, .int (4 : Int32), .ref v19]) hC (c_X2_init l V g D cT f20 (v17.2 + 1) v17.2 (129 : Int32) v21 ev21) k_X2_init m_44 rfl rfl ⟨Nat.le_of_ble_eq_true rfl, Nat.le_of_ble_eq_true rfl⟩ hI rfl hl.1 rfl (Nat.le_of_ble_eq_true rfl) dX1_init_33 ⟨by decide, by decide⟩) hI (fun H locs hI => ?_)
  obtain ⟨f22, ef22, hq⟩ := b_s hq
  refine fa_sq hx hb hI (by decide) (ci := 5) rfl rfl ef22 dX1_init_36 (fun H locs hI => ?_)
  exact sg_X1_init_3 hx hb hr hlocks hin hC x0 f22 v21.2 H locs ls hI (lv_sub hl [1, 0] rfl) hq

set_option maxHeartbeats 4000000 in
set_option maxRecDepth 100000 in
theorem sg_X1_init_1 {p : Program} {l : Launch} {e : Env} {s : State} {m : MethodId} {args : Array Value} {below : List Frame} {meth : Method} {c : Code} {V : Nat → Nat} {g : GH} {D : va_G} {cT : Nat → ClassId} {o : GH × Nat} (hx : p.tables.exec = Jvm.exec) (hb : c.code = cX1_init) (hr : meth.sig.returnType = none) (hlocks : meth.locks = false) (hin : meth.name = yX1_init.name) (hC : CallFix p m c cX1_init 2 s args g_B RX1) : ∀ (x0 : Nat) (f : GH) (n : Nat) (H : Heap) (locs : List Loc) (ls : Array Slot), g_at (g_A V) V g D cT f n s H locs → lv_has ls 2 [(0, .ref x0), (1, .int (1 : Int32))] → p_X1_init_s1 V g x0 f n = some o → W p l e rm_X1_init s m args below meth c H locs 4 410 (MQ below (g_Wv V D cT o.1 o.2) args s 19 2430 (g_A V)) (F0 m 21 ls []) := by
  intro x0 f n H locs ls hI hl hq
  obtain ⟨_, _, hml, hown, hB⟩ := id hC
  unfold p_X1_init_s1 at hq
  refine lv_aload_n hx hb dX1_init_21 rfl (lv_at hl 0 rfl) ?_
  obtain ⟨v7, ev7, hq⟩ := b_s hq
  refine fa_gr (own := RX1) (ref := "CoastlineRuler$Chart") (k := 0) hx hb hB inB_RX1 hown hI rfl (by decide) m_72 (fun _ h9 => h9) ev7 dX1_init_22 ?_
  refine lv_iload_n hx hb dX1_init_25 rfl (lv_at hl 1 rfl) ?_
  obtain ⟨f8, ef8, hq⟩ := b_s hq
  refine fa_new (own := RX1) (ci := 5) hx hb hB inB_RX2 tyX2_ok hown m_41 m_43 m_3 hI rfl (by decide +kernel) (by decide) (by decide) ef8 dX1_init_26 (fun H locs hI => ?_)
  refine lv_dup hx hb dX1_init_29 rfl ?_
  refine lv_sipush (v := (129 : Int32)) hx hb dX1_init_30 (by decide) ?_
  obtain ⟨v9, ev9, hq⟩ := b_s hq
  refine gw_v (g_runI (As := [.int (129 : Int32)]) (rest := [.ref n, .int (1 : Int32), .ref v7]) hC (c_X2_init l V g D cT f8 (n + 1) n (129 : Int32) v9 ev9) k_X2_init m_44 rfl rfl ⟨Nat.le_of_ble_eq_true rfl, Nat.le_of_ble_eq_true rfl⟩ hI rfl hl.1 rfl (Nat.le_of_ble_eq_true rfl) dX1_init_33 ⟨by decide, by decide⟩) hI (fun H locs hI => ?_)
  obtain ⟨f10, ef10, hq⟩ := b_s hq
  refine fa_sq hx hb hI (by decide) (ci := 5) rfl rfl ef10 dX1_init_36 (fun H locs hI => ?_)
  refine lv_iinc (v := (2 : Int32)) (lv' := [(1, .int (2 : Int32)), (0, .ref x0)]) hx hb dX1_init_37 hl (k := 1) rfl (by decide) (by decide) rfl (fun ls hl => ?_)
  refine lv_goto (tgt := 15) hx hb dX1_init_40 (by decide) ?_
  refine lv_iload_n hx hb dX1_init_15 rfl (lv_at hl 0 rfl) ?_
  refine lv_bipush (v := (6 : Int32)) hx hb dX1_init_16 (by decide) ?_
  refine lv_icmp_ge (tgt := 43) hx hb dX1_init_18 (by decide) (fun c => absurd c (by decide)) (fun _ => ?_)
  refine lv_aload_n hx hb dX1_init_21 rfl (lv_at hl 1 rfl) ?_
  obtain ⟨v11, ev11, hq⟩ := b_s hq
  refine fa_gr (own := RX1) (ref := "CoastlineRuler$Chart") (k := 0) hx hb hB inB_RX1 hown hI rfl (by decide) m_72 (fun _ h9 => h9) ev11 dX1_init_22 ?_
  refine lv_iload_n hx hb dX1_init_25 rfl (lv_at hl 0 rfl) ?_
  obtain ⟨f12, ef12, hq⟩ := b_s hq
  refine fa_new (own := RX1) (ci := 5) hx hb hB inB_RX2 tyX2_ok hown m_41 m_43 m_3 hI rfl (by decide +kernel) (by decide) (by decide) ef12 dX1_init_26 (fun H locs hI => ?_)
  refine lv_dup hx hb dX1_init_29 rfl ?_
  refine lv_sipush (v := (129 : Int32)) hx hb dX1_init_30 (by decide) ?_
  obtain ⟨v13, ev13, hq⟩ := b_s hq
  refine gw_v (g_runI (As := [.int (129 : Int32)]) (rest := [.ref v9.2, .int (2 : Int32), .ref v11]) hC (c_X2_init l V g D cT f12 (v9.2 + 1) v9.2 (129 : Int32) v13 ev13) k_X2_init m_44 rfl rfl ⟨Nat.le_of_ble_eq_true rfl, Nat.le_of_ble_eq_true rfl⟩ hI rfl hl.1 rfl (Nat.le_of_ble_eq_true rfl) dX1_init_33 ⟨by decide, by decide⟩) hI (fun H locs hI => ?_)
  obtain ⟨f14, ef14, hq⟩ := b_s hq
  refine fa_sq hx hb hI (by decide) (ci := 5) rfl rfl ef14 dX1_init_36 (fun H locs hI => ?_)
  refine lv_iinc (v := (3 : Int32)) (lv' := [(1, .int (3 : Int32)), (0, .ref x0)]) hx hb dX1_init_37 hl (k := 0) rfl (by decide) (by decide) rfl (fun ls hl => ?_)
  exact sg_X1_init_2 hx hb hr hlocks hin hC x0 f14 v13.2 H locs ls hI (lv_sub hl [1, 0] rfl) hq

set_option maxHeartbeats 4000000 in
set_option maxRecDepth 100000 in
theorem c_X1_init (l : Launch) (V : Nat → Nat) (g : GH) (D : va_G) (cT : Nat → ClassId) (f : GH) (n : Nat) (a0 : Nat) (o : GH × Nat) (hq : p_X1_init V g f n a0 = some o) : Met l yX1_init (Cond.code yX1_init cX1_init 2 none :: g_B) rm_X1_init (va_Pc [.ref a0] (g_I V g D cT f n)) (g_Wv V D cT o.1 o.2) 19 2430 (g_A V) := by
  refine g_begin (own := RX1) [.ref a0] [(0, .ref a0)] (g_A V) (fun _ h => h) (by decide) rfl (Nat.le_of_ble_eq_true rfl) rfl ?_
  intro p e s m args below meth c hx hb hr hlocks hin hC hI ls hl
  obtain ⟨hx, hb, hml, hown, hB⟩ := id hC
  obtain ⟨H, hH⟩ : ∃ H, H = s.heap := ⟨_, rfl⟩
  obtain ⟨locs, hlocs⟩ : ∃ L : List Loc, L = [] := ⟨_, rfl⟩
  rw [← hH, ← hlocs] at hI ⊢
  clear hH hlocs
  unfold p_X1_init at hq
  replace hq := (h_me_eq hq).2
  refine lv_aload_n hx hb dX1_init_0 rfl (lv_at hl 0 rfl) ?_
  refine W.objInit hx hb hown (hB _ m_40) (hB _ m_33) (hB _ m_34) rfl (by rw [hml]; exact hl.1) rfl dX1_init_1 (Nat.le_of_ble_eq_true rfl) (Nat.le_of_ble_eq_true rfl) ?_
  refine W.eq (g2 := F0 m 4 ls []) rfl ?_
  refine lv_aload_n hx hb dX1_init_4 rfl (lv_at hl 0 rfl) ?_
  refine lv_bipush (v := (6 : Int32)) hx hb dX1_init_5 (by decide) ?_
  obtain ⟨f1, ef1, hq⟩ := b_s hq
  refine fa_newq (N := 6) (t := 5) (own := RX1) hx hb hown (hB _ m_41) (g_aox hI (i := 1) rfl) (by decide) rfl hI (by decide) (by decide +kernel) (by decide +kernel) (by decide) (by decide) ef1 dX1_init_7 (fun H locs hI => ?_)
  obtain ⟨f2, ef2, hq⟩ := b_s hq
  refine fa_ptF (own := RX1) (ref := "CoastlineRuler$Chart") (k := 0) hx hb hB inB_RX1 tyX1_ok nmX1 hown hI rfl (by decide) m_72 (fun _ h9 => h9) (by decide) hin (by decide) rfl rfl ef2 dX1_init_10 (fun H locs hI => ?_)
  refine lv_iconst (v := (0 : Int32)) hx hb dX1_init_13 (by decide) ?_
  refine lv_istore_n (lv' := [(1, .int (0 : Int32)), (0, .ref a0)]) hx hb dX1_init_14 rfl hl (by decide) rfl (fun ls hl => ?_)
  refine lv_iload_n hx hb dX1_init_15 rfl (lv_at hl 0 rfl) ?_
  refine lv_bipush (v := (6 : Int32)) hx hb dX1_init_16 (by decide) ?_
  refine lv_icmp_ge (tgt := 43) hx hb dX1_init_18 (by decide) (fun c => absurd c (by decide)) (fun _ => ?_)
  refine lv_aload_n hx hb dX1_init_21 rfl (lv_at hl 1 rfl) ?_
  obtain ⟨v3, ev3, hq⟩ := b_s hq
  refine fa_gr (own := RX1) (ref := "CoastlineRuler$Chart") (k := 0) hx hb hB inB_RX1 hown hI rfl (by decide) m_72 (fun _ h9 => h9) ev3 dX1_init_22 ?_
  refine lv_iload_n hx hb dX1_init_25 rfl (lv_at hl 0 rfl) ?_
  obtain ⟨f4, ef4, hq⟩ := b_s hq
  refine fa_new (own := RX1) (ci := 5) hx hb hB inB_RX2 tyX2_ok hown m_41 m_43 m_3 hI rfl (by decide +kernel) (by decide) (by decide) ef4 dX1_init_26 (fun H locs hI => ?_)
  refine lv_dup hx hb dX1_init_29 rfl ?_
  refine lv_sipush (v := (129 : Int32)) hx hb dX1_init_30 (by decide) ?_
  obtain ⟨v5, ev5, hq⟩ := b_s hq
  refine gw_v (g_runI (As := [.int (129 : Int32)]) (rest := [.ref (n + 1), .int (0 : Int32), .ref v3]) hC (c_X2_init l V g D cT f4 (n + 2) (n + 1) (129 : Int32) v5 ev5) k_X2_init m_44 rfl rfl ⟨Nat.le_of_ble_eq_true rfl, Nat.le_of_ble_eq_true rfl⟩ hI rfl hl.1 rfl (Nat.le_of_ble_eq_true rfl) dX1_init_33 ⟨by decide, by decide⟩) hI (fun H locs hI => ?_)
  obtain ⟨f6, ef6, hq⟩ := b_s hq
  refine fa_sq hx hb hI (by decide) (ci := 5) rfl rfl ef6 dX1_init_36 (fun H locs hI => ?_)
  refine lv_iinc (v := (1 : Int32)) (lv' := [(1, .int (1 : Int32)), (0, .ref a0)]) hx hb dX1_init_37 hl (k := 0) rfl (by decide) (by decide) rfl (fun ls hl => ?_)
  refine lv_goto (tgt := 15) hx hb dX1_init_40 (by decide) ?_
  refine lv_iload_n hx hb dX1_init_15 rfl (lv_at hl 0 rfl) ?_
  refine lv_bipush (v := (6 : Int32)) hx hb dX1_init_16 (by decide) ?_
  refine lv_icmp_ge (tgt := 43) hx hb dX1_init_18 (by decide) (fun c => absurd c (by decide)) (fun _ => ?_)
  exact sg_X1_init_1 hx hb hr hlocks hin hC a0 f6 v5.2 H locs ls hI (lv_sub hl [1, 0] rfl) hq

abbrev rm_X2_copyFrom : Room := { frames := 2, cells := 0, slots := 0, locals := 120 }
theorem k_X2_copyFrom : g_CV yX2_copyFrom cX2_copyFrom 2 none 1 := ⟨⟨m_502, m_3, by decide +kernel⟩, m_500, m_501⟩
set_option maxHeartbeats 4000000 in
set_option maxRecDepth 100000 in
theorem c_X2_copyFrom (l : Launch) (V : Nat → Nat) (g : GH) (D : va_G) (cT : Nat → ClassId) (f : GH) (n : Nat) (a0 : Nat) (a1 : Nat) (o : GH) (hq : p_X2_copyFrom V g f a0 a1 = some o) : Met l yX2_copyFrom (Cond.code yX2_copyFrom cX2_copyFrom 2 none :: g_B) rm_X2_copyFrom (va_Pc [.ref a0, .ref a1] (g_I V g D cT f n)) (g_Wv V D cT o n) 0 0 (g_A V) := by
  refine g_begin (own := RX2) [.ref a0, .ref a1] [(0, .ref a0), (1, .ref a1)] (g_A V) (fun _ h => h) (by decide) rfl (Nat.le_of_ble_eq_true rfl) rfl ?_
  intro p e s m args below meth c hx hb hr hlocks hin hC hI ls hl
  obtain ⟨hx, hb, hml, hown, hB⟩ := id hC
  obtain ⟨H, hH⟩ : ∃ H, H = s.heap := ⟨_, rfl⟩
  obtain ⟨locs, hlocs⟩ : ∃ L : List Loc, L = [] := ⟨_, rfl⟩
  rw [← hH, ← hlocs] at hI ⊢
  clear hH hlocs
  unfold p_X2_copyFrom at hq
  replace hq := (h_me_eq hq).2
  refine lv_aload_n hx hb dX2_copyFrom_0 rfl (lv_at hl 1 rfl) ?_
  obtain ⟨v1, ev1, hq⟩ := b_s hq
  refine fa_gr (own := RX2) (ref := "CoastlineRuler$Coast") (k := 0) hx hb hB inB_RX2 hown hI rfl (by decide) m_48 (fun _ h9 => h9) ev1 dX2_copyFrom_1 ?_
  refine lv_iconst (v := (0 : Int32)) hx hb dX2_copyFrom_4 (by decide) ?_
  refine lv_aload_n hx hb dX2_copyFrom_5 rfl (lv_at hl 0 rfl) ?_
  obtain ⟨v2, ev2, hq⟩ := b_s hq
  refine fa_gr (own := RX2) (ref := "CoastlineRuler$Coast") (k := 0) hx hb hB inB_RX2 hown hI rfl (by decide) m_48 (fun _ h9 => h9) ev2 dX2_copyFrom_6 ?_
  refine lv_iconst (v := (0 : Int32)) hx hb dX2_copyFrom_9 (by decide) ?_
  refine lv_aload_n hx hb dX2_copyFrom_10 rfl (lv_at hl 1 rfl) ?_
  obtain ⟨v3, ev3, hq⟩ := b_s hq
  refine fa_gi (own := RX2) (ref := "CoastlineRuler$Coast") (k := 2) hx hb hB inB_RX2 hown hI rfl (by decide) m_54 (fun _ h9 => h9) ev3 dX2_copyFrom_11 ?_
  obtain ⟨f4, ef4, hq⟩ := b_s hq
  refine fa_cp (own := RX2) hx hb (hml.trans hl.1.symm) hB hown m_238 m_240 m_239 m_13 hI ef4 (by decide) (by decide) dX2_copyFrom_14 (fun H locs hI => ?_)
  refine lv_aload_n hx hb dX2_copyFrom_17 rfl (lv_at hl 1 rfl) ?_
  obtain ⟨v5, ev5, hq⟩ := b_s hq
  refine fa_gr (own := RX2) (ref := "CoastlineRuler$Coast") (k := 1) hx hb hB inB_RX2 hown hI rfl (by decide) m_51 (fun _ h9 => h9) ev5 dX2_copyFrom_18 ?_
  refine lv_iconst (v := (0 : Int32)) hx hb dX2_copyFrom_21 (by decide) ?_
  refine lv_aload_n hx hb dX2_copyFrom_22 rfl (lv_at hl 0 rfl) ?_
  obtain ⟨v6, ev6, hq⟩ := b_s hq
  refine fa_gr (own := RX2) (ref := "CoastlineRuler$Coast") (k := 1) hx hb hB inB_RX2 hown hI rfl (by decide) m_51 (fun _ h9 => h9) ev6 dX2_copyFrom_23 ?_
  refine lv_iconst (v := (0 : Int32)) hx hb dX2_copyFrom_26 (by decide) ?_
  refine lv_aload_n hx hb dX2_copyFrom_27 rfl (lv_at hl 1 rfl) ?_
  obtain ⟨v7, ev7, hq⟩ := b_s hq
  refine fa_gi (own := RX2) (ref := "CoastlineRuler$Coast") (k := 2) hx hb hB inB_RX2 hown hI rfl (by decide) m_54 (fun _ h9 => h9) ev7 dX2_copyFrom_28 ?_
  obtain ⟨f8, ef8, hq⟩ := b_s hq
  refine fa_cp (own := RX2) hx hb (hml.trans hl.1.symm) hB hown m_238 m_240 m_239 m_13 hI ef8 (by decide) (by decide) dX2_copyFrom_31 (fun H locs hI => ?_)
  refine lv_aload_n hx hb dX2_copyFrom_34 rfl (lv_at hl 0 rfl) ?_
  refine lv_aload_n hx hb dX2_copyFrom_35 rfl (lv_at hl 1 rfl) ?_
  obtain ⟨v9, ev9, hq⟩ := b_s hq
  refine fa_gi (own := RX2) (ref := "CoastlineRuler$Coast") (k := 2) hx hb hB inB_RX2 hown hI rfl (by decide) m_54 (fun _ h9 => h9) ev9 dX2_copyFrom_36 ?_
  obtain ⟨f10, ef10, hq⟩ := b_s hq
  refine fa_pt (own := RX2) (ref := "CoastlineRuler$Coast") (k := 2) hx hb hB inB_RX2 tyX2_ok nmX2 hown hI rfl (by decide) m_54 (fun _ h9 => h9) (by decide) rfl rfl ef10 dX2_copyFrom_39 (fun H locs hI => ?_)
  refine lv_aload_n hx hb dX2_copyFrom_42 rfl (lv_at hl 0 rfl) ?_
  refine lv_aload_n hx hb dX2_copyFrom_43 rfl (lv_at hl 1 rfl) ?_
  obtain ⟨v11, ev11, hq⟩ := b_s hq
  refine fa_gi (own := RX2) (ref := "CoastlineRuler$Coast") (k := 3) hx hb hB inB_RX2 hown hI rfl (by decide) m_58 (fun _ h9 => h9) ev11 dX2_copyFrom_44 ?_
  obtain ⟨_, ev12, hq⟩ := b_s hq
  obtain ⟨f13, ef13, hq⟩ := b_s hq
  refine fa_pt (own := RX2) (ref := "CoastlineRuler$Coast") (k := 3) hx hb hB inB_RX2 tyX2_ok nmX2 hown hI rfl (by decide) m_58 (fun _ h9 => h9) (by decide) (h_bz_eq ev12).2.1 (h_bz_eq ev12).2.2 ef13 dX2_copyFrom_47 (fun H locs hI => ?_)
  exact ge_Wv hx hb hlocks hr hI (Option.some.inj hq) dX2_copyFrom_50

abbrev rm_X1_copyFrom : Room := { frames := 3, cells := 0, slots := 0, locals := 141 }
theorem k_X1_copyFrom : g_CV yX1_copyFrom cX1_copyFrom 3 none 1 := ⟨⟨m_498, m_2, by decide +kernel⟩, m_496, m_497⟩
set_option maxHeartbeats 4000000 in
set_option maxRecDepth 100000 in
theorem c_X1_copyFrom (l : Launch) (V : Nat → Nat) (g : GH) (D : va_G) (cT : Nat → ClassId) (f : GH) (n : Nat) (a0 : Nat) (a1 : Nat) (o : GH) (hq : p_X1_copyFrom V g f a0 a1 = some o) : Met l yX1_copyFrom (Cond.code yX1_copyFrom cX1_copyFrom 3 none :: g_B) rm_X1_copyFrom (va_Pc [.ref a0, .ref a1] (g_I V g D cT f n)) (g_Wv V D cT o n) 0 0 (g_A V) := by
  refine g_begin (own := RX1) [.ref a0, .ref a1] [(0, .ref a0), (1, .ref a1)] (g_A V) (fun _ h => h) (by decide) rfl (Nat.le_of_ble_eq_true rfl) rfl ?_
  intro p e s m args below meth c hx hb hr hlocks hin hC hI ls hl
  obtain ⟨hx, hb, hml, hown, hB⟩ := id hC
  obtain ⟨H, hH⟩ : ∃ H, H = s.heap := ⟨_, rfl⟩
  obtain ⟨locs, hlocs⟩ : ∃ L : List Loc, L = [] := ⟨_, rfl⟩
  rw [← hH, ← hlocs] at hI ⊢
  clear hH hlocs
  unfold p_X1_copyFrom at hq
  replace hq := (h_me_eq hq).2
  refine lv_iconst (v := (0 : Int32)) hx hb dX1_copyFrom_0 (by decide) ?_
  refine lv_istore_n (lv' := [(2, .int (0 : Int32)), (0, .ref a0), (1, .ref a1)]) hx hb dX1_copyFrom_1 rfl hl (by decide) rfl (fun ls hl => ?_)
  have hl2 : ∀ (K31 : Nat → Nat → GH → Option GH) (hK31 : ∀ (x0 : Nat) (x1 : Nat) (f : GH) (H : Heap) (locs : List Loc) (ls : Array Slot), g_at (g_A V) V g D cT f n s H locs → lv_has ls 3 [(0, .ref x0), (1, .ref x1)] → K31 x0 x1 f = some o → W p l e rm_X1_copyFrom s m args below meth c H locs 0 0 (MQ below (g_Wv V D cT o n) args s 0 0 (g_A V)) (F0 m 31 ls [])) (N : Nat) (x0 : Nat) (x1 : Nat) (x2 : Int32) (f : GH) (H : Heap) (locs : List Loc) (ls : Array Slot), g_at (g_A V) V g D cT f n s H locs → lv_has ls 3 [(0, .ref x0), (1, .ref x1), (2, .int x2)] → p_X1_copyFrom_l2 V g K31 N x0 x1 x2 f = some o → W p l e rm_X1_copyFrom s m args below meth c H locs 0 0 (MQ below (g_Wv V D cT o n) args s 0 0 (g_A V)) (F0 m 2 ls []) := by
    intro K31 hK31 N
    induction N with
    | zero =>
      intro x0 x1 x2 f H locs ls hI hl hq
      rw [p_X1_copyFrom_l2] at hq
      cases hq
    | succ N ih =>
      intro x0 x1 x2 f H locs ls hI hl hq
      rw [p_X1_copyFrom_l2] at hq
      refine lv_iload_n hx hb dX1_copyFrom_2 rfl (lv_at hl 2 rfl) ?_
      refine lv_aload_n hx hb dX1_copyFrom_3 rfl (lv_at hl 1 rfl) ?_
      obtain ⟨v1, ev1, hq⟩ := b_s hq
      refine fa_gi (own := RX1) (ref := "CoastlineRuler$Chart") (k := 1) hx hb hB inB_RX1 hown hI rfl (by decide) m_75 (fun _ h9 => h9) ev1 dX1_copyFrom_4 ?_
      refine lv_icmp_ge (tgt := 31) hx hb dX1_copyFrom_7 (by decide) (fun c2 => ?_) (fun c2 => ?_)
      · replace hq := i_t c2 hq
        exact hK31 x0 x1 f H locs ls hI (lv_sub hl [0, 1] rfl) hq
      · replace hq := i_f c2 hq
        refine lv_aload_n hx hb dX1_copyFrom_10 rfl (lv_at hl 0 rfl) ?_
        obtain ⟨v3, ev3, hq⟩ := b_s hq
        refine fa_gr (own := RX1) (ref := "CoastlineRuler$Chart") (k := 0) hx hb hB inB_RX1 hown hI rfl (by decide) m_72 (fun _ h9 => h9) ev3 dX1_copyFrom_11 ?_
        refine lv_iload_n hx hb dX1_copyFrom_14 rfl (lv_at hl 2 rfl) ?_
        obtain ⟨v4, ev4, hq⟩ := b_s hq
        refine fa_lq hx hb hI (by decide) rfl ev4 dX1_copyFrom_15 ?_
        refine lv_aload_n hx hb dX1_copyFrom_16 rfl (lv_at hl 1 rfl) ?_
        obtain ⟨v5, ev5, hq⟩ := b_s hq
        refine fa_gr (own := RX1) (ref := "CoastlineRuler$Chart") (k := 0) hx hb hB inB_RX1 hown hI rfl (by decide) m_72 (fun _ h9 => h9) ev5 dX1_copyFrom_17 ?_
        refine lv_iload_n hx hb dX1_copyFrom_20 rfl (lv_at hl 2 rfl) ?_
        obtain ⟨v6, ev6, hq⟩ := b_s hq
        refine fa_lq hx hb hI (by decide) rfl ev6 dX1_copyFrom_21 ?_
        obtain ⟨v7, ev7, hq⟩ := b_s hq
        refine gw_v (g_runV (As := [.ref v6]) (rest := []) (ci := 5) hC (c_X2_copyFrom l V g D cT f n v4 v6 v7 ev7) k_X2_copyFrom m_499 rfl rfl ⟨Nat.le_of_ble_eq_true rfl, Nat.le_of_ble_eq_true rfl⟩ hI rfl rfl (h_me_eq ev7).1 rfl hl.1 rfl (Nat.le_of_ble_eq_true rfl) dX1_copyFrom_22 ⟨by decide, by decide⟩) hI (fun H locs hI => ?_)
        refine lv_iinc (v := x2 + (1 : Int32)) (lv' := [(2, .int (x2 + (1 : Int32))), (0, .ref x0), (1, .ref x1)]) hx hb dX1_copyFrom_25 hl (k := 2) rfl rfl (by decide) rfl (fun ls hl => ?_)
        refine lv_goto (tgt := 2) hx hb dX1_copyFrom_28 (by decide) ?_
        exact ih x0 x1 (x2 + (1 : Int32)) v7 H locs ls hI (lv_sub hl [1, 2, 0] rfl) hq
  refine hl2 _ ?_ FU a0 a1 (0 : Int32) f H locs ls hI (lv_sub hl [1, 2, 0] rfl) hq
  · intro x0 x1 f H locs ls hI hl hq
    refine lv_aload_n hx hb dX1_copyFrom_31 rfl (lv_at hl 0 rfl) ?_
    refine lv_aload_n hx hb dX1_copyFrom_32 rfl (lv_at hl 1 rfl) ?_
    obtain ⟨v8, ev8, hq⟩ := b_s hq
    refine fa_gi (own := RX1) (ref := "CoastlineRuler$Chart") (k := 1) hx hb hB inB_RX1 hown hI rfl (by decide) m_75 (fun _ h9 => h9) ev8 dX1_copyFrom_33 ?_
    obtain ⟨f9, ef9, hq⟩ := b_s hq
    refine fa_pt (own := RX1) (ref := "CoastlineRuler$Chart") (k := 1) hx hb hB inB_RX1 tyX1_ok nmX1 hown hI rfl (by decide) m_75 (fun _ h9 => h9) (by decide) rfl rfl ef9 dX1_copyFrom_36 (fun H locs hI => ?_)
    refine lv_aload_n hx hb dX1_copyFrom_39 rfl (lv_at hl 0 rfl) ?_
    refine lv_aload_n hx hb dX1_copyFrom_40 rfl (lv_at hl 1 rfl) ?_
    obtain ⟨v10, ev10, hq⟩ := b_s hq
    refine fa_gi (own := RX1) (ref := "CoastlineRuler$Chart") (k := 2) hx hb hB inB_RX1 hown hI rfl (by decide) m_79 (fun _ h9 => h9) ev10 dX1_copyFrom_41 ?_
    obtain ⟨_, ev11, hq⟩ := b_s hq
    obtain ⟨f12, ef12, hq⟩ := b_s hq
    refine fa_pt (own := RX1) (ref := "CoastlineRuler$Chart") (k := 2) hx hb hB inB_RX1 tyX1_ok nmX1 hown hI rfl (by decide) m_79 (fun _ h9 => h9) (by decide) (h_bz_eq ev11).2.1 (h_bz_eq ev11).2.2 ef12 dX1_copyFrom_44 (fun H locs hI => ?_)
    refine lv_aload_n hx hb dX1_copyFrom_47 rfl (lv_at hl 0 rfl) ?_
    refine lv_aload_n hx hb dX1_copyFrom_48 rfl (lv_at hl 1 rfl) ?_
    obtain ⟨v13, ev13, hq⟩ := b_s hq
    refine fa_gi (own := RX1) (ref := "CoastlineRuler$Chart") (k := 3) hx hb hB inB_RX1 hown hI rfl (by decide) m_81 (fun _ h9 => h9) ev13 dX1_copyFrom_49 ?_
    obtain ⟨f14, ef14, hq⟩ := b_s hq
    refine fa_pt (own := RX1) (ref := "CoastlineRuler$Chart") (k := 3) hx hb hB inB_RX1 tyX1_ok nmX1 hown hI rfl (by decide) m_81 (fun _ h9 => h9) (by decide) rfl rfl ef14 dX1_copyFrom_52 (fun H locs hI => ?_)
    refine lv_aload_n hx hb dX1_copyFrom_55 rfl (lv_at hl 0 rfl) ?_
    refine lv_aload_n hx hb dX1_copyFrom_56 rfl (lv_at hl 1 rfl) ?_
    obtain ⟨v15, ev15, hq⟩ := b_s hq
    refine fa_gi (own := RX1) (ref := "CoastlineRuler$Chart") (k := 4) hx hb hB inB_RX1 hown hI rfl (by decide) m_83 (fun _ h9 => h9) ev15 dX1_copyFrom_57 ?_
    obtain ⟨f16, ef16, hq⟩ := b_s hq
    refine fa_pt (own := RX1) (ref := "CoastlineRuler$Chart") (k := 4) hx hb hB inB_RX1 tyX1_ok nmX1 hown hI rfl (by decide) m_83 (fun _ h9 => h9) (by decide) rfl rfl ef16 dX1_copyFrom_60 (fun H locs hI => ?_)
    refine lv_aload_n hx hb dX1_copyFrom_63 rfl (lv_at hl 0 rfl) ?_
    refine lv_aload_n hx hb dX1_copyFrom_64 rfl (lv_at hl 1 rfl) ?_
    obtain ⟨v17, ev17, hq⟩ := b_s hq
    refine fa_gi (own := RX1) (ref := "CoastlineRuler$Chart") (k := 5) hx hb hB inB_RX1 hown hI rfl (by decide) m_85 (fun _ h9 => h9) ev17 dX1_copyFrom_65 ?_
    obtain ⟨f18, ef18, hq⟩ := b_s hq
    refine fa_pt (own := RX1) (ref := "CoastlineRuler$Chart") (k := 5) hx hb hB inB_RX1 tyX1_ok nmX1 hown hI rfl (by decide) m_85 (fun _ h9 => h9) (by decide) rfl rfl ef18 dX1_copyFrom_68 (fun H locs hI => ?_)
    exact ge_Wv hx hb hlocks hr hI (Option.some.inj hq) dX1_copyFrom_71

abbrev rm_X2_insert : Room := { frames := 2, cells := 0, slots := 0, locals := 120 }
theorem k_X2_insert : g_CV yX2_insert cX2_insert 4 none 3 := ⟨⟨m_237, m_3, by decide +kernel⟩, m_235, m_236⟩
set_option maxHeartbeats 4000000 in
set_option maxRecDepth 100000 in
theorem c_X2_insert (l : Launch) (V : Nat → Nat) (g : GH) (D : va_G) (cT : Nat → ClassId) (f : GH) (n : Nat) (a0 : Nat) (a1 : Int32) (a2 : Int32) (a3 : Int32) (o : GH) (hq : p_X2_insert V g f a0 a1 a2 a3 = some o) : Met l yX2_insert (Cond.code yX2_insert cX2_insert 4 none :: g_B) rm_X2_insert (va_Pc [.ref a0, .int a1, .int a2, .int a3] (g_I V g D cT f n)) (g_Wv V D cT o n) 0 0 (g_A V) := by
  refine g_begin (own := RX2) [.ref a0, .int a1, .int a2, .int a3] [(0, .ref a0), (1, .int a1), (2, .int a2), (3, .int a3)] (g_A V) (fun _ h => h) (by decide) rfl (Nat.le_of_ble_eq_true rfl) rfl ?_
  intro p e s m args below meth c hx hb hr hlocks hin hC hI ls hl
  obtain ⟨hx, hb, hml, hown, hB⟩ := id hC
  obtain ⟨H, hH⟩ : ∃ H, H = s.heap := ⟨_, rfl⟩
  obtain ⟨locs, hlocs⟩ : ∃ L : List Loc, L = [] := ⟨_, rfl⟩
  rw [← hH, ← hlocs] at hI ⊢
  clear hH hlocs
  unfold p_X2_insert at hq
  replace hq := (h_me_eq hq).2
  refine lv_aload_n hx hb dX2_insert_0 rfl (lv_at hl 0 rfl) ?_
  obtain ⟨v1, ev1, hq⟩ := b_s hq
  refine fa_gr (own := RX2) (ref := "CoastlineRuler$Coast") (k := 0) hx hb hB inB_RX2 hown hI rfl (by decide) m_48 (fun _ h9 => h9) ev1 dX2_insert_1 ?_
  refine lv_iload_n hx hb dX2_insert_4 rfl (lv_at hl 1 rfl) ?_
  refine lv_aload_n hx hb dX2_insert_5 rfl (lv_at hl 0 rfl) ?_
  obtain ⟨v2, ev2, hq⟩ := b_s hq
  refine fa_gr (own := RX2) (ref := "CoastlineRuler$Coast") (k := 0) hx hb hB inB_RX2 hown hI rfl (by decide) m_48 (fun _ h9 => h9) ev2 dX2_insert_6 ?_
  refine lv_iload_n hx hb dX2_insert_9 rfl (lv_at hl 1 rfl) ?_
  refine lv_iconst (v := (1 : Int32)) hx hb dX2_insert_10 (by decide) ?_
  refine lv_iadd hx hb dX2_insert_11 ?_
  refine lv_aload_n hx hb dX2_insert_12 rfl (lv_at hl 0 rfl) ?_
  obtain ⟨v3, ev3, hq⟩ := b_s hq
  refine fa_gi (own := RX2) (ref := "CoastlineRuler$Coast") (k := 2) hx hb hB inB_RX2 hown hI rfl (by decide) m_54 (fun _ h9 => h9) ev3 dX2_insert_13 ?_
  refine lv_iload_n hx hb dX2_insert_16 rfl (lv_at hl 1 rfl) ?_
  refine lv_isub hx hb dX2_insert_17 ?_
  obtain ⟨f4, ef4, hq⟩ := b_s hq
  refine fa_cp (own := RX2) hx hb (hml.trans hl.1.symm) hB hown m_238 m_240 m_239 m_13 hI ef4 (by decide) (by decide) dX2_insert_18 (fun H locs hI => ?_)
  refine lv_aload_n hx hb dX2_insert_21 rfl (lv_at hl 0 rfl) ?_
  obtain ⟨v5, ev5, hq⟩ := b_s hq
  refine fa_gr (own := RX2) (ref := "CoastlineRuler$Coast") (k := 1) hx hb hB inB_RX2 hown hI rfl (by decide) m_51 (fun _ h9 => h9) ev5 dX2_insert_22 ?_
  refine lv_iload_n hx hb dX2_insert_25 rfl (lv_at hl 1 rfl) ?_
  refine lv_aload_n hx hb dX2_insert_26 rfl (lv_at hl 0 rfl) ?_
  obtain ⟨v6, ev6, hq⟩ := b_s hq
  refine fa_gr (own := RX2) (ref := "CoastlineRuler$Coast") (k := 1) hx hb hB inB_RX2 hown hI rfl (by decide) m_51 (fun _ h9 => h9) ev6 dX2_insert_27 ?_
  refine lv_iload_n hx hb dX2_insert_30 rfl (lv_at hl 1 rfl) ?_
  refine lv_iconst (v := (1 : Int32)) hx hb dX2_insert_31 (by decide) ?_
  refine lv_iadd hx hb dX2_insert_32 ?_
  refine lv_aload_n hx hb dX2_insert_33 rfl (lv_at hl 0 rfl) ?_
  obtain ⟨v7, ev7, hq⟩ := b_s hq
  refine fa_gi (own := RX2) (ref := "CoastlineRuler$Coast") (k := 2) hx hb hB inB_RX2 hown hI rfl (by decide) m_54 (fun _ h9 => h9) ev7 dX2_insert_34 ?_
  refine lv_iload_n hx hb dX2_insert_37 rfl (lv_at hl 1 rfl) ?_
  refine lv_isub hx hb dX2_insert_38 ?_
  obtain ⟨f8, ef8, hq⟩ := b_s hq
  refine fa_cp (own := RX2) hx hb (hml.trans hl.1.symm) hB hown m_238 m_240 m_239 m_13 hI ef8 (by decide) (by decide) dX2_insert_39 (fun H locs hI => ?_)
  refine lv_aload_n hx hb dX2_insert_42 rfl (lv_at hl 0 rfl) ?_
  obtain ⟨v9, ev9, hq⟩ := b_s hq
  refine fa_gr (own := RX2) (ref := "CoastlineRuler$Coast") (k := 0) hx hb hB inB_RX2 hown hI rfl (by decide) m_48 (fun _ h9 => h9) ev9 dX2_insert_43 ?_
  refine lv_iload_n hx hb dX2_insert_46 rfl (lv_at hl 1 rfl) ?_
  refine lv_iload_n hx hb dX2_insert_47 rfl (lv_at hl 2 rfl) ?_
  obtain ⟨f10, ef10, hq⟩ := b_s hq
  refine fa_si hx hb hI ef10 dX2_insert_48 (fun H locs hI => ?_)
  refine lv_aload_n hx hb dX2_insert_49 rfl (lv_at hl 0 rfl) ?_
  obtain ⟨v11, ev11, hq⟩ := b_s hq
  refine fa_gr (own := RX2) (ref := "CoastlineRuler$Coast") (k := 1) hx hb hB inB_RX2 hown hI rfl (by decide) m_51 (fun _ h9 => h9) ev11 dX2_insert_50 ?_
  refine lv_iload_n hx hb dX2_insert_53 rfl (lv_at hl 1 rfl) ?_
  refine lv_iload_n hx hb dX2_insert_54 rfl (lv_at hl 3 rfl) ?_
  obtain ⟨f12, ef12, hq⟩ := b_s hq
  refine fa_si hx hb hI ef12 dX2_insert_55 (fun H locs hI => ?_)
  refine lv_aload_n hx hb dX2_insert_56 rfl (lv_at hl 0 rfl) ?_
  refine lv_dup hx hb dX2_insert_57 rfl ?_
  obtain ⟨v13, ev13, hq⟩ := b_s hq
  refine fa_gi (own := RX2) (ref := "CoastlineRuler$Coast") (k := 2) hx hb hB inB_RX2 hown hI rfl (by decide) m_54 (fun _ h9 => h9) ev13 dX2_insert_58 ?_
  refine lv_iconst (v := (1 : Int32)) hx hb dX2_insert_61 (by decide) ?_
  refine lv_iadd hx hb dX2_insert_62 ?_
  obtain ⟨f14, ef14, hq⟩ := b_s hq
  refine fa_pt (own := RX2) (ref := "CoastlineRuler$Coast") (k := 2) hx hb hB inB_RX2 tyX2_ok nmX2 hown hI rfl (by decide) m_54 (fun _ h9 => h9) (by decide) rfl rfl ef14 dX2_insert_63 (fun H locs hI => ?_)
  exact ge_Wv hx hb hlocks hr hI (Option.some.inj hq) dX2_insert_66

abbrev rm_X1_place : Room := { frames := 3, cells := 0, slots := 0, locals := 143 }
theorem k_X1_place : g_CV yX1_place cX1_place 5 none 2 := ⟨⟨m_233, m_2, by decide +kernel⟩, m_231, m_232⟩
set_option maxHeartbeats 4000000 in
set_option maxRecDepth 100000 in
theorem c_X1_place (l : Launch) (V : Nat → Nat) (g : GH) (D : va_G) (cT : Nat → ClassId) (f : GH) (n : Nat) (a0 : Nat) (a1 : Nat) (a2 : Int32) (o : GH) (hq : p_X1_place V g f a0 a1 a2 = some o) : Met l yX1_place (Cond.code yX1_place cX1_place 5 none :: g_B) rm_X1_place (va_Pc [.ref a0, .ref a1, .int a2] (g_I V g D cT f n)) (g_Wv V D cT o n) 0 0 (g_A V) := by
  refine g_begin (own := RX1) [.ref a0, .ref a1, .int a2] [(0, .ref a0), (1, .ref a1), (2, .int a2)] (g_A V) (fun _ h => h) (by decide) rfl (Nat.le_of_ble_eq_true rfl) rfl ?_
  intro p e s m args below meth c hx hb hr hlocks hin hC hI ls hl
  obtain ⟨hx, hb, hml, hown, hB⟩ := id hC
  obtain ⟨H, hH⟩ : ∃ H, H = s.heap := ⟨_, rfl⟩
  obtain ⟨locs, hlocs⟩ : ∃ L : List Loc, L = [] := ⟨_, rfl⟩
  rw [← hH, ← hlocs] at hI ⊢
  clear hH hlocs
  unfold p_X1_place at hq
  replace hq := (h_me_eq hq).2
  refine lv_aload_n hx hb dX1_place_0 rfl (lv_at hl 0 rfl) ?_
  obtain ⟨v1, ev1, hq⟩ := b_s hq
  refine fa_gr (own := RX1) (ref := "CoastlineRuler$Chart") (k := 0) hx hb hB inB_RX1 hown hI rfl (by decide) m_72 (fun _ h9 => h9) ev1 dX1_place_1 ?_
  refine lv_aload_n hx hb dX1_place_4 rfl (lv_at hl 0 rfl) ?_
  obtain ⟨v2, ev2, hq⟩ := b_s hq
  refine fa_gi (own := RX1) (ref := "CoastlineRuler$Chart") (k := 1) hx hb hB inB_RX1 hown hI rfl (by decide) m_75 (fun _ h9 => h9) ev2 dX1_place_5 ?_
  obtain ⟨v3, ev3, hq⟩ := b_s hq
  refine fa_lq hx hb hI (by decide) rfl ev3 dX1_place_8 ?_
  refine lv_astore_n (lv' := [(3, .ref v3), (0, .ref a0), (1, .ref a1), (2, .int a2)]) hx hb dX1_place_9 rfl hl (by decide) rfl (fun ls hl => ?_)
  refine lv_aload_n hx hb dX1_place_10 rfl (lv_at hl 0 rfl) ?_
  refine lv_iload_n hx hb dX1_place_11 rfl (lv_at hl 3 rfl) ?_
  obtain ⟨_, ev4, hq⟩ := b_s hq
  obtain ⟨f5, ef5, hq⟩ := b_s hq
  refine fa_pt (own := RX1) (ref := "CoastlineRuler$Coast") (k := 3) hx hb hB inB_RX2 tyX2_ok nmX2 hown hI rfl (by decide) m_59 (fun _ h9 => h9) (by decide) (h_bz_eq ev4).2.1 (h_bz_eq ev4).2.2 ef5 dX1_place_12 (fun H locs hI => ?_)
  refine lv_iconst (v := (0 : Int32)) hx hb dX1_place_15 (by decide) ?_
  refine lv_istore (lv' := [(4, .int (0 : Int32)), (3, .ref v3), (0, .ref a0), (1, .ref a1), (2, .int a2)]) hx hb dX1_place_16 hl (by decide) rfl (fun ls hl => ?_)
  have hl18 : ∀ (K51 : Nat → GH → Option GH) (hK51 : ∀ (x0 : Nat) (f : GH) (H : Heap) (locs : List Loc) (ls : Array Slot), g_at (g_A V) V g D cT f n s H locs → lv_has ls 5 [(0, .ref x0)] → K51 x0 f = some o → W p l e rm_X1_place s m args below meth c H locs 0 0 (MQ below (g_Wv V D cT o n) args s 0 0 (g_A V)) (F0 m 51 ls [])) (N : Nat) (x0 : Nat) (x1 : Nat) (x3 : Nat) (x4 : Int32) (f : GH) (H : Heap) (locs : List Loc) (ls : Array Slot), g_at (g_A V) V g D cT f n s H locs → lv_has ls 5 [(0, .ref x0), (1, .ref x1), (3, .ref x3), (4, .int x4)] → p_X1_place_l18 V g K51 N x0 x1 x3 x4 f = some o → W p l e rm_X1_place s m args below meth c H locs 0 0 (MQ below (g_Wv V D cT o n) args s 0 0 (g_A V)) (F0 m 18 ls []) := by
    intro K51 hK51 N
    induction N with
    | zero =>
      intro x0 x1 x3 x4 f H locs ls hI hl hq
      rw [p_X1_place_l18] at hq
      cases hq
    | succ N ih =>
      intro x0 x1 x3 x4 f H locs ls hI hl hq
      rw [p_X1_place_l18] at hq
      refine lv_iload hx hb dX1_place_18 (lv_at hl 3 rfl) ?_
      refine lv_iconst (v := (1 : Int32)) hx hb dX1_place_20 (by decide) ?_
      refine lv_iadd hx hb dX1_place_21 ?_
      refine lv_aload_n hx hb dX1_place_22 rfl (lv_at hl 1 rfl) ?_
      obtain ⟨v6, ev6, hq⟩ := b_s hq
      refine fs_al hx hb hI (by decide) ev6 dX1_place_23 ?_
      refine lv_icmp_ge (tgt := 51) hx hb dX1_place_24 (by decide) (fun c7 => ?_) (fun c7 => ?_)
      · replace hq := i_t c7 hq
        exact hK51 x0 f H locs ls hI (lv_sub hl [0] rfl) hq
      · replace hq := i_f c7 hq
        refine lv_aload_n hx hb dX1_place_27 rfl (lv_at hl 2 rfl) ?_
        refine lv_aload_n hx hb dX1_place_28 rfl (lv_at hl 2 rfl) ?_
        obtain ⟨v8, ev8, hq⟩ := b_s hq
        refine fa_gi (own := RX1) (ref := "CoastlineRuler$Coast") (k := 2) hx hb hB inB_RX2 hown hI rfl (by decide) m_55 (fun _ h9 => h9) ev8 dX1_place_29 ?_
        refine lv_aload_n hx hb dX1_place_32 rfl (lv_at hl 1 rfl) ?_
        refine lv_iload hx hb dX1_place_33 (lv_at hl 3 rfl) ?_
        obtain ⟨v9, ev9, hq⟩ := b_s hq
        refine fs_li hx hb hI ev9 dX1_place_35 ?_
        refine lv_aload_n hx hb dX1_place_36 rfl (lv_at hl 1 rfl) ?_
        refine lv_iload hx hb dX1_place_37 (lv_at hl 3 rfl) ?_
        refine lv_iconst (v := (1 : Int32)) hx hb dX1_place_39 (by decide) ?_
        refine lv_iadd hx hb dX1_place_40 ?_
        obtain ⟨v10, ev10, hq⟩ := b_s hq
        refine fs_li hx hb hI ev10 dX1_place_41 ?_
        obtain ⟨v11, ev11, hq⟩ := b_s hq
        refine gw_v (g_runV (As := [.int v8, .int v9, .int v10]) (rest := []) (ci := 5) hC (c_X2_insert l V g D cT f n x3 v8 v9 v10 v11 ev11) k_X2_insert m_234 rfl rfl ⟨Nat.le_of_ble_eq_true rfl, Nat.le_of_ble_eq_true rfl⟩ hI rfl rfl (h_me_eq ev11).1 rfl hl.1 rfl (Nat.le_of_ble_eq_true rfl) dX1_place_42 ⟨by decide, by decide⟩) hI (fun H locs hI => ?_)
        refine lv_iinc (v := x4 + (2 : Int32)) (lv' := [(4, .int (x4 + (2 : Int32))), (0, .ref x0), (1, .ref x1), (3, .ref x3)]) hx hb dX1_place_45 hl (k := 3) rfl rfl (by decide) rfl (fun ls hl => ?_)
        refine lv_goto (tgt := 18) hx hb dX1_place_48 (by decide) ?_
        exact ih x0 x1 x3 (x4 + (2 : Int32)) v11 H locs ls hI (lv_sub hl [1, 2, 3, 0] rfl) hq
  refine hl18 _ ?_ FU a0 a1 v3 (0 : Int32) f5 H locs ls hI (lv_sub hl [2, 3, 1, 0] rfl) hq
  · intro x0 f H locs ls hI hl hq
    refine lv_aload_n hx hb dX1_place_51 rfl (lv_at hl 0 rfl) ?_
    refine lv_dup hx hb dX1_place_52 rfl ?_
    obtain ⟨v12, ev12, hq⟩ := b_s hq
    refine fa_gi (own := RX1) (ref := "CoastlineRuler$Chart") (k := 1) hx hb hB inB_RX1 hown hI rfl (by decide) m_75 (fun _ h9 => h9) ev12 dX1_place_53 ?_
    refine lv_iconst (v := (1 : Int32)) hx hb dX1_place_56 (by decide) ?_
    refine lv_iadd hx hb dX1_place_57 ?_
    obtain ⟨f13, ef13, hq⟩ := b_s hq
    refine fa_pt (own := RX1) (ref := "CoastlineRuler$Chart") (k := 1) hx hb hB inB_RX1 tyX1_ok nmX1 hown hI rfl (by decide) m_75 (fun _ h9 => h9) (by decide) rfl rfl ef13 dX1_place_58 (fun H locs hI => ?_)
    exact ge_Wv hx hb hlocks hr hI (Option.some.inj hq) dX1_place_61

abbrev rm_X1_pointTotal : Room := { frames := 2, cells := 0, slots := 0, locals := 120 }
theorem k_X1_pointTotal : g_CV yX1_pointTotal cX1_pointTotal 3 (some .int) 0 := ⟨⟨m_252, m_2, by decide +kernel⟩, m_250, m_251⟩
set_option maxHeartbeats 4000000 in
set_option maxRecDepth 100000 in
theorem c_X1_pointTotal (l : Launch) (V : Nat → Nat) (g : GH) (D : va_G) (cT : Nat → ClassId) (f : GH) (n : Nat) (a0 : Nat) (o : Int32) (hq : p_X1_pointTotal V g f a0 = some o) : Met l yX1_pointTotal (Cond.code yX1_pointTotal cX1_pointTotal 3 (some .int) :: g_B) rm_X1_pointTotal (va_Pc [.ref a0] (g_I V g D cT f n)) (g_Ri o n) 0 0 g_no := by
  refine g_begin (own := RX1) [.ref a0] [(0, .ref a0)] g_no (fun _ h => h.elim) (by decide) rfl (Nat.le_of_ble_eq_true rfl) rfl ?_
  intro p e s m args below meth c hx hb hr hlocks hin hC hI ls hl
  obtain ⟨hx, hb, hml, hown, hB⟩ := id hC
  obtain ⟨H, hH⟩ : ∃ H, H = s.heap := ⟨_, rfl⟩
  obtain ⟨locs, hlocs⟩ : ∃ L : List Loc, L = [] := ⟨_, rfl⟩
  rw [← hH, ← hlocs] at hI ⊢
  clear hH hlocs
  unfold p_X1_pointTotal at hq
  replace hq := (h_me_eq hq).2
  refine lv_iconst (v := (0 : Int32)) hx hb dX1_pointTotal_0 (by decide) ?_
  refine lv_istore_n (lv' := [(1, .int (0 : Int32)), (0, .ref a0)]) hx hb dX1_pointTotal_1 rfl hl (by decide) rfl (fun ls hl => ?_)
  refine lv_iconst (v := (0 : Int32)) hx hb dX1_pointTotal_2 (by decide) ?_
  refine lv_istore_n (lv' := [(2, .int (0 : Int32)), (1, .int (0 : Int32)), (0, .ref a0)]) hx hb dX1_pointTotal_3 rfl hl (by decide) rfl (fun ls hl => ?_)
  have hl4 : ∀ (K30 : Int32 → Option Int32) (hK30 : ∀ (x1 : Int32) (H : Heap) (locs : List Loc) (ls : Array Slot), g_at g_no V g D cT f n s H locs → lv_has ls 3 [(1, .int x1)] → K30 x1 = some o → W p l e rm_X1_pointTotal s m args below meth c H locs 0 0 (MQ below (g_Ri o n) args s 0 0 g_no) (F0 m 30 ls [])) (N : Nat) (x0 : Nat) (x1 : Int32) (x2 : Int32) (H : Heap) (locs : List Loc) (ls : Array Slot), g_at g_no V g D cT f n s H locs → lv_has ls 3 [(0, .ref x0), (1, .int x1), (2, .int x2)] → p_X1_pointTotal_l4 V g f K30 N x0 x1 x2 = some o → W p l e rm_X1_pointTotal s m args below meth c H locs 0 0 (MQ below (g_Ri o n) args s 0 0 g_no) (F0 m 4 ls []) := by
    intro K30 hK30 N
    induction N with
    | zero =>
      intro x0 x1 x2 H locs ls hI hl hq
      rw [p_X1_pointTotal_l4] at hq
      cases hq
    | succ N ih =>
      intro x0 x1 x2 H locs ls hI hl hq
      rw [p_X1_pointTotal_l4] at hq
      refine lv_iload_n hx hb dX1_pointTotal_4 rfl (lv_at hl 2 rfl) ?_
      refine lv_aload_n hx hb dX1_pointTotal_5 rfl (lv_at hl 0 rfl) ?_
      obtain ⟨v1, ev1, hq⟩ := b_s hq
      refine fa_gi (own := RX1) (ref := "CoastlineRuler$Chart") (k := 1) hx hb hB inB_RX1 hown hI rfl (by decide) m_75 (fun _ h9 => h9) ev1 dX1_pointTotal_6 ?_
      refine lv_icmp_ge (tgt := 30) hx hb dX1_pointTotal_9 (by decide) (fun c2 => ?_) (fun c2 => ?_)
      · replace hq := i_t c2 hq
        exact hK30 x1 H locs ls hI (lv_sub hl [1] rfl) hq
      · replace hq := i_f c2 hq
        refine lv_iload_n hx hb dX1_pointTotal_12 rfl (lv_at hl 1 rfl) ?_
        refine lv_aload_n hx hb dX1_pointTotal_13 rfl (lv_at hl 0 rfl) ?_
        obtain ⟨v3, ev3, hq⟩ := b_s hq
        refine fa_gr (own := RX1) (ref := "CoastlineRuler$Chart") (k := 0) hx hb hB inB_RX1 hown hI rfl (by decide) m_72 (fun _ h9 => h9) ev3 dX1_pointTotal_14 ?_
        refine lv_iload_n hx hb dX1_pointTotal_17 rfl (lv_at hl 2 rfl) ?_
        obtain ⟨v4, ev4, hq⟩ := b_s hq
        refine fa_lq hx hb hI (by decide) rfl ev4 dX1_pointTotal_18 ?_
        obtain ⟨v5, ev5, hq⟩ := b_s hq
        refine fa_gi (own := RX1) (ref := "CoastlineRuler$Coast") (k := 2) hx hb hB inB_RX2 hown hI rfl (by decide) m_55 (fun _ h9 => h9) ev5 dX1_pointTotal_19 ?_
        refine lv_iadd hx hb dX1_pointTotal_22 ?_
        refine lv_istore_n (lv' := [(1, .int (x1 + v5)), (0, .ref x0), (2, .int x2)]) hx hb dX1_pointTotal_23 rfl hl (by decide) rfl (fun ls hl => ?_)
        refine lv_iinc (v := x2 + (1 : Int32)) (lv' := [(2, .int (x2 + (1 : Int32))), (1, .int (x1 + v5)), (0, .ref x0)]) hx hb dX1_pointTotal_24 hl (k := 2) rfl rfl (by decide) rfl (fun ls hl => ?_)
        refine lv_goto (tgt := 4) hx hb dX1_pointTotal_27 (by decide) ?_
        exact ih x0 (x1 + v5) (x2 + (1 : Int32)) H locs ls hI (lv_sub hl [2, 1, 0] rfl) hq
  refine hl4 _ ?_ FU a0 (0 : Int32) (0 : Int32) H locs ls hI (lv_sub hl [2, 1, 0] rfl) hq
  · intro x1 H locs ls hI hl hq
    refine lv_iload_n hx hb dX1_pointTotal_30 rfl (lv_at hl 0 rfl) ?_
    exact ge_Ri hx hb hlocks hr rfl hI hq dX1_pointTotal_31

abbrev rm_X1_startLedgers : Room := { frames := 3, cells := 0, slots := 0, locals := 142 }
theorem k_X1_startLedgers : g_CV yX1_startLedgers cX1_startLedgers 1 none 0 := ⟨⟨m_248, m_2, by decide +kernel⟩, m_246, m_247⟩
set_option maxHeartbeats 4000000 in
set_option maxRecDepth 100000 in
theorem c_X1_startLedgers (l : Launch) (V : Nat → Nat) (g : GH) (D : va_G) (cT : Nat → ClassId) (f : GH) (n : Nat) (a0 : Nat) (o : GH) (hq : p_X1_startLedgers V g f a0 = some o) : Met l yX1_startLedgers (Cond.code yX1_startLedgers cX1_startLedgers 1 none :: g_B) rm_X1_startLedgers (va_Pc [.ref a0] (g_I V g D cT f n)) (g_Wv V D cT o n) 0 0 (g_A V) := by
  refine g_begin (own := RX1) [.ref a0] [(0, .ref a0)] (g_A V) (fun _ h => h) (by decide) rfl (Nat.le_of_ble_eq_true rfl) rfl ?_
  intro p e s m args below meth c hx hb hr hlocks hin hC hI ls hl
  obtain ⟨hx, hb, hml, hown, hB⟩ := id hC
  obtain ⟨H, hH⟩ : ∃ H, H = s.heap := ⟨_, rfl⟩
  obtain ⟨locs, hlocs⟩ : ∃ L : List Loc, L = [] := ⟨_, rfl⟩
  rw [← hH, ← hlocs] at hI ⊢
  clear hH hlocs
  unfold p_X1_startLedgers at hq
  replace hq := (h_me_eq hq).2
  refine lv_aload_n hx hb dX1_startLedgers_0 rfl (lv_at hl 0 rfl) ?_
  refine lv_aload_n hx hb dX1_startLedgers_1 rfl (lv_at hl 0 rfl) ?_
  obtain ⟨v1, ev1, hq⟩ := b_s hq
  refine gr_i (g_runV (As := []) (rest := [.ref a0]) (ci := 4) hC (c_X1_pointTotal l V g D cT f n a0 v1 ev1) k_X1_pointTotal m_249 rfl rfl ⟨Nat.le_of_ble_eq_true rfl, Nat.le_of_ble_eq_true rfl⟩ hI rfl rfl (h_me_eq ev1).1 rfl hl.1 rfl (Nat.le_of_ble_eq_true rfl) dX1_startLedgers_2 ⟨by decide, by decide⟩) hI (fun H locs hI => ?_)
  obtain ⟨f2, ef2, hq⟩ := b_s hq
  refine fa_pt (own := RX1) (ref := "CoastlineRuler$Chart") (k := 3) hx hb hB inB_RX1 tyX1_ok nmX1 hown hI rfl (by decide) m_81 (fun _ h9 => h9) (by decide) rfl rfl ef2 dX1_startLedgers_5 (fun H locs hI => ?_)
  refine lv_aload_n hx hb dX1_startLedgers_8 rfl (lv_at hl 0 rfl) ?_
  refine lv_iconst (v := (0 : Int32)) hx hb dX1_startLedgers_9 (by decide) ?_
  obtain ⟨f3, ef3, hq⟩ := b_s hq
  refine fa_pt (own := RX1) (ref := "CoastlineRuler$Chart") (k := 4) hx hb hB inB_RX1 tyX1_ok nmX1 hown hI rfl (by decide) m_83 (fun _ h9 => h9) (by decide) rfl rfl ef3 dX1_startLedgers_10 (fun H locs hI => ?_)
  refine lv_aload_n hx hb dX1_startLedgers_13 rfl (lv_at hl 0 rfl) ?_
  refine lv_iconst (v := (0 : Int32)) hx hb dX1_startLedgers_14 (by decide) ?_
  obtain ⟨f4, ef4, hq⟩ := b_s hq
  refine fa_pt (own := RX1) (ref := "CoastlineRuler$Chart") (k := 5) hx hb hB inB_RX1 tyX1_ok nmX1 hown hI rfl (by decide) m_85 (fun _ h9 => h9) (by decide) rfl rfl ef4 dX1_startLedgers_15 (fun H locs hI => ?_)
  exact ge_Wv hx hb hlocks hr hI (Option.some.inj hq) dX1_startLedgers_18

abbrev rm_X1_hasCoast : Room := { frames := 2, cells := 0, slots := 0, locals := 120 }
theorem k_X1_hasCoast : g_CV yX1_hasCoast cX1_hasCoast 2 (some .boolean) 1 := ⟨⟨m_584, m_2, by decide +kernel⟩, m_582, m_583⟩
set_option maxHeartbeats 4000000 in
set_option maxRecDepth 100000 in
theorem c_X1_hasCoast (l : Launch) (V : Nat → Nat) (g : GH) (D : va_G) (cT : Nat → ClassId) (f : GH) (n : Nat) (a0 : Nat) (a1 : Int32) (o : Int32) (hq : p_X1_hasCoast V g f a0 a1 = some o) : Met l yX1_hasCoast (Cond.code yX1_hasCoast cX1_hasCoast 2 (some .boolean) :: g_B) rm_X1_hasCoast (va_Pc [.ref a0, .int a1] (g_I V g D cT f n)) (g_Ri o n) 0 0 g_no := by
  refine g_begin (own := RX1) [.ref a0, .int a1] [(0, .ref a0), (1, .int a1)] g_no (fun _ h => h.elim) (by decide) rfl (Nat.le_of_ble_eq_true rfl) rfl ?_
  intro p e s m args below meth c hx hb hr hlocks hin hC hI ls hl
  obtain ⟨hx, hb, hml, hown, hB⟩ := id hC
  obtain ⟨H, hH⟩ : ∃ H, H = s.heap := ⟨_, rfl⟩
  obtain ⟨locs, hlocs⟩ : ∃ L : List Loc, L = [] := ⟨_, rfl⟩
  rw [← hH, ← hlocs] at hI ⊢
  clear hH hlocs
  unfold p_X1_hasCoast at hq
  replace hq := (h_me_eq hq).2
  refine lv_iload_n hx hb dX1_hasCoast_0 rfl (lv_at hl 1 rfl) ?_
  refine lv_if_lt (tgt := 16) hx hb dX1_hasCoast_1 (by decide) (fun c1 => ?_) (fun c1 => ?_)
  · replace hq := i_t c1 hq
    refine lv_iconst (v := (0 : Int32)) hx hb dX1_hasCoast_16 (by decide) ?_
    exact ge_Ri hx hb hlocks hr (by decide +kernel) hI hq dX1_hasCoast_17
  · replace hq := i_f c1 hq
    refine lv_iload_n hx hb dX1_hasCoast_4 rfl (lv_at hl 1 rfl) ?_
    refine lv_aload_n hx hb dX1_hasCoast_5 rfl (lv_at hl 0 rfl) ?_
    obtain ⟨v2, ev2, hq⟩ := b_s hq
    refine fa_gi (own := RX1) (ref := "CoastlineRuler$Chart") (k := 1) hx hb hB inB_RX1 hown hI rfl (by decide) m_75 (fun _ h9 => h9) ev2 dX1_hasCoast_6 ?_
    refine lv_icmp_ge (tgt := 16) hx hb dX1_hasCoast_9 (by decide) (fun c3 => ?_) (fun c3 => ?_)
    · replace hq := i_t c3 hq
      refine lv_iconst (v := (0 : Int32)) hx hb dX1_hasCoast_16 (by decide) ?_
      exact ge_Ri hx hb hlocks hr (by decide +kernel) hI hq dX1_hasCoast_17
    · replace hq := i_f c3 hq
      refine lv_iconst (v := (1 : Int32)) hx hb dX1_hasCoast_12 (by decide) ?_
      refine lv_goto (tgt := 17) hx hb dX1_hasCoast_13 (by decide) ?_
      exact ge_Ri hx hb hlocks hr (by decide +kernel) hI hq dX1_hasCoast_17

abbrev rm_X2_segmentEnd : Room := { frames := 2, cells := 0, slots := 0, locals := 120 }
theorem k_X2_segmentEnd : g_CV yX2_segmentEnd cX2_segmentEnd 2 (some .int) 1 := ⟨⟨m_761, m_3, by decide +kernel⟩, m_759, m_760⟩
set_option maxHeartbeats 4000000 in
set_option maxRecDepth 100000 in
theorem c_X2_segmentEnd (l : Launch) (V : Nat → Nat) (g : GH) (D : va_G) (cT : Nat → ClassId) (f : GH) (n : Nat) (a0 : Nat) (a1 : Int32) (o : Int32) (hq : p_X2_segmentEnd V g f a0 a1 = some o) : Met l yX2_segmentEnd (Cond.code yX2_segmentEnd cX2_segmentEnd 2 (some .int) :: g_B) rm_X2_segmentEnd (va_Pc [.ref a0, .int a1] (g_I V g D cT f n)) (g_Ri o n) 0 0 g_no := by
  refine g_begin (own := RX2) [.ref a0, .int a1] [(0, .ref a0), (1, .int a1)] g_no (fun _ h => h.elim) (by decide) rfl (Nat.le_of_ble_eq_true rfl) rfl ?_
  intro p e s m args below meth c hx hb hr hlocks hin hC hI ls hl
  obtain ⟨hx, hb, hml, hown, hB⟩ := id hC
  obtain ⟨H, hH⟩ : ∃ H, H = s.heap := ⟨_, rfl⟩
  obtain ⟨locs, hlocs⟩ : ∃ L : List Loc, L = [] := ⟨_, rfl⟩
  rw [← hH, ← hlocs] at hI ⊢
  clear hH hlocs
  unfold p_X2_segmentEnd at hq
  replace hq := (h_me_eq hq).2
  refine lv_iload_n hx hb dX2_segmentEnd_0 rfl (lv_at hl 1 rfl) ?_
  refine lv_iconst (v := (1 : Int32)) hx hb dX2_segmentEnd_1 (by decide) ?_
  refine lv_iadd hx hb dX2_segmentEnd_2 ?_
  refine lv_aload_n hx hb dX2_segmentEnd_3 rfl (lv_at hl 0 rfl) ?_
  obtain ⟨v1, ev1, hq⟩ := b_s hq
  refine fa_gi (own := RX2) (ref := "CoastlineRuler$Coast") (k := 2) hx hb hB inB_RX2 hown hI rfl (by decide) m_54 (fun _ h9 => h9) ev1 dX2_segmentEnd_4 ?_
  refine lv_icmp_ge (tgt := 16) hx hb dX2_segmentEnd_7 (by decide) (fun c2 => ?_) (fun c2 => ?_)
  · replace hq := i_t c2 hq
    refine lv_iconst (v := (0 : Int32)) hx hb dX2_segmentEnd_16 (by decide) ?_
    exact ge_Ri hx hb hlocks hr rfl hI hq dX2_segmentEnd_17
  · replace hq := i_f c2 hq
    refine lv_iload_n hx hb dX2_segmentEnd_10 rfl (lv_at hl 1 rfl) ?_
    refine lv_iconst (v := (1 : Int32)) hx hb dX2_segmentEnd_11 (by decide) ?_
    refine lv_iadd hx hb dX2_segmentEnd_12 ?_
    refine lv_goto (tgt := 17) hx hb dX2_segmentEnd_13 (by decide) ?_
    exact ge_Ri hx hb hlocks hr rfl hI hq dX2_segmentEnd_17

abbrev rm_X2_side : Room := { frames := 3, cells := 0, slots := 0, locals := 141 }
theorem k_X2_side : g_CV yX2_side cX2_side 5 (some .int) 3 := ⟨⟨m_765, m_3, by decide +kernel⟩, m_763, m_764⟩
set_option maxHeartbeats 4000000 in
set_option maxRecDepth 100000 in
theorem c_X2_side (l : Launch) (V : Nat → Nat) (g : GH) (D : va_G) (cT : Nat → ClassId) (f : GH) (n : Nat) (a0 : Nat) (a1 : Int32) (a2 : Int32) (a3 : Int32) (o : Int32) (hq : p_X2_side V g f a0 a1 a2 a3 = some o) : Met l yX2_side (Cond.code yX2_side cX2_side 5 (some .int) :: g_B) rm_X2_side (va_Pc [.ref a0, .int a1, .int a2, .int a3] (g_I V g D cT f n)) (g_Ri o n) 0 0 g_no := by
  refine g_begin (own := RX2) [.ref a0, .int a1, .int a2, .int a3] [(0, .ref a0), (1, .int a1), (2, .int a2), (3, .int a3)] g_no (fun _ h => h.elim) (by decide) rfl (Nat.le_of_ble_eq_true rfl) rfl ?_
  intro p e s m args below meth c hx hb hr hlocks hin hC hI ls hl
  obtain ⟨hx, hb, hml, hown, hB⟩ := id hC
  obtain ⟨H, hH⟩ : ∃ H, H = s.heap := ⟨_, rfl⟩
  obtain ⟨locs, hlocs⟩ : ∃ L : List Loc, L = [] := ⟨_, rfl⟩
  rw [← hH, ← hlocs] at hI ⊢
  clear hH hlocs
  unfold p_X2_side at hq
  replace hq := (h_me_eq hq).2
  refine lv_aload_n hx hb dX2_side_0 rfl (lv_at hl 0 rfl) ?_
  refine lv_iload_n hx hb dX2_side_1 rfl (lv_at hl 1 rfl) ?_
  obtain ⟨v1, ev1, hq⟩ := b_s hq
  refine gr_i (g_runV (As := [.int a1]) (rest := []) (ci := 5) hC (c_X2_segmentEnd l V g D cT f n a0 a1 v1 ev1) k_X2_segmentEnd m_758 rfl rfl ⟨Nat.le_of_ble_eq_true rfl, Nat.le_of_ble_eq_true rfl⟩ hI rfl rfl (h_me_eq ev1).1 rfl hl.1 rfl (Nat.le_of_ble_eq_true rfl) dX2_side_2 ⟨by decide, by decide⟩) hI (fun H locs hI => ?_)
  refine lv_istore (lv' := [(4, .int v1), (0, .ref a0), (1, .int a1), (2, .int a2), (3, .int a3)]) hx hb dX2_side_5 hl (by decide) rfl (fun ls hl => ?_)
  refine lv_aload_n hx hb dX2_side_7 rfl (lv_at hl 1 rfl) ?_
  obtain ⟨v2, ev2, hq⟩ := b_s hq
  refine fa_gr (own := RX2) (ref := "CoastlineRuler$Coast") (k := 0) hx hb hB inB_RX2 hown hI rfl (by decide) m_48 (fun _ h9 => h9) ev2 dX2_side_8 ?_
  refine lv_iload hx hb dX2_side_11 (lv_at hl 0 rfl) ?_
  obtain ⟨v3, ev3, hq⟩ := b_s hq
  refine fa_li hx hb hI ev3 dX2_side_13 ?_
  refine lv_aload_n hx hb dX2_side_14 rfl (lv_at hl 1 rfl) ?_
  obtain ⟨v4, ev4, hq⟩ := b_s hq
  refine fa_gr (own := RX2) (ref := "CoastlineRuler$Coast") (k := 0) hx hb hB inB_RX2 hown hI rfl (by decide) m_48 (fun _ h9 => h9) ev4 dX2_side_15 ?_
  refine lv_iload_n hx hb dX2_side_18 rfl (lv_at hl 2 rfl) ?_
  obtain ⟨v5, ev5, hq⟩ := b_s hq
  refine fa_li hx hb hI ev5 dX2_side_19 ?_
  refine lv_isub hx hb dX2_side_20 ?_
  refine lv_iload_n hx hb dX2_side_21 rfl (lv_at hl 4 rfl) ?_
  refine lv_aload_n hx hb dX2_side_22 rfl (lv_at hl 1 rfl) ?_
  obtain ⟨v6, ev6, hq⟩ := b_s hq
  refine fa_gr (own := RX2) (ref := "CoastlineRuler$Coast") (k := 1) hx hb hB inB_RX2 hown hI rfl (by decide) m_51 (fun _ h9 => h9) ev6 dX2_side_23 ?_
  refine lv_iload_n hx hb dX2_side_26 rfl (lv_at hl 2 rfl) ?_
  obtain ⟨v7, ev7, hq⟩ := b_s hq
  refine fa_li hx hb hI ev7 dX2_side_27 ?_
  refine lv_isub hx hb dX2_side_28 ?_
  refine lv_imul hx hb dX2_side_29 ?_
  refine lv_aload_n hx hb dX2_side_30 rfl (lv_at hl 1 rfl) ?_
  obtain ⟨v8, ev8, hq⟩ := b_s hq
  refine fa_gr (own := RX2) (ref := "CoastlineRuler$Coast") (k := 1) hx hb hB inB_RX2 hown hI rfl (by decide) m_51 (fun _ h9 => h9) ev8 dX2_side_31 ?_
  refine lv_iload hx hb dX2_side_34 (lv_at hl 0 rfl) ?_
  obtain ⟨v9, ev9, hq⟩ := b_s hq
  refine fa_li hx hb hI ev9 dX2_side_36 ?_
  refine lv_aload_n hx hb dX2_side_37 rfl (lv_at hl 1 rfl) ?_
  obtain ⟨v10, ev10, hq⟩ := b_s hq
  refine fa_gr (own := RX2) (ref := "CoastlineRuler$Coast") (k := 1) hx hb hB inB_RX2 hown hI rfl (by decide) m_51 (fun _ h9 => h9) ev10 dX2_side_38 ?_
  refine lv_iload_n hx hb dX2_side_41 rfl (lv_at hl 2 rfl) ?_
  obtain ⟨v11, ev11, hq⟩ := b_s hq
  refine fa_li hx hb hI ev11 dX2_side_42 ?_
  refine lv_isub hx hb dX2_side_43 ?_
  refine lv_iload_n hx hb dX2_side_44 rfl (lv_at hl 3 rfl) ?_
  refine lv_aload_n hx hb dX2_side_45 rfl (lv_at hl 1 rfl) ?_
  obtain ⟨v12, ev12, hq⟩ := b_s hq
  refine fa_gr (own := RX2) (ref := "CoastlineRuler$Coast") (k := 0) hx hb hB inB_RX2 hown hI rfl (by decide) m_48 (fun _ h9 => h9) ev12 dX2_side_46 ?_
  refine lv_iload_n hx hb dX2_side_49 rfl (lv_at hl 2 rfl) ?_
  obtain ⟨v13, ev13, hq⟩ := b_s hq
  refine fa_li hx hb hI ev13 dX2_side_50 ?_
  refine lv_isub hx hb dX2_side_51 ?_
  refine lv_imul hx hb dX2_side_52 ?_
  refine lv_isub hx hb dX2_side_53 ?_
  exact ge_Ri hx hb hlocks hr rfl hI hq dX2_side_54

abbrev rm_X2_liesOn : Room := { frames := 4, cells := 0, slots := 0, locals := 165 }
theorem k_X2_liesOn : g_CV yX2_liesOn cX2_liesOn 5 (some .boolean) 3 := ⟨⟨m_757, m_3, by decide +kernel⟩, m_755, m_756⟩
set_option maxHeartbeats 4000000 in
set_option maxRecDepth 100000 in
theorem c_X2_liesOn (l : Launch) (V : Nat → Nat) (g : GH) (D : va_G) (cT : Nat → ClassId) (f : GH) (n : Nat) (a0 : Nat) (a1 : Int32) (a2 : Int32) (a3 : Int32) (o : Int32) (hq : p_X2_liesOn V g f a0 a1 a2 a3 = some o) : Met l yX2_liesOn (Cond.code yX2_liesOn cX2_liesOn 5 (some .boolean) :: g_B) rm_X2_liesOn (va_Pc [.ref a0, .int a1, .int a2, .int a3] (g_I V g D cT f n)) (g_Ri o n) 0 0 g_no := by
  refine g_begin (own := RX2) [.ref a0, .int a1, .int a2, .int a3] [(0, .ref a0), (1, .int a1), (2, .int a2), (3, .int a3)] g_no (fun _ h => h.elim) (by decide) rfl (Nat.le_of_ble_eq_true rfl) rfl ?_
  intro p e s m args below meth c hx hb hr hlocks hin hC hI ls hl
  obtain ⟨hx, hb, hml, hown, hB⟩ := id hC
  obtain ⟨H, hH⟩ : ∃ H, H = s.heap := ⟨_, rfl⟩
  obtain ⟨locs, hlocs⟩ : ∃ L : List Loc, L = [] := ⟨_, rfl⟩
  rw [← hH, ← hlocs] at hI ⊢
  clear hH hlocs
  unfold p_X2_liesOn at hq
  replace hq := (h_me_eq hq).2
  refine lv_aload_n hx hb dX2_liesOn_0 rfl (lv_at hl 0 rfl) ?_
  refine lv_iload_n hx hb dX2_liesOn_1 rfl (lv_at hl 1 rfl) ?_
  obtain ⟨v1, ev1, hq⟩ := b_s hq
  refine gr_i (g_runV (As := [.int a1]) (rest := []) (ci := 5) hC (c_X2_segmentEnd l V g D cT f n a0 a1 v1 ev1) k_X2_segmentEnd m_758 rfl rfl ⟨Nat.le_of_ble_eq_true rfl, Nat.le_of_ble_eq_true rfl⟩ hI rfl rfl (h_me_eq ev1).1 rfl hl.1 rfl (Nat.le_of_ble_eq_true rfl) dX2_liesOn_2 ⟨by decide, by decide⟩) hI (fun H locs hI => ?_)
  refine lv_istore (lv' := [(4, .int v1), (0, .ref a0), (1, .int a1), (2, .int a2), (3, .int a3)]) hx hb dX2_liesOn_5 hl (by decide) rfl (fun ls hl => ?_)
  refine lv_aload_n hx hb dX2_liesOn_7 rfl (lv_at hl 1 rfl) ?_
  refine lv_iload_n hx hb dX2_liesOn_8 rfl (lv_at hl 2 rfl) ?_
  refine lv_iload_n hx hb dX2_liesOn_9 rfl (lv_at hl 3 rfl) ?_
  refine lv_iload_n hx hb dX2_liesOn_10 rfl (lv_at hl 4 rfl) ?_
  obtain ⟨v2, ev2, hq⟩ := b_s hq
  refine gr_i (g_runV (As := [.int a1, .int a2, .int a3]) (rest := []) (ci := 5) hC (c_X2_side l V g D cT f n a0 a1 a2 a3 v2 ev2) k_X2_side m_762 rfl rfl ⟨Nat.le_of_ble_eq_true rfl, Nat.le_of_ble_eq_true rfl⟩ hI rfl rfl (h_me_eq ev2).1 rfl hl.1 rfl (Nat.le_of_ble_eq_true rfl) dX2_liesOn_11 ⟨by decide, by decide⟩) hI (fun H locs hI => ?_)
  refine lv_if_ne (tgt := 101) hx hb dX2_liesOn_14 (by decide) (fun c3 => ?_) (fun c3 => ?_)
  · replace hq := i_f c3 hq
    refine lv_iconst (v := (0 : Int32)) hx hb dX2_liesOn_101 (by decide) ?_
    exact ge_Ri hx hb hlocks hr (by decide +kernel) hI hq dX2_liesOn_102
  · replace hq := i_t c3 hq
    refine lv_iload_n hx hb dX2_liesOn_17 rfl (lv_at hl 3 rfl) ?_
    refine lv_aload_n hx hb dX2_liesOn_18 rfl (lv_at hl 1 rfl) ?_
    obtain ⟨v4, ev4, hq⟩ := b_s hq
    refine fa_gr (own := RX2) (ref := "CoastlineRuler$Coast") (k := 0) hx hb hB inB_RX2 hown hI rfl (by decide) m_48 (fun _ h9 => h9) ev4 dX2_liesOn_19 ?_
    refine lv_iload_n hx hb dX2_liesOn_22 rfl (lv_at hl 2 rfl) ?_
    obtain ⟨v5, ev5, hq⟩ := b_s hq
    refine fa_li hx hb hI ev5 dX2_liesOn_23 ?_
    refine lv_aload_n hx hb dX2_liesOn_24 rfl (lv_at hl 1 rfl) ?_
    obtain ⟨v6, ev6, hq⟩ := b_s hq
    refine fa_gr (own := RX2) (ref := "CoastlineRuler$Coast") (k := 0) hx hb hB inB_RX2 hown hI rfl (by decide) m_48 (fun _ h9 => h9) ev6 dX2_liesOn_25 ?_
    refine lv_iload hx hb dX2_liesOn_28 (lv_at hl 0 rfl) ?_
    obtain ⟨v7, ev7, hq⟩ := b_s hq
    refine fa_li hx hb hI ev7 dX2_liesOn_30 ?_
    obtain ⟨v8, ev8, hq⟩ := b_s hq
    refine g_min hx hb (hml.trans hl.1.symm) hown (hB _ m_766) (hB _ m_767) (hB _ m_15) (hB _ m_768) (Nat.le_of_ble_eq_true rfl) (Nat.le_of_ble_eq_true rfl) (Nat.le_of_ble_eq_true rfl) (Nat.le_of_ble_eq_true rfl) ev8 dX2_liesOn_31 ?_
    refine lv_icmp_lt (tgt := 101) hx hb dX2_liesOn_34 (by decide) (fun c9 => ?_) (fun c9 => ?_)
    · replace hq := i_t c9 hq
      refine lv_iconst (v := (0 : Int32)) hx hb dX2_liesOn_101 (by decide) ?_
      exact ge_Ri hx hb hlocks hr (by decide +kernel) hI hq dX2_liesOn_102
    · replace hq := i_f c9 hq
      refine lv_iload_n hx hb dX2_liesOn_37 rfl (lv_at hl 3 rfl) ?_
      refine lv_aload_n hx hb dX2_liesOn_38 rfl (lv_at hl 1 rfl) ?_
      obtain ⟨v10, ev10, hq⟩ := b_s hq
      refine fa_gr (own := RX2) (ref := "CoastlineRuler$Coast") (k := 0) hx hb hB inB_RX2 hown hI rfl (by decide) m_48 (fun _ h9 => h9) ev10 dX2_liesOn_39 ?_
      refine lv_iload_n hx hb dX2_liesOn_42 rfl (lv_at hl 2 rfl) ?_
      obtain ⟨v11, ev11, hq⟩ := b_s hq
      refine fa_li hx hb hI ev11 dX2_liesOn_43 ?_
      refine lv_aload_n hx hb dX2_liesOn_44 rfl (lv_at hl 1 rfl) ?_
      obtain ⟨v12, ev12, hq⟩ := b_s hq
      refine fa_gr (own := RX2) (ref := "CoastlineRuler$Coast") (k := 0) hx hb hB inB_RX2 hown hI rfl (by decide) m_48 (fun _ h9 => h9) ev12 dX2_liesOn_45 ?_
      refine lv_iload hx hb dX2_liesOn_48 (lv_at hl 0 rfl) ?_
      obtain ⟨v13, ev13, hq⟩ := b_s hq
      refine fa_li hx hb hI ev13 dX2_liesOn_50 ?_
      obtain ⟨v14, ev14, hq⟩ := b_s hq
      refine g_max hx hb (hml.trans hl.1.symm) hown (hB _ m_671) (hB _ m_672) (hB _ m_15) (hB _ m_673) (Nat.le_of_ble_eq_true rfl) (Nat.le_of_ble_eq_true rfl) (Nat.le_of_ble_eq_true rfl) (Nat.le_of_ble_eq_true rfl) ev14 dX2_liesOn_51 ?_
      refine lv_icmp_gt (tgt := 101) hx hb dX2_liesOn_54 (by decide) (fun c15 => ?_) (fun c15 => ?_)
      · replace hq := i_t c15 hq
        refine lv_iconst (v := (0 : Int32)) hx hb dX2_liesOn_101 (by decide) ?_
        exact ge_Ri hx hb hlocks hr (by decide +kernel) hI hq dX2_liesOn_102
      · replace hq := i_f c15 hq
        refine lv_iload_n hx hb dX2_liesOn_57 rfl (lv_at hl 4 rfl) ?_
        refine lv_aload_n hx hb dX2_liesOn_58 rfl (lv_at hl 1 rfl) ?_
        obtain ⟨v16, ev16, hq⟩ := b_s hq
        refine fa_gr (own := RX2) (ref := "CoastlineRuler$Coast") (k := 1) hx hb hB inB_RX2 hown hI rfl (by decide) m_51 (fun _ h9 => h9) ev16 dX2_liesOn_59 ?_
        refine lv_iload_n hx hb dX2_liesOn_62 rfl (lv_at hl 2 rfl) ?_
        obtain ⟨v17, ev17, hq⟩ := b_s hq
        refine fa_li hx hb hI ev17 dX2_liesOn_63 ?_
        refine lv_aload_n hx hb dX2_liesOn_64 rfl (lv_at hl 1 rfl) ?_
        obtain ⟨v18, ev18, hq⟩ := b_s hq
        refine fa_gr (own := RX2) (ref := "CoastlineRuler$Coast") (k := 1) hx hb hB inB_RX2 hown hI rfl (by decide) m_51 (fun _ h9 => h9) ev18 dX2_liesOn_65 ?_
        refine lv_iload hx hb dX2_liesOn_68 (lv_at hl 0 rfl) ?_
        obtain ⟨v19, ev19, hq⟩ := b_s hq
        refine fa_li hx hb hI ev19 dX2_liesOn_70 ?_
        obtain ⟨v20, ev20, hq⟩ := b_s hq
        refine g_min hx hb (hml.trans hl.1.symm) hown (hB _ m_766) (hB _ m_767) (hB _ m_15) (hB _ m_768) (Nat.le_of_ble_eq_true rfl) (Nat.le_of_ble_eq_true rfl) (Nat.le_of_ble_eq_true rfl) (Nat.le_of_ble_eq_true rfl) ev20 dX2_liesOn_71 ?_
        refine lv_icmp_lt (tgt := 101) hx hb dX2_liesOn_74 (by decide) (fun c21 => ?_) (fun c21 => ?_)
        · replace hq := i_t c21 hq
          refine lv_iconst (v := (0 : Int32)) hx hb dX2_liesOn_101 (by decide) ?_
          exact ge_Ri hx hb hlocks hr (by decide +kernel) hI hq dX2_liesOn_102
        · replace hq := i_f c21 hq
          refine lv_iload_n hx hb dX2_liesOn_77 rfl (lv_at hl 4 rfl) ?_
          refine lv_aload_n hx hb dX2_liesOn_78 rfl (lv_at hl 1 rfl) ?_
          obtain ⟨v22, ev22, hq⟩ := b_s hq
          refine fa_gr (own := RX2) (ref := "CoastlineRuler$Coast") (k := 1) hx hb hB inB_RX2 hown hI rfl (by decide) m_51 (fun _ h9 => h9) ev22 dX2_liesOn_79 ?_
          refine lv_iload_n hx hb dX2_liesOn_82 rfl (lv_at hl 2 rfl) ?_
          obtain ⟨v23, ev23, hq⟩ := b_s hq
          refine fa_li hx hb hI ev23 dX2_liesOn_83 ?_
          refine lv_aload_n hx hb dX2_liesOn_84 rfl (lv_at hl 1 rfl) ?_
          obtain ⟨v24, ev24, hq⟩ := b_s hq
          refine fa_gr (own := RX2) (ref := "CoastlineRuler$Coast") (k := 1) hx hb hB inB_RX2 hown hI rfl (by decide) m_51 (fun _ h9 => h9) ev24 dX2_liesOn_85 ?_
          refine lv_iload hx hb dX2_liesOn_88 (lv_at hl 0 rfl) ?_
          obtain ⟨v25, ev25, hq⟩ := b_s hq
          refine fa_li hx hb hI ev25 dX2_liesOn_90 ?_
          obtain ⟨v26, ev26, hq⟩ := b_s hq
          refine g_max hx hb (hml.trans hl.1.symm) hown (hB _ m_671) (hB _ m_672) (hB _ m_15) (hB _ m_673) (Nat.le_of_ble_eq_true rfl) (Nat.le_of_ble_eq_true rfl) (Nat.le_of_ble_eq_true rfl) (Nat.le_of_ble_eq_true rfl) ev26 dX2_liesOn_91 ?_
          refine lv_icmp_gt (tgt := 101) hx hb dX2_liesOn_94 (by decide) (fun c27 => ?_) (fun c27 => ?_)
          · replace hq := i_t c27 hq
            refine lv_iconst (v := (0 : Int32)) hx hb dX2_liesOn_101 (by decide) ?_
            exact ge_Ri hx hb hlocks hr (by decide +kernel) hI hq dX2_liesOn_102
          · replace hq := i_f c27 hq
            refine lv_iconst (v := (1 : Int32)) hx hb dX2_liesOn_97 (by decide) ?_
            refine lv_goto (tgt := 102) hx hb dX2_liesOn_98 (by decide) ?_
            exact ge_Ri hx hb hlocks hr (by decide +kernel) hI hq dX2_liesOn_102

abbrev rm_X2_rayCrosses : Room := { frames := 4, cells := 0, slots := 0, locals := 165 }
theorem k_X2_rayCrosses : g_CV yX2_rayCrosses cX2_rayCrosses 7 (some .boolean) 3 := ⟨⟨m_772, m_3, by decide +kernel⟩, m_770, m_771⟩
set_option maxHeartbeats 4000000 in
set_option maxRecDepth 100000 in
theorem c_X2_rayCrosses (l : Launch) (V : Nat → Nat) (g : GH) (D : va_G) (cT : Nat → ClassId) (f : GH) (n : Nat) (a0 : Nat) (a1 : Int32) (a2 : Int32) (a3 : Int32) (o : Int32) (hq : p_X2_rayCrosses V g f a0 a1 a2 a3 = some o) : Met l yX2_rayCrosses (Cond.code yX2_rayCrosses cX2_rayCrosses 7 (some .boolean) :: g_B) rm_X2_rayCrosses (va_Pc [.ref a0, .int a1, .int a2, .int a3] (g_I V g D cT f n)) (g_Ri o n) 0 0 g_no := by
  refine g_begin (own := RX2) [.ref a0, .int a1, .int a2, .int a3] [(0, .ref a0), (1, .int a1), (2, .int a2), (3, .int a3)] g_no (fun _ h => h.elim) (by decide) rfl (Nat.le_of_ble_eq_true rfl) rfl ?_
  intro p e s m args below meth c hx hb hr hlocks hin hC hI ls hl
  obtain ⟨hx, hb, hml, hown, hB⟩ := id hC
  obtain ⟨H, hH⟩ : ∃ H, H = s.heap := ⟨_, rfl⟩
  obtain ⟨locs, hlocs⟩ : ∃ L : List Loc, L = [] := ⟨_, rfl⟩
  rw [← hH, ← hlocs] at hI ⊢
  clear hH hlocs
  unfold p_X2_rayCrosses at hq
  replace hq := (h_me_eq hq).2
  refine lv_aload_n hx hb dX2_rayCrosses_0 rfl (lv_at hl 0 rfl) ?_
  obtain ⟨v1, ev1, hq⟩ := b_s hq
  refine fa_gr (own := RX2) (ref := "CoastlineRuler$Coast") (k := 1) hx hb hB inB_RX2 hown hI rfl (by decide) m_51 (fun _ h9 => h9) ev1 dX2_rayCrosses_1 ?_
  refine lv_iload_n hx hb dX2_rayCrosses_4 rfl (lv_at hl 1 rfl) ?_
  obtain ⟨v2, ev2, hq⟩ := b_s hq
  refine fa_li hx hb hI ev2 dX2_rayCrosses_5 ?_
  refine lv_iload_n hx hb dX2_rayCrosses_6 rfl (lv_at hl 3 rfl) ?_
  have hj15 : ∀ (x0 : Nat) (x1 : Int32) (x2 : Int32) (x3 : Int32) (t0 : Int32) (H : Heap) (locs : List Loc) (ls : Array Slot), g_at g_no V g D cT f n s H locs → lv_has ls 7 [(0, .ref x0), (1, .int x1), (2, .int x2), (3, .int x3)] → p_X2_rayCrosses_j15 V g f x0 x1 x2 x3 t0 = some o → W p l e rm_X2_rayCrosses s m args below meth c H locs 0 0 (MQ below (g_Ri o n) args s 0 0 g_no) (F0 m 15 ls [.int t0]) := by
    intro x0 x1 x2 x3 t0 H locs ls hI hl hq
    unfold p_X2_rayCrosses_j15 at hq
    refine lv_istore (lv' := [(4, .int t0), (0, .ref x0), (1, .int x1), (2, .int x2), (3, .int x3)]) hx hb dX2_rayCrosses_15 hl (by decide) rfl (fun ls hl => ?_)
    refine lv_aload_n hx hb dX2_rayCrosses_17 rfl (lv_at hl 1 rfl) ?_
    obtain ⟨v3, ev3, hq⟩ := b_s hq
    refine fa_gr (own := RX2) (ref := "CoastlineRuler$Coast") (k := 1) hx hb hB inB_RX2 hown hI rfl (by decide) m_51 (fun _ h9 => h9) ev3 dX2_rayCrosses_18 ?_
    refine lv_aload_n hx hb dX2_rayCrosses_21 rfl (lv_at hl 1 rfl) ?_
    refine lv_iload_n hx hb dX2_rayCrosses_22 rfl (lv_at hl 2 rfl) ?_
    obtain ⟨v4, ev4, hq⟩ := b_s hq
    refine gr_i (g_runV (As := [.int x1]) (rest := [.ref v3]) (ci := 5) hC (c_X2_segmentEnd l V g D cT f n x0 x1 v4 ev4) k_X2_segmentEnd m_758 rfl rfl ⟨Nat.le_of_ble_eq_true rfl, Nat.le_of_ble_eq_true rfl⟩ hI rfl rfl (h_me_eq ev4).1 rfl hl.1 rfl (Nat.le_of_ble_eq_true rfl) dX2_rayCrosses_23 ⟨by decide, by decide⟩) hI (fun H locs hI => ?_)
    obtain ⟨v5, ev5, hq⟩ := b_s hq
    refine fa_li hx hb hI ev5 dX2_rayCrosses_26 ?_
    refine lv_iload_n hx hb dX2_rayCrosses_27 rfl (lv_at hl 4 rfl) ?_
    have hj36 : ∀ (x0 : Nat) (x1 : Int32) (x2 : Int32) (x3 : Int32) (x4 : Int32) (t0 : Int32) (H : Heap) (locs : List Loc) (ls : Array Slot), g_at g_no V g D cT f n s H locs → lv_has ls 7 [(0, .ref x0), (1, .int x1), (2, .int x2), (3, .int x3), (4, .int x4)] → p_X2_rayCrosses_j36 V g f x0 x1 x2 x3 x4 t0 = some o → W p l e rm_X2_rayCrosses s m args below meth c H locs 0 0 (MQ below (g_Ri o n) args s 0 0 g_no) (F0 m 36 ls [.int t0]) := by
      intro x0 x1 x2 x3 x4 t0 H locs ls hI hl hq
      unfold p_X2_rayCrosses_j36 at hq
      refine lv_istore (lv' := [(5, .int t0), (0, .ref x0), (1, .int x1), (2, .int x2), (3, .int x3), (4, .int x4)]) hx hb dX2_rayCrosses_36 hl (by decide) rfl (fun ls hl => ?_)
      refine lv_iload hx hb dX2_rayCrosses_38 (lv_at hl 5 rfl) ?_
      refine lv_iload hx hb dX2_rayCrosses_40 (lv_at hl 0 rfl) ?_
      refine lv_icmp_ne (tgt := 47) hx hb dX2_rayCrosses_42 (by decide) (fun c6 => ?_) (fun c6 => ?_)
      · replace hq := i_f c6 hq
        refine lv_aload_n hx hb dX2_rayCrosses_47 rfl (lv_at hl 1 rfl) ?_
        refine lv_iload_n hx hb dX2_rayCrosses_48 rfl (lv_at hl 2 rfl) ?_
        refine lv_iload_n hx hb dX2_rayCrosses_49 rfl (lv_at hl 3 rfl) ?_
        refine lv_iload_n hx hb dX2_rayCrosses_50 rfl (lv_at hl 4 rfl) ?_
        obtain ⟨v7, ev7, hq⟩ := b_s hq
        refine gr_i (g_runV (As := [.int x1, .int x2, .int x3]) (rest := []) (ci := 5) hC (c_X2_side l V g D cT f n x0 x1 x2 x3 v7 ev7) k_X2_side m_762 rfl rfl ⟨Nat.le_of_ble_eq_true rfl, Nat.le_of_ble_eq_true rfl⟩ hI rfl rfl (h_me_eq ev7).1 rfl hl.1 rfl (Nat.le_of_ble_eq_true rfl) dX2_rayCrosses_51 ⟨by decide, by decide⟩) hI (fun H locs hI => ?_)
        refine lv_istore (lv' := [(6, .int v7), (5, .int t0), (0, .ref x0), (1, .int x1), (2, .int x2), (3, .int x3), (4, .int x4)]) hx hb dX2_rayCrosses_54 hl (by decide) rfl (fun ls hl => ?_)
        refine lv_iload hx hb dX2_rayCrosses_56 (lv_at hl 1 rfl) ?_
        refine lv_if_eq (tgt := 74) hx hb dX2_rayCrosses_58 (by decide) (fun c8 => ?_) (fun c8 => ?_)
        · replace hq := i_t c8 hq
          refine lv_iload hx hb dX2_rayCrosses_74 (lv_at hl 0 rfl) ?_
          refine lv_if_ge (tgt := 83) hx hb dX2_rayCrosses_76 (by decide) (fun c9 => ?_) (fun c9 => ?_)
          · replace hq := i_t c9 hq
            refine lv_iconst (v := (0 : Int32)) hx hb dX2_rayCrosses_83 (by decide) ?_
            exact ge_Ri hx hb hlocks hr (by decide +kernel) hI hq dX2_rayCrosses_84
          · replace hq := i_f c9 hq
            refine lv_iconst (v := (1 : Int32)) hx hb dX2_rayCrosses_79 (by decide) ?_
            refine lv_goto (tgt := 84) hx hb dX2_rayCrosses_80 (by decide) ?_
            exact ge_Ri hx hb hlocks hr (by decide +kernel) hI hq dX2_rayCrosses_84
        · replace hq := i_f c8 hq
          refine lv_iload hx hb dX2_rayCrosses_61 (lv_at hl 0 rfl) ?_
          refine lv_if_le (tgt := 70) hx hb dX2_rayCrosses_63 (by decide) (fun c10 => ?_) (fun c10 => ?_)
          · replace hq := i_t c10 hq
            refine lv_iconst (v := (0 : Int32)) hx hb dX2_rayCrosses_70 (by decide) ?_
            refine lv_goto (tgt := 84) hx hb dX2_rayCrosses_71 (by decide) ?_
            exact ge_Ri hx hb hlocks hr (by decide +kernel) hI hq dX2_rayCrosses_84
          · replace hq := i_f c10 hq
            refine lv_iconst (v := (1 : Int32)) hx hb dX2_rayCrosses_66 (by decide) ?_
            refine lv_goto (tgt := 84) hx hb dX2_rayCrosses_67 (by decide) ?_
            exact ge_Ri hx hb hlocks hr (by decide +kernel) hI hq dX2_rayCrosses_84
      · replace hq := i_t c6 hq
        refine lv_iconst (v := (0 : Int32)) hx hb dX2_rayCrosses_45 (by decide) ?_
        exact ge_Ri hx hb hlocks hr (by decide +kernel) hI hq dX2_rayCrosses_46
    refine lv_icmp_le (tgt := 35) hx hb dX2_rayCrosses_28 (by decide) (fun c11 => ?_) (fun c11 => ?_)
    · replace hq := i_t c11 hq
      refine lv_iconst (v := (0 : Int32)) hx hb dX2_rayCrosses_35 (by decide) ?_
      exact hj36 x0 x1 x2 x3 t0 (0 : Int32) H locs ls hI (lv_sub hl [1, 2, 3, 4, 0] rfl) hq
    · replace hq := i_f c11 hq
      refine lv_iconst (v := (1 : Int32)) hx hb dX2_rayCrosses_31 (by decide) ?_
      refine lv_goto (tgt := 36) hx hb dX2_rayCrosses_32 (by decide) ?_
      exact hj36 x0 x1 x2 x3 t0 (1 : Int32) H locs ls hI (lv_sub hl [1, 2, 3, 4, 0] rfl) hq
  refine lv_icmp_le (tgt := 14) hx hb dX2_rayCrosses_7 (by decide) (fun c12 => ?_) (fun c12 => ?_)
  · replace hq := i_t c12 hq
    refine lv_iconst (v := (0 : Int32)) hx hb dX2_rayCrosses_14 (by decide) ?_
    exact hj15 a0 a1 a2 a3 (0 : Int32) H locs ls hI (lv_sub hl [0, 1, 2, 3] rfl) hq
  · replace hq := i_f c12 hq
    refine lv_iconst (v := (1 : Int32)) hx hb dX2_rayCrosses_10 (by decide) ?_
    refine lv_goto (tgt := 15) hx hb dX2_rayCrosses_11 (by decide) ?_
    exact hj15 a0 a1 a2 a3 (1 : Int32) H locs ls hI (lv_sub hl [0, 1, 2, 3] rfl) hq

abbrev rm_X2_segments : Room := { frames := 2, cells := 0, slots := 0, locals := 120 }
theorem k_X2_segments : g_CV yX2_segments cX2_segments 1 (some .int) 0 := ⟨⟨m_753, m_3, by decide +kernel⟩, m_751, m_752⟩
set_option maxHeartbeats 4000000 in
set_option maxRecDepth 100000 in
theorem c_X2_segments (l : Launch) (V : Nat → Nat) (g : GH) (D : va_G) (cT : Nat → ClassId) (f : GH) (n : Nat) (a0 : Nat) (o : Int32) (hq : p_X2_segments V g f a0 = some o) : Met l yX2_segments (Cond.code yX2_segments cX2_segments 1 (some .int) :: g_B) rm_X2_segments (va_Pc [.ref a0] (g_I V g D cT f n)) (g_Ri o n) 0 0 g_no := by
  refine g_begin (own := RX2) [.ref a0] [(0, .ref a0)] g_no (fun _ h => h.elim) (by decide) rfl (Nat.le_of_ble_eq_true rfl) rfl ?_
  intro p e s m args below meth c hx hb hr hlocks hin hC hI ls hl
  obtain ⟨hx, hb, hml, hown, hB⟩ := id hC
  obtain ⟨H, hH⟩ : ∃ H, H = s.heap := ⟨_, rfl⟩
  obtain ⟨locs, hlocs⟩ : ∃ L : List Loc, L = [] := ⟨_, rfl⟩
  rw [← hH, ← hlocs] at hI ⊢
  clear hH hlocs
  unfold p_X2_segments at hq
  replace hq := (h_me_eq hq).2
  refine lv_aload_n hx hb dX2_segments_0 rfl (lv_at hl 0 rfl) ?_
  obtain ⟨v1, ev1, hq⟩ := b_s hq
  refine fa_gi (own := RX2) (ref := "CoastlineRuler$Coast") (k := 3) hx hb hB inB_RX2 hown hI rfl (by decide) m_58 (fun _ h9 => h9) ev1 dX2_segments_1 ?_
  refine lv_if_eq (tgt := 14) hx hb dX2_segments_4 (by decide) (fun c2 => ?_) (fun c2 => ?_)
  · replace hq := i_t c2 hq
    refine lv_aload_n hx hb dX2_segments_14 rfl (lv_at hl 0 rfl) ?_
    obtain ⟨v3, ev3, hq⟩ := b_s hq
    refine fa_gi (own := RX2) (ref := "CoastlineRuler$Coast") (k := 2) hx hb hB inB_RX2 hown hI rfl (by decide) m_54 (fun _ h9 => h9) ev3 dX2_segments_15 ?_
    refine lv_iconst (v := (1 : Int32)) hx hb dX2_segments_18 (by decide) ?_
    refine lv_isub hx hb dX2_segments_19 ?_
    exact ge_Ri hx hb hlocks hr rfl hI hq dX2_segments_20
  · replace hq := i_f c2 hq
    refine lv_aload_n hx hb dX2_segments_7 rfl (lv_at hl 0 rfl) ?_
    obtain ⟨v4, ev4, hq⟩ := b_s hq
    refine fa_gi (own := RX2) (ref := "CoastlineRuler$Coast") (k := 2) hx hb hB inB_RX2 hown hI rfl (by decide) m_54 (fun _ h9 => h9) ev4 dX2_segments_8 ?_
    refine lv_goto (tgt := 20) hx hb dX2_segments_11 (by decide) ?_
    exact ge_Ri hx hb hlocks hr rfl hI hq dX2_segments_20

abbrev rm_X2_covers : Room := { frames := 5, cells := 0, slots := 0, locals := 191 }
theorem k_X2_covers : g_CV yX2_covers cX2_covers 5 (some .boolean) 2 := ⟨⟨m_749, m_3, by decide +kernel⟩, m_747, m_748⟩
set_option maxHeartbeats 4000000 in
set_option maxRecDepth 100000 in
theorem c_X2_covers (l : Launch) (V : Nat → Nat) (g : GH) (D : va_G) (cT : Nat → ClassId) (f : GH) (n : Nat) (a0 : Nat) (a1 : Int32) (a2 : Int32) (o : Int32) (hq : p_X2_covers V g f a0 a1 a2 = some o) : Met l yX2_covers (Cond.code yX2_covers cX2_covers 5 (some .boolean) :: g_B) rm_X2_covers (va_Pc [.ref a0, .int a1, .int a2] (g_I V g D cT f n)) (g_Ri o n) 0 0 g_no := by
  refine g_begin (own := RX2) [.ref a0, .int a1, .int a2] [(0, .ref a0), (1, .int a1), (2, .int a2)] g_no (fun _ h => h.elim) (by decide) rfl (Nat.le_of_ble_eq_true rfl) rfl ?_
  intro p e s m args below meth c hx hb hr hlocks hin hC hI ls hl
  obtain ⟨hx, hb, hml, hown, hB⟩ := id hC
  obtain ⟨H, hH⟩ : ∃ H, H = s.heap := ⟨_, rfl⟩
  obtain ⟨locs, hlocs⟩ : ∃ L : List Loc, L = [] := ⟨_, rfl⟩
  rw [← hH, ← hlocs] at hI ⊢
  clear hH hlocs
  unfold p_X2_covers at hq
  replace hq := (h_me_eq hq).2
  refine lv_iconst (v := (0 : Int32)) hx hb dX2_covers_0 (by decide) ?_
  refine lv_istore_n (lv' := [(3, .int (0 : Int32)), (0, .ref a0), (1, .int a1), (2, .int a2)]) hx hb dX2_covers_1 rfl hl (by decide) rfl (fun ls hl => ?_)
  refine lv_iconst (v := (0 : Int32)) hx hb dX2_covers_2 (by decide) ?_
  refine lv_istore (lv' := [(4, .int (0 : Int32)), (3, .int (0 : Int32)), (0, .ref a0), (1, .int a1), (2, .int a2)]) hx hb dX2_covers_3 hl (by decide) rfl (fun ls hl => ?_)
  have hl5 : ∀ (K25 : Option Int32) (hK25 : ∀  (H : Heap) (locs : List Loc) (ls : Array Slot), g_at g_no V g D cT f n s H locs → lv_has ls 5 [] → K25  = some o → W p l e rm_X2_covers s m args below meth c H locs 0 0 (MQ below (g_Ri o n) args s 0 0 g_no) (F0 m 25 ls [])) (K54 : Int32 → Option Int32) (hK54 : ∀ (x3 : Int32) (H : Heap) (locs : List Loc) (ls : Array Slot), g_at g_no V g D cT f n s H locs → lv_has ls 5 [(3, .int x3)] → K54 x3 = some o → W p l e rm_X2_covers s m args below meth c H locs 0 0 (MQ below (g_Ri o n) args s 0 0 g_no) (F0 m 54 ls [])) (N : Nat) (x0 : Nat) (x1 : Int32) (x2 : Int32) (x3 : Int32) (x4 : Int32) (H : Heap) (locs : List Loc) (ls : Array Slot), g_at g_no V g D cT f n s H locs → lv_has ls 5 [(0, .ref x0), (1, .int x1), (2, .int x2), (3, .int x3), (4, .int x4)] → p_X2_covers_l5 V g f K25 K54 N x0 x1 x2 x3 x4 = some o → W p l e rm_X2_covers s m args below meth c H locs 0 0 (MQ below (g_Ri o n) args s 0 0 g_no) (F0 m 5 ls []) := by
    intro K25 hK25 K54 hK54 N
    induction N with
    | zero =>
      intro x0 x1 x2 x3 x4 H locs ls hI hl hq
      rw [p_X2_covers_l5] at hq
      cases hq
    | succ N ih =>
      intro x0 x1 x2 x3 x4 H locs ls hI hl hq
      rw [p_X2_covers_l5] at hq
      refine lv_iload hx hb dX2_covers_5 (lv_at hl 4 rfl) ?_
      refine lv_aload_n hx hb dX2_covers_7 rfl (lv_at hl 0 rfl) ?_
      obtain ⟨v1, ev1, hq⟩ := b_s hq
      refine gr_i (g_runV (As := []) (rest := [.int x4]) (ci := 5) hC (c_X2_segments l V g D cT f n x0 v1 ev1) k_X2_segments m_750 rfl rfl ⟨Nat.le_of_ble_eq_true rfl, Nat.le_of_ble_eq_true rfl⟩ hI rfl rfl (h_me_eq ev1).1 rfl hl.1 rfl (Nat.le_of_ble_eq_true rfl) dX2_covers_8 ⟨by decide, by decide⟩) hI (fun H locs hI => ?_)
      refine lv_icmp_ge (tgt := 54) hx hb dX2_covers_11 (by decide) (fun c2 => ?_) (fun c2 => ?_)
      · replace hq := i_t c2 hq
        exact hK54 x3 H locs ls hI (lv_sub hl [3] rfl) hq
      · replace hq := i_f c2 hq
        refine lv_aload_n hx hb dX2_covers_14 rfl (lv_at hl 0 rfl) ?_
        refine lv_iload hx hb dX2_covers_15 (lv_at hl 4 rfl) ?_
        refine lv_iload_n hx hb dX2_covers_17 rfl (lv_at hl 1 rfl) ?_
        refine lv_iload_n hx hb dX2_covers_18 rfl (lv_at hl 2 rfl) ?_
        obtain ⟨v3, ev3, hq⟩ := b_s hq
        refine gr_i (g_runV (As := [.int x4, .int x1, .int x2]) (rest := []) (ci := 5) hC (c_X2_liesOn l V g D cT f n x0 x4 x1 x2 v3 ev3) k_X2_liesOn m_754 rfl rfl ⟨Nat.le_of_ble_eq_true rfl, Nat.le_of_ble_eq_true rfl⟩ hI rfl rfl (h_me_eq ev3).1 rfl hl.1 rfl (Nat.le_of_ble_eq_true rfl) dX2_covers_19 ⟨by decide, by decide⟩) hI (fun H locs hI => ?_)
        refine lv_if_eq (tgt := 27) hx hb dX2_covers_22 (by decide) (fun c4 => ?_) (fun c4 => ?_)
        · replace hq := i_t c4 hq
          refine lv_aload_n hx hb dX2_covers_27 rfl (lv_at hl 0 rfl) ?_
          refine lv_iload hx hb dX2_covers_28 (lv_at hl 4 rfl) ?_
          refine lv_iload_n hx hb dX2_covers_30 rfl (lv_at hl 1 rfl) ?_
          refine lv_iload_n hx hb dX2_covers_31 rfl (lv_at hl 2 rfl) ?_
          obtain ⟨v5, ev5, hq⟩ := b_s hq
          refine gr_i (g_runV (As := [.int x4, .int x1, .int x2]) (rest := []) (ci := 5) hC (c_X2_rayCrosses l V g D cT f n x0 x4 x1 x2 v5 ev5) k_X2_rayCrosses m_769 rfl rfl ⟨Nat.le_of_ble_eq_true rfl, Nat.le_of_ble_eq_true rfl⟩ hI rfl rfl (h_me_eq ev5).1 rfl hl.1 rfl (Nat.le_of_ble_eq_true rfl) dX2_covers_32 ⟨by decide, by decide⟩) hI (fun H locs hI => ?_)
          refine lv_if_eq (tgt := 48) hx hb dX2_covers_35 (by decide) (fun c6 => ?_) (fun c6 => ?_)
          · replace hq := i_t c6 hq
            refine lv_iinc (v := x4 + (1 : Int32)) (lv' := [(4, .int (x4 + (1 : Int32))), (0, .ref x0), (1, .int x1), (2, .int x2), (3, .int x3)]) hx hb dX2_covers_48 hl (k := 4) rfl rfl (by decide) rfl (fun ls hl => ?_)
            refine lv_goto (tgt := 5) hx hb dX2_covers_51 (by decide) ?_
            exact ih x0 x1 x2 x3 (x4 + (1 : Int32)) H locs ls hI (lv_sub hl [1, 2, 3, 4, 0] rfl) hq
          · replace hq := i_f c6 hq
            refine lv_iload_n hx hb dX2_covers_38 rfl (lv_at hl 3 rfl) ?_
            refine lv_if_ne (tgt := 46) hx hb dX2_covers_39 (by decide) (fun c7 => ?_) (fun c7 => ?_)
            · replace hq := i_f c7 hq
              refine lv_iconst (v := (0 : Int32)) hx hb dX2_covers_46 (by decide) ?_
              refine lv_istore_n (lv' := [(3, .int (0 : Int32)), (0, .ref x0), (1, .int x1), (2, .int x2), (4, .int x4)]) hx hb dX2_covers_47 rfl hl (by decide) rfl (fun ls hl => ?_)
              refine lv_iinc (v := x4 + (1 : Int32)) (lv' := [(4, .int (x4 + (1 : Int32))), (3, .int (0 : Int32)), (0, .ref x0), (1, .int x1), (2, .int x2)]) hx hb dX2_covers_48 hl (k := 4) rfl rfl (by decide) rfl (fun ls hl => ?_)
              refine lv_goto (tgt := 5) hx hb dX2_covers_51 (by decide) ?_
              exact ih x0 x1 x2 (0 : Int32) (x4 + (1 : Int32)) H locs ls hI (lv_sub hl [2, 3, 4, 1, 0] rfl) hq
            · replace hq := i_t c7 hq
              refine lv_iconst (v := (1 : Int32)) hx hb dX2_covers_42 (by decide) ?_
              refine lv_goto (tgt := 47) hx hb dX2_covers_43 (by decide) ?_
              refine lv_istore_n (lv' := [(3, .int (1 : Int32)), (0, .ref x0), (1, .int x1), (2, .int x2), (4, .int x4)]) hx hb dX2_covers_47 rfl hl (by decide) rfl (fun ls hl => ?_)
              refine lv_iinc (v := x4 + (1 : Int32)) (lv' := [(4, .int (x4 + (1 : Int32))), (3, .int (1 : Int32)), (0, .ref x0), (1, .int x1), (2, .int x2)]) hx hb dX2_covers_48 hl (k := 4) rfl rfl (by decide) rfl (fun ls hl => ?_)
              refine lv_goto (tgt := 5) hx hb dX2_covers_51 (by decide) ?_
              exact ih x0 x1 x2 (1 : Int32) (x4 + (1 : Int32)) H locs ls hI (lv_sub hl [2, 3, 4, 1, 0] rfl) hq
        · replace hq := i_f c4 hq
          exact hK25  H locs ls hI (lv_sub hl [] rfl) hq
  refine hl5 _ ?_ _ ?_ FU a0 a1 a2 (0 : Int32) (0 : Int32) H locs ls hI (lv_sub hl [2, 3, 4, 1, 0] rfl) hq
  · intro  H locs ls hI hl hq
    refine lv_iconst (v := (1 : Int32)) hx hb dX2_covers_25 (by decide) ?_
    exact ge_Ri hx hb hlocks hr (by decide +kernel) hI hq dX2_covers_26
  · intro x3 H locs ls hI hl hq
    refine lv_iload_n hx hb dX2_covers_54 rfl (lv_at hl 0 rfl) ?_
    obtain ⟨_, ev8, hq⟩ := b_s hq
    exact ge_Ri hx hb hlocks hr (h_bz_eq ev8).2.1 hI hq dX2_covers_55

abbrev rm_X2_coversAll : Room := { frames := 6, cells := 0, slots := 0, locals := 215 }
theorem k_X2_coversAll : g_CV yX2_coversAll cX2_coversAll 3 (some .boolean) 1 := ⟨⟨m_745, m_3, by decide +kernel⟩, m_743, m_744⟩
set_option maxHeartbeats 4000000 in
set_option maxRecDepth 100000 in
theorem c_X2_coversAll (l : Launch) (V : Nat → Nat) (g : GH) (D : va_G) (cT : Nat → ClassId) (f : GH) (n : Nat) (a0 : Nat) (a1 : Nat) (o : Int32) (hq : p_X2_coversAll V g f a0 a1 = some o) : Met l yX2_coversAll (Cond.code yX2_coversAll cX2_coversAll 3 (some .boolean) :: g_B) rm_X2_coversAll (va_Pc [.ref a0, .ref a1] (g_I V g D cT f n)) (g_Ri o n) 0 0 g_no := by
  refine g_begin (own := RX2) [.ref a0, .ref a1] [(0, .ref a0), (1, .ref a1)] g_no (fun _ h => h.elim) (by decide) rfl (Nat.le_of_ble_eq_true rfl) rfl ?_
  intro p e s m args below meth c hx hb hr hlocks hin hC hI ls hl
  obtain ⟨hx, hb, hml, hown, hB⟩ := id hC
  obtain ⟨H, hH⟩ : ∃ H, H = s.heap := ⟨_, rfl⟩
  obtain ⟨locs, hlocs⟩ : ∃ L : List Loc, L = [] := ⟨_, rfl⟩
  rw [← hH, ← hlocs] at hI ⊢
  clear hH hlocs
  unfold p_X2_coversAll at hq
  replace hq := (h_me_eq hq).2
  refine lv_iconst (v := (0 : Int32)) hx hb dX2_coversAll_0 (by decide) ?_
  refine lv_istore_n (lv' := [(2, .int (0 : Int32)), (0, .ref a0), (1, .ref a1)]) hx hb dX2_coversAll_1 rfl hl (by decide) rfl (fun ls hl => ?_)
  have hl2 : ∀ (K29 : Option Int32) (hK29 : ∀  (H : Heap) (locs : List Loc) (ls : Array Slot), g_at g_no V g D cT f n s H locs → lv_has ls 3 [] → K29  = some o → W p l e rm_X2_coversAll s m args below meth c H locs 0 0 (MQ below (g_Ri o n) args s 0 0 g_no) (F0 m 29 ls [])) (K37 : Option Int32) (hK37 : ∀  (H : Heap) (locs : List Loc) (ls : Array Slot), g_at g_no V g D cT f n s H locs → lv_has ls 3 [] → K37  = some o → W p l e rm_X2_coversAll s m args below meth c H locs 0 0 (MQ below (g_Ri o n) args s 0 0 g_no) (F0 m 37 ls [])) (N : Nat) (x0 : Nat) (x1 : Nat) (x2 : Int32) (H : Heap) (locs : List Loc) (ls : Array Slot), g_at g_no V g D cT f n s H locs → lv_has ls 3 [(0, .ref x0), (1, .ref x1), (2, .int x2)] → p_X2_coversAll_l2 V g f K29 K37 N x0 x1 x2 = some o → W p l e rm_X2_coversAll s m args below meth c H locs 0 0 (MQ below (g_Ri o n) args s 0 0 g_no) (F0 m 2 ls []) := by
    intro K29 hK29 K37 hK37 N
    induction N with
    | zero =>
      intro x0 x1 x2 H locs ls hI hl hq
      rw [p_X2_coversAll_l2] at hq
      cases hq
    | succ N ih =>
      intro x0 x1 x2 H locs ls hI hl hq
      rw [p_X2_coversAll_l2] at hq
      refine lv_iload_n hx hb dX2_coversAll_2 rfl (lv_at hl 2 rfl) ?_
      refine lv_aload_n hx hb dX2_coversAll_3 rfl (lv_at hl 1 rfl) ?_
      obtain ⟨v1, ev1, hq⟩ := b_s hq
      refine fa_gi (own := RX2) (ref := "CoastlineRuler$Coast") (k := 2) hx hb hB inB_RX2 hown hI rfl (by decide) m_54 (fun _ h9 => h9) ev1 dX2_coversAll_4 ?_
      refine lv_icmp_ge (tgt := 37) hx hb dX2_coversAll_7 (by decide) (fun c2 => ?_) (fun c2 => ?_)
      · replace hq := i_t c2 hq
        exact hK37  H locs ls hI (lv_sub hl [] rfl) hq
      · replace hq := i_f c2 hq
        refine lv_aload_n hx hb dX2_coversAll_10 rfl (lv_at hl 0 rfl) ?_
        refine lv_aload_n hx hb dX2_coversAll_11 rfl (lv_at hl 1 rfl) ?_
        obtain ⟨v3, ev3, hq⟩ := b_s hq
        refine fa_gr (own := RX2) (ref := "CoastlineRuler$Coast") (k := 0) hx hb hB inB_RX2 hown hI rfl (by decide) m_48 (fun _ h9 => h9) ev3 dX2_coversAll_12 ?_
        refine lv_iload_n hx hb dX2_coversAll_15 rfl (lv_at hl 2 rfl) ?_
        obtain ⟨v4, ev4, hq⟩ := b_s hq
        refine fa_li hx hb hI ev4 dX2_coversAll_16 ?_
        refine lv_aload_n hx hb dX2_coversAll_17 rfl (lv_at hl 1 rfl) ?_
        obtain ⟨v5, ev5, hq⟩ := b_s hq
        refine fa_gr (own := RX2) (ref := "CoastlineRuler$Coast") (k := 1) hx hb hB inB_RX2 hown hI rfl (by decide) m_51 (fun _ h9 => h9) ev5 dX2_coversAll_18 ?_
        refine lv_iload_n hx hb dX2_coversAll_21 rfl (lv_at hl 2 rfl) ?_
        obtain ⟨v6, ev6, hq⟩ := b_s hq
        refine fa_li hx hb hI ev6 dX2_coversAll_22 ?_
        obtain ⟨v7, ev7, hq⟩ := b_s hq
        refine gr_i (g_runV (As := [.int v4, .int v6]) (rest := []) (ci := 5) hC (c_X2_covers l V g D cT f n x0 v4 v6 v7 ev7) k_X2_covers m_746 rfl rfl ⟨Nat.le_of_ble_eq_true rfl, Nat.le_of_ble_eq_true rfl⟩ hI rfl rfl (h_me_eq ev7).1 rfl hl.1 rfl (Nat.le_of_ble_eq_true rfl) dX2_coversAll_23 ⟨by decide, by decide⟩) hI (fun H locs hI => ?_)
        refine lv_if_ne (tgt := 31) hx hb dX2_coversAll_26 (by decide) (fun c8 => ?_) (fun c8 => ?_)
        · replace hq := i_f c8 hq
          refine lv_iinc (v := x2 + (1 : Int32)) (lv' := [(2, .int (x2 + (1 : Int32))), (0, .ref x0), (1, .ref x1)]) hx hb dX2_coversAll_31 hl (k := 2) rfl rfl (by decide) rfl (fun ls hl => ?_)
          refine lv_goto (tgt := 2) hx hb dX2_coversAll_34 (by decide) ?_
          exact ih x0 x1 (x2 + (1 : Int32)) H locs ls hI (lv_sub hl [1, 2, 0] rfl) hq
        · replace hq := i_t c8 hq
          exact hK29  H locs ls hI (lv_sub hl [] rfl) hq
  refine hl2 _ ?_ _ ?_ FU a0 a1 (0 : Int32) H locs ls hI (lv_sub hl [1, 2, 0] rfl) hq
  · intro  H locs ls hI hl hq
    refine lv_iconst (v := (0 : Int32)) hx hb dX2_coversAll_29 (by decide) ?_
    exact ge_Ri hx hb hlocks hr (by decide +kernel) hI hq dX2_coversAll_30
  · intro  H locs ls hI hl hq
    refine lv_iconst (v := (1 : Int32)) hx hb dX2_coversAll_37 (by decide) ?_
    exact ge_Ri hx hb hlocks hr (by decide +kernel) hI hq dX2_coversAll_38


set_option maxHeartbeats 4000000 in
set_option maxRecDepth 100000 in
theorem cs_0 {p : Program} {l : Launch} {e : Env} {s : State} {m : MethodId} {args : Array Value} {below : List Frame} {meth : Method} {c : Code} {V : Nat → Nat} {g : GH} {D : va_G} {cT : Nat → ClassId} (hl0 : l.stackTraces = false) (hx : p.tables.exec = Jvm.exec) (hb : c.code = cL_law) (hC : CallFix p m c cL_law 9 s args g_B RL) {Q : State → Prop} {f : GH} {n : Nat} (x0 x1 x2 x3 x4 : Nat) (x5 : Int32) {f1 : GH} (hq : p_case_0 V g f n x0 x1 x2 x3 x4 x5 = some f1) {H : Heap} {locs : List Loc} {cells slots : Nat} {ls : Array Slot} (hcap : cells + 17 ≤ 601024 ∧ slots + 3206 ≤ 7293034) (hI : g_at (g_A V) V g D cT f n s H locs) (hl : lv_has ls 9 [(0, .ref x0), (1, .ref x1), (2, .ref x2), (3, .ref x3), (4, .ref x4), (5, .int x5)])
    (kk : ∀ (H : Heap) (locs : List Loc) (ls : Array Slot) (n1 : Nat), n ≤ n1 → g_at (g_A V) V g D cT f1 n1 s H locs → lv_has ls 9 [(0, .ref x0), (1, .ref x1), (2, .ref x2), (3, .ref x3), (4, .ref x4), (5, .int x5)] → W p l e room_1 s m args below meth c H locs (cells + 17) (slots + 3206) Q (F0 m 3637 ls [])) : W p l e room_1 s m args below meth c H locs cells slots Q (F0 m 296 ls []) := by
  obtain ⟨_, _, hml, hown, hB⟩ := id hC
  unfold p_case_0 at hq
  refine lv_aload_n hx hb dL_law_296 rfl (lv_at hl 1 rfl) ?_
  refine lv_aload_n hx hb dL_law_297 rfl (lv_at hl 0 rfl) ?_
  refine lv_iload hx hb dL_law_298 (lv_at hl 5 rfl) ?_
  refine lv_iconst (v := (1 : Int32)) hx hb dL_law_300 (by decide) ?_
  refine lv_iadd hx hb dL_law_301 ?_
  obtain ⟨v1, ev1, hq⟩ := b_s hq
  refine fs_li hx hb hI ev1 dL_law_302 ?_
  refine lv_aload_n hx hb dL_law_303 rfl (lv_at hl 0 rfl) ?_
  refine lv_iload hx hb dL_law_304 (lv_at hl 5 rfl) ?_
  refine lv_iconst (v := (2 : Int32)) hx hb dL_law_306 (by decide) ?_
  refine lv_iadd hx hb dL_law_307 ?_
  obtain ⟨v2, ev2, hq⟩ := b_s hq
  refine fs_li hx hb hI ev2 dL_law_308 ?_
  refine lv_aload_n hx hb dL_law_309 rfl (lv_at hl 0 rfl) ?_
  refine lv_iload hx hb dL_law_310 (lv_at hl 5 rfl) ?_
  refine lv_iconst (v := (3 : Int32)) hx hb dL_law_312 (by decide) ?_
  refine lv_iadd hx hb dL_law_313 ?_
  obtain ⟨v3, ev3, hq⟩ := b_s hq
  refine fs_li hx hb hI ev3 dL_law_314 ?_
  refine lv_aload_n hx hb dL_law_315 rfl (lv_at hl 0 rfl) ?_
  refine lv_iload hx hb dL_law_316 (lv_at hl 5 rfl) ?_
  refine lv_iconst (v := (4 : Int32)) hx hb dL_law_318 (by decide) ?_
  refine lv_iadd hx hb dL_law_319 ?_
  obtain ⟨v4, ev4, hq⟩ := b_s hq
  refine fs_li hx hb hI ev4 dL_law_320 ?_
  refine lv_aload_n hx hb dL_law_321 rfl (lv_at hl 0 rfl) ?_
  refine lv_iload hx hb dL_law_322 (lv_at hl 5 rfl) ?_
  refine lv_iconst (v := (5 : Int32)) hx hb dL_law_324 (by decide) ?_
  refine lv_iadd hx hb dL_law_325 ?_
  obtain ⟨v5, ev5, hq⟩ := b_s hq
  refine fs_li hx hb hI ev5 dL_law_326 ?_
  obtain ⟨v6, ev6, hq⟩ := b_s hq
  refine gw_i (g_runV (As := [.int v1, .int v2, .int v3, .int v4, .int v5]) (rest := []) (ci := 9) hC (c_X7_appendText l V g D cT f n x1 v1 v2 v3 v4 v5 v6 ev6) k_X7_appendText m_305 rfl rfl ⟨Nat.le_of_ble_eq_true rfl, Nat.le_of_ble_eq_true rfl⟩ hI rfl rfl (h_me_eq ev6).1 rfl hl.1 rfl (Nat.le_of_ble_eq_true rfl) dL_law_327 ⟨(by have := hcap.1; show _ ≤ 601024; omega), (by have := hcap.2; show _ ≤ 7293034; omega)⟩) hI (fun H locs hI => ?_)
  refine lv_aload_n hx hb dL_law_330 rfl (lv_at hl 2 rfl) ?_
  refine lv_aload_n hx hb dL_law_331 rfl (lv_at hl 0 rfl) ?_
  refine lv_iload hx hb dL_law_332 (lv_at hl 5 rfl) ?_
  refine lv_iconst (v := (1 : Int32)) hx hb dL_law_334 (by decide) ?_
  refine lv_iadd hx hb dL_law_335 ?_
  obtain ⟨v7, ev7, hq⟩ := b_s hq
  refine fs_li hx hb hI ev7 dL_law_336 ?_
  refine lv_aload_n hx hb dL_law_337 rfl (lv_at hl 0 rfl) ?_
  refine lv_iload hx hb dL_law_338 (lv_at hl 5 rfl) ?_
  refine lv_iconst (v := (2 : Int32)) hx hb dL_law_340 (by decide) ?_
  refine lv_iadd hx hb dL_law_341 ?_
  obtain ⟨v8, ev8, hq⟩ := b_s hq
  refine fs_li hx hb hI ev8 dL_law_342 ?_
  refine lv_aload_n hx hb dL_law_343 rfl (lv_at hl 0 rfl) ?_
  refine lv_iload hx hb dL_law_344 (lv_at hl 5 rfl) ?_
  refine lv_iconst (v := (3 : Int32)) hx hb dL_law_346 (by decide) ?_
  refine lv_iadd hx hb dL_law_347 ?_
  obtain ⟨v9, ev9, hq⟩ := b_s hq
  refine fs_li hx hb hI ev9 dL_law_348 ?_
  refine lv_aload_n hx hb dL_law_349 rfl (lv_at hl 0 rfl) ?_
  refine lv_iload hx hb dL_law_350 (lv_at hl 5 rfl) ?_
  refine lv_iconst (v := (4 : Int32)) hx hb dL_law_352 (by decide) ?_
  refine lv_iadd hx hb dL_law_353 ?_
  obtain ⟨v10, ev10, hq⟩ := b_s hq
  refine fs_li hx hb hI ev10 dL_law_354 ?_
  refine lv_aload_n hx hb dL_law_355 rfl (lv_at hl 0 rfl) ?_
  refine lv_iload hx hb dL_law_356 (lv_at hl 5 rfl) ?_
  refine lv_iconst (v := (5 : Int32)) hx hb dL_law_358 (by decide) ?_
  refine lv_iadd hx hb dL_law_359 ?_
  obtain ⟨v11, ev11, hq⟩ := b_s hq
  refine fs_li hx hb hI ev11 dL_law_360 ?_
  obtain ⟨v12, ev12, hq⟩ := b_s hq
  refine gw_i (g_runV (As := [.int v7, .int v8, .int v9, .int v10, .int v11]) (rest := [.int v6.1]) (ci := 10) hC (c_X8_appendText l V g D cT v6.2 n x2 v7 v8 v9 v10 v11 v12 ev12) k_X8_appendText m_2062 rfl rfl ⟨Nat.le_of_ble_eq_true rfl, Nat.le_of_ble_eq_true rfl⟩ hI rfl rfl (h_me_eq ev12).1 rfl hl.1 rfl (Nat.le_of_ble_eq_true rfl) dL_law_361 ⟨(by have := hcap.1; show _ ≤ 601024; omega), (by have := hcap.2; show _ ≤ 7293034; omega)⟩) hI (fun H locs hI => ?_)
  refine lv_icmp_eq (tgt := 3637) hx hb dL_law_364 (by decide) (fun c13 => ?_) (fun c13 => ?_)
  · replace hq := i_t c13 hq
    obtain rfl := Option.some.inj hq
    refine W.widen (k := cells + 17) (n := slots + 3206) (by omega) (by omega) ?_
    exact kk _ _ _ _ (by omega) hI (lv_sub hl [0, 1, 2, 3, 4, 5] rfl)
  · replace hq := i_f c13 hq
    refine lv_iconst (v := (0 : Int32)) hx hb dL_law_367 (by decide) ?_
    cases hq

set_option maxHeartbeats 4000000 in
set_option maxRecDepth 100000 in
theorem cs_1 {p : Program} {l : Launch} {e : Env} {s : State} {m : MethodId} {args : Array Value} {below : List Frame} {meth : Method} {c : Code} {V : Nat → Nat} {g : GH} {D : va_G} {cT : Nat → ClassId} (hl0 : l.stackTraces = false) (hx : p.tables.exec = Jvm.exec) (hb : c.code = cL_law) (hC : CallFix p m c cL_law 9 s args g_B RL) {Q : State → Prop} {f : GH} {n : Nat} (x0 x1 x2 x3 x4 : Nat) (x5 : Int32) {f1 : GH} (hq : p_case_1 V g f n x0 x1 x2 x3 x4 x5 = some f1) {H : Heap} {locs : List Loc} {cells slots : Nat} {ls : Array Slot} (hcap : cells + 17 ≤ 601024 ∧ slots + 3206 ≤ 7293034) (hI : g_at (g_A V) V g D cT f n s H locs) (hl : lv_has ls 9 [(0, .ref x0), (1, .ref x1), (2, .ref x2), (3, .ref x3), (4, .ref x4), (5, .int x5)])
    (kk : ∀ (H : Heap) (locs : List Loc) (ls : Array Slot) (n1 : Nat), n ≤ n1 → g_at (g_A V) V g D cT f1 n1 s H locs → lv_has ls 9 [(0, .ref x0), (1, .ref x1), (2, .ref x2), (3, .ref x3), (4, .ref x4), (5, .int x5)] → W p l e room_1 s m args below meth c H locs (cells + 17) (slots + 3206) Q (F0 m 3637 ls [])) : W p l e room_1 s m args below meth c H locs cells slots Q (F0 m 369 ls []) := by
  obtain ⟨_, _, hml, hown, hB⟩ := id hC
  unfold p_case_1 at hq
  refine lv_aload_n hx hb dL_law_369 rfl (lv_at hl 1 rfl) ?_
  refine lv_aload_n hx hb dL_law_370 rfl (lv_at hl 0 rfl) ?_
  refine lv_iload hx hb dL_law_371 (lv_at hl 5 rfl) ?_
  refine lv_iconst (v := (1 : Int32)) hx hb dL_law_373 (by decide) ?_
  refine lv_iadd hx hb dL_law_374 ?_
  obtain ⟨v1, ev1, hq⟩ := b_s hq
  refine fs_li hx hb hI ev1 dL_law_375 ?_
  refine lv_aload_n hx hb dL_law_376 rfl (lv_at hl 3 rfl) ?_
  obtain ⟨v2, ev2, hq⟩ := b_s hq
  refine gl_i (g_runSW (As := [.ref x1, .int v1, .ref x3]) (rest := []) hC (c_L_loadMap l hl0 V g D cT f n x1 v1 x3 v2 ev2) k_L_loadMap m_606 rfl rfl ⟨Nat.le_of_ble_eq_true rfl, Nat.le_of_ble_eq_true rfl⟩ hI rfl hl.1 rfl (Nat.le_of_ble_eq_true rfl) dL_law_377 ⟨(by have := hcap.1; show _ ≤ 601024; omega), (by have := hcap.2; show _ ≤ 7293034; omega)⟩) hI (fun H locs n3 hn3 hI => ?_)
  refine lv_istore (lv' := [(6, .int v2.1), (0, .ref x0), (1, .ref x1), (2, .ref x2), (3, .ref x3), (4, .ref x4), (5, .int x5)]) hx hb dL_law_380 hl (by decide) rfl (fun ls hl => ?_)
  refine lv_aload_n hx hb dL_law_382 rfl (lv_at hl 3 rfl) ?_
  refine lv_aload_n hx hb dL_law_383 rfl (lv_at hl 1 rfl) ?_
  refine lv_iload hx hb dL_law_384 (lv_at hl 6 rfl) ?_
  refine lv_iconst (v := (1 : Int32)) hx hb dL_law_386 (by decide) ?_
  refine lv_iadd hx hb dL_law_387 ?_
  obtain ⟨v4, ev4, hq⟩ := b_s hq
  refine fs_li hx hb hI ev4 dL_law_388 ?_
  obtain ⟨v5, ev5, hq⟩ := b_s hq
  refine gw_i (g_runV (As := [.int v4]) (rest := []) (ci := 10) hC (c_X8_loadMap l V g D cT v2.2 n3 x2 v4 v5 ev5) k_X8_loadMap m_2074 rfl rfl ⟨Nat.le_of_ble_eq_true rfl, Nat.le_of_ble_eq_true rfl⟩ hI rfl rfl (h_me_eq ev5).1 rfl hl.1 rfl (Nat.le_of_ble_eq_true rfl) dL_law_389 ⟨(by have := hcap.1; show _ ≤ 601024; omega), (by have := hcap.2; show _ ≤ 7293034; omega)⟩) hI (fun H locs hI => ?_)
  refine lv_istore (lv' := [(7, .int v5.1), (6, .int v2.1), (0, .ref x0), (1, .ref x1), (2, .ref x2), (3, .ref x3), (4, .ref x4), (5, .int x5)]) hx hb dL_law_392 hl (by decide) rfl (fun ls hl => ?_)
  refine lv_aload_n hx hb dL_law_394 rfl (lv_at hl 4 rfl) ?_
  obtain ⟨v6, ev6, hq⟩ := b_s hq
  refine gr_i (g_runV (As := []) (rest := []) (ci := 10) hC (c_X8_thrown l V g D cT v5.2 n3 x2 v6 ev6) k_X8_thrown m_1610 rfl rfl ⟨Nat.le_of_ble_eq_true rfl, Nat.le_of_ble_eq_true rfl⟩ hI rfl rfl (h_me_eq ev6).1 rfl hl.1 rfl (Nat.le_of_ble_eq_true rfl) dL_law_395 ⟨(by have := hcap.1; show _ ≤ 601024; omega), (by have := hcap.2; show _ ≤ 7293034; omega)⟩) hI (fun H locs hI => ?_)
  refine lv_iload hx hb dL_law_398 (lv_at hl 1 rfl) ?_
  refine lv_icmp_eq (tgt := 405) hx hb dL_law_400 (by decide) (fun c7 => ?_) (fun c7 => ?_)
  · replace hq := i_t c7 hq
    refine lv_iload hx hb dL_law_405 (lv_at hl 1 rfl) ?_
    refine lv_if_ne (tgt := 422) hx hb dL_law_407 (by decide) (fun c8 => ?_) (fun c8 => ?_)
    · replace hq := i_f c8 hq
      refine lv_goto (tgt := 3637) hx hb dL_law_422 (by decide) ?_
      obtain rfl := Option.some.inj hq
      refine W.widen (k := cells + 17) (n := slots + 3206) (by omega) (by omega) ?_
      exact kk _ _ _ _ (by omega) hI (lv_sub hl [2, 3, 4, 5, 6, 7] rfl)
    · replace hq := i_t c8 hq
      refine lv_aload_n hx hb dL_law_410 rfl (lv_at hl 5 rfl) ?_
      refine lv_iconst (v := (0 : Int32)) hx hb dL_law_411 (by decide) ?_
      obtain ⟨v9, ev9, hq⟩ := b_s hq
      refine fa_ll hx hb hI ev9 dL_law_412 ?_
      refine lv_iload hx hb dL_law_413 (lv_at hl 0 rfl) ?_
      refine lv_i2l (v := v5.1.toInt64) hx hb dL_law_415 rfl ?_
      refine lv_lcmpN hx hb dL_law_416 ?_
      refine lv_if_eq (tgt := 422) hx hb dL_law_417 (by decide) (fun c10 => ?_) (fun c10 => ?_)
      · replace hq := i_t c10 hq
        refine lv_goto (tgt := 3637) hx hb dL_law_422 (by decide) ?_
        obtain rfl := Option.some.inj hq
        refine W.widen (k := cells + 17) (n := slots + 3206) (by omega) (by omega) ?_
        exact kk _ _ _ _ (by omega) hI (lv_sub hl [2, 3, 4, 5, 6, 7] rfl)
      · replace hq := i_f c10 hq
        refine lv_iconst (v := (0 : Int32)) hx hb dL_law_420 (by decide) ?_
        cases hq
  · replace hq := i_f c7 hq
    refine lv_iconst (v := (0 : Int32)) hx hb dL_law_403 (by decide) ?_
    cases hq

set_option maxHeartbeats 4000000 in
set_option maxRecDepth 100000 in
theorem cs_2 {p : Program} {l : Launch} {e : Env} {s : State} {m : MethodId} {args : Array Value} {below : List Frame} {meth : Method} {c : Code} {V : Nat → Nat} {g : GH} {D : va_G} {cT : Nat → ClassId} (hl0 : l.stackTraces = false) (hx : p.tables.exec = Jvm.exec) (hb : c.code = cL_law) (hC : CallFix p m c cL_law 9 s args g_B RL) {Q : State → Prop} {f : GH} {n : Nat} (x0 x1 x2 x3 x4 : Nat) (x5 : Int32) {f1 : GH} (hq : p_case_2 V g f n x0 x1 x2 x3 x4 x5 = some f1) {H : Heap} {locs : List Loc} {cells slots : Nat} {ls : Array Slot} (hcap : cells + 17 ≤ 601024 ∧ slots + 3206 ≤ 7293034) (hI : g_at (g_A V) V g D cT f n s H locs) (hl : lv_has ls 9 [(0, .ref x0), (1, .ref x1), (2, .ref x2), (3, .ref x3), (4, .ref x4), (5, .int x5)])
    (kk : ∀ (H : Heap) (locs : List Loc) (ls : Array Slot) (n1 : Nat), n ≤ n1 → g_at (g_A V) V g D cT f1 n1 s H locs → lv_has ls 9 [(0, .ref x0), (1, .ref x1), (2, .ref x2), (3, .ref x3), (4, .ref x4), (5, .int x5)] → W p l e room_1 s m args below meth c H locs (cells + 17) (slots + 3206) Q (F0 m 3637 ls [])) : W p l e room_1 s m args below meth c H locs cells slots Q (F0 m 425 ls []) := by
  obtain ⟨_, _, hml, hown, hB⟩ := id hC
  unfold p_case_2 at hq
  refine lv_aload_n hx hb dL_law_425 rfl (lv_at hl 1 rfl) ?_
  obtain ⟨v1, ev1, hq⟩ := b_s hq
  refine gr_i (g_runV (As := []) (rest := []) (ci := 9) hC (c_X7_errorCode l V g D cT f n x1 v1 ev1) k_X7_errorCode m_313 rfl rfl ⟨Nat.le_of_ble_eq_true rfl, Nat.le_of_ble_eq_true rfl⟩ hI rfl rfl (h_me_eq ev1).1 rfl hl.1 rfl (Nat.le_of_ble_eq_true rfl) dL_law_426 ⟨(by have := hcap.1; show _ ≤ 601024; omega), (by have := hcap.2; show _ ≤ 7293034; omega)⟩) hI (fun H locs hI => ?_)
  refine lv_aload_n hx hb dL_law_429 rfl (lv_at hl 2 rfl) ?_
  obtain ⟨v2, ev2, hq⟩ := b_s hq
  refine gw_i (g_runV (As := []) (rest := [.int v1]) (ci := 10) hC (c_X8_errorCode l V g D cT f n x2 v2 ev2) k_X8_errorCode m_2070 rfl rfl ⟨Nat.le_of_ble_eq_true rfl, Nat.le_of_ble_eq_true rfl⟩ hI rfl rfl (h_me_eq ev2).1 rfl hl.1 rfl (Nat.le_of_ble_eq_true rfl) dL_law_430 ⟨(by have := hcap.1; show _ ≤ 601024; omega), (by have := hcap.2; show _ ≤ 7293034; omega)⟩) hI (fun H locs hI => ?_)
  refine lv_icmp_eq (tgt := 3637) hx hb dL_law_433 (by decide) (fun c3 => ?_) (fun c3 => ?_)
  · replace hq := i_t c3 hq
    obtain rfl := Option.some.inj hq
    refine W.widen (k := cells + 17) (n := slots + 3206) (by omega) (by omega) ?_
    exact kk _ _ _ _ (by omega) hI (lv_sub hl [0, 1, 2, 3, 4, 5] rfl)
  · replace hq := i_f c3 hq
    refine lv_iconst (v := (0 : Int32)) hx hb dL_law_436 (by decide) ?_
    cases hq

set_option maxHeartbeats 4000000 in
set_option maxRecDepth 100000 in
theorem cs_3 {p : Program} {l : Launch} {e : Env} {s : State} {m : MethodId} {args : Array Value} {below : List Frame} {meth : Method} {c : Code} {V : Nat → Nat} {g : GH} {D : va_G} {cT : Nat → ClassId} (hl0 : l.stackTraces = false) (hx : p.tables.exec = Jvm.exec) (hb : c.code = cL_law) (hC : CallFix p m c cL_law 9 s args g_B RL) {Q : State → Prop} {f : GH} {n : Nat} (x0 x1 x2 x3 x4 : Nat) (x5 : Int32) {f1 : GH} (hq : p_case_3 V g f n x0 x1 x2 x3 x4 x5 = some f1) {H : Heap} {locs : List Loc} {cells slots : Nat} {ls : Array Slot} (hcap : cells + 17 ≤ 601024 ∧ slots + 3206 ≤ 7293034) (hI : g_at (g_A V) V g D cT f n s H locs) (hl : lv_has ls 9 [(0, .ref x0), (1, .ref x1), (2, .ref x2), (3, .ref x3), (4, .ref x4), (5, .int x5)])
    (kk : ∀ (H : Heap) (locs : List Loc) (ls : Array Slot) (n1 : Nat), n ≤ n1 → g_at (g_A V) V g D cT f1 n1 s H locs → lv_has ls 9 [(0, .ref x0), (1, .ref x1), (2, .ref x2), (3, .ref x3), (4, .ref x4), (5, .int x5)] → W p l e room_1 s m args below meth c H locs (cells + 17) (slots + 3206) Q (F0 m 3637 ls [])) : W p l e room_1 s m args below meth c H locs cells slots Q (F0 m 438 ls []) := by
  obtain ⟨_, _, hml, hown, hB⟩ := id hC
  unfold p_case_3 at hq
  refine lv_aload_n hx hb dL_law_438 rfl (lv_at hl 1 rfl) ?_
  obtain ⟨v1, ev1, hq⟩ := b_s hq
  refine gr_i (g_runV (As := []) (rest := []) (ci := 9) hC (c_X7_errorOffset l V g D cT f n x1 v1 ev1) k_X7_errorOffset m_317 rfl rfl ⟨Nat.le_of_ble_eq_true rfl, Nat.le_of_ble_eq_true rfl⟩ hI rfl rfl (h_me_eq ev1).1 rfl hl.1 rfl (Nat.le_of_ble_eq_true rfl) dL_law_439 ⟨(by have := hcap.1; show _ ≤ 601024; omega), (by have := hcap.2; show _ ≤ 7293034; omega)⟩) hI (fun H locs hI => ?_)
  refine lv_aload_n hx hb dL_law_442 rfl (lv_at hl 2 rfl) ?_
  obtain ⟨v2, ev2, hq⟩ := b_s hq
  refine gw_i (g_runV (As := []) (rest := [.int v1]) (ci := 10) hC (c_X8_errorOffset l V g D cT f n x2 v2 ev2) k_X8_errorOffset m_2066 rfl rfl ⟨Nat.le_of_ble_eq_true rfl, Nat.le_of_ble_eq_true rfl⟩ hI rfl rfl (h_me_eq ev2).1 rfl hl.1 rfl (Nat.le_of_ble_eq_true rfl) dL_law_443 ⟨(by have := hcap.1; show _ ≤ 601024; omega), (by have := hcap.2; show _ ≤ 7293034; omega)⟩) hI (fun H locs hI => ?_)
  refine lv_icmp_eq (tgt := 3637) hx hb dL_law_446 (by decide) (fun c3 => ?_) (fun c3 => ?_)
  · replace hq := i_t c3 hq
    obtain rfl := Option.some.inj hq
    refine W.widen (k := cells + 17) (n := slots + 3206) (by omega) (by omega) ?_
    exact kk _ _ _ _ (by omega) hI (lv_sub hl [0, 1, 2, 3, 4, 5] rfl)
  · replace hq := i_f c3 hq
    refine lv_iconst (v := (0 : Int32)) hx hb dL_law_449 (by decide) ?_
    cases hq

set_option maxHeartbeats 4000000 in
set_option maxRecDepth 100000 in
theorem cs_4 {p : Program} {l : Launch} {e : Env} {s : State} {m : MethodId} {args : Array Value} {below : List Frame} {meth : Method} {c : Code} {V : Nat → Nat} {g : GH} {D : va_G} {cT : Nat → ClassId} (hl0 : l.stackTraces = false) (hx : p.tables.exec = Jvm.exec) (hb : c.code = cL_law) (hC : CallFix p m c cL_law 9 s args g_B RL) {Q : State → Prop} {f : GH} {n : Nat} (x0 x1 x2 x3 x4 : Nat) (x5 : Int32) {f1 : GH} (hq : p_case_4 V g f n x0 x1 x2 x3 x4 x5 = some f1) {H : Heap} {locs : List Loc} {cells slots : Nat} {ls : Array Slot} (hcap : cells + 17 ≤ 601024 ∧ slots + 3206 ≤ 7293034) (hI : g_at (g_A V) V g D cT f n s H locs) (hl : lv_has ls 9 [(0, .ref x0), (1, .ref x1), (2, .ref x2), (3, .ref x3), (4, .ref x4), (5, .int x5)])
    (kk : ∀ (H : Heap) (locs : List Loc) (ls : Array Slot) (n1 : Nat), n ≤ n1 → g_at (g_A V) V g D cT f1 n1 s H locs → lv_has ls 9 [(0, .ref x0), (1, .ref x1), (2, .ref x2), (3, .ref x3), (4, .ref x4), (5, .int x5)] → W p l e room_1 s m args below meth c H locs (cells + 17) (slots + 3206) Q (F0 m 3637 ls [])) : W p l e room_1 s m args below meth c H locs cells slots Q (F0 m 451 ls []) := by
  obtain ⟨_, _, hml, hown, hB⟩ := id hC
  unfold p_case_4 at hq
  refine lv_aload_n hx hb dL_law_451 rfl (lv_at hl 1 rfl) ?_
  obtain ⟨v1, ev1, hq⟩ := b_s hq
  refine gr_i (g_runV (As := []) (rest := []) (ci := 9) hC (c_X7_coastCount l V g D cT f n x1 v1 ev1) k_X7_coastCount m_321 rfl rfl ⟨Nat.le_of_ble_eq_true rfl, Nat.le_of_ble_eq_true rfl⟩ hI rfl rfl (h_me_eq ev1).1 rfl hl.1 rfl (Nat.le_of_ble_eq_true rfl) dL_law_452 ⟨(by have := hcap.1; show _ ≤ 601024; omega), (by have := hcap.2; show _ ≤ 7293034; omega)⟩) hI (fun H locs hI => ?_)
  refine lv_aload_n hx hb dL_law_455 rfl (lv_at hl 2 rfl) ?_
  obtain ⟨v2, ev2, hq⟩ := b_s hq
  refine gw_i (g_runV (As := []) (rest := [.int v1]) (ci := 10) hC (c_X8_coastCount l V g D cT f n x2 v2 ev2) k_X8_coastCount m_1614 rfl rfl ⟨Nat.le_of_ble_eq_true rfl, Nat.le_of_ble_eq_true rfl⟩ hI rfl rfl (h_me_eq ev2).1 rfl hl.1 rfl (Nat.le_of_ble_eq_true rfl) dL_law_456 ⟨(by have := hcap.1; show _ ≤ 601024; omega), (by have := hcap.2; show _ ≤ 7293034; omega)⟩) hI (fun H locs hI => ?_)
  refine lv_icmp_eq (tgt := 3637) hx hb dL_law_459 (by decide) (fun c3 => ?_) (fun c3 => ?_)
  · replace hq := i_t c3 hq
    obtain rfl := Option.some.inj hq
    refine W.widen (k := cells + 17) (n := slots + 3206) (by omega) (by omega) ?_
    exact kk _ _ _ _ (by omega) hI (lv_sub hl [0, 1, 2, 3, 4, 5] rfl)
  · replace hq := i_f c3 hq
    refine lv_iconst (v := (0 : Int32)) hx hb dL_law_462 (by decide) ?_
    cases hq

set_option maxHeartbeats 4000000 in
set_option maxRecDepth 100000 in
theorem cs_5 {p : Program} {l : Launch} {e : Env} {s : State} {m : MethodId} {args : Array Value} {below : List Frame} {meth : Method} {c : Code} {V : Nat → Nat} {g : GH} {D : va_G} {cT : Nat → ClassId} (hl0 : l.stackTraces = false) (hx : p.tables.exec = Jvm.exec) (hb : c.code = cL_law) (hC : CallFix p m c cL_law 9 s args g_B RL) {Q : State → Prop} {f : GH} {n : Nat} (x0 x1 x2 x3 x4 : Nat) (x5 : Int32) {f1 : GH} (hq : p_case_5 V g f n x0 x1 x2 x3 x4 x5 = some f1) {H : Heap} {locs : List Loc} {cells slots : Nat} {ls : Array Slot} (hcap : cells + 17 ≤ 601024 ∧ slots + 3206 ≤ 7293034) (hI : g_at (g_A V) V g D cT f n s H locs) (hl : lv_has ls 9 [(0, .ref x0), (1, .ref x1), (2, .ref x2), (3, .ref x3), (4, .ref x4), (5, .int x5)])
    (kk : ∀ (H : Heap) (locs : List Loc) (ls : Array Slot) (n1 : Nat), n ≤ n1 → g_at (g_A V) V g D cT f1 n1 s H locs → lv_has ls 9 [(0, .ref x0), (1, .ref x1), (2, .ref x2), (3, .ref x3), (4, .ref x4), (5, .int x5)] → W p l e room_1 s m args below meth c H locs (cells + 17) (slots + 3206) Q (F0 m 3637 ls [])) : W p l e room_1 s m args below meth c H locs cells slots Q (F0 m 464 ls []) := by
  obtain ⟨_, _, hml, hown, hB⟩ := id hC
  unfold p_case_5 at hq
  refine lv_aload_n hx hb dL_law_464 rfl (lv_at hl 1 rfl) ?_
  obtain ⟨v1, ev1, hq⟩ := b_s hq
  refine gr_i (g_runV (As := []) (rest := []) (ci := 9) hC (c_X7_usesKingMetric l V g D cT f n x1 v1 ev1) k_X7_usesKingMetric m_325 rfl rfl ⟨Nat.le_of_ble_eq_true rfl, Nat.le_of_ble_eq_true rfl⟩ hI rfl rfl (h_me_eq ev1).1 rfl hl.1 rfl (Nat.le_of_ble_eq_true rfl) dL_law_465 ⟨(by have := hcap.1; show _ ≤ 601024; omega), (by have := hcap.2; show _ ≤ 7293034; omega)⟩) hI (fun H locs hI => ?_)
  refine lv_aload_n hx hb dL_law_468 rfl (lv_at hl 2 rfl) ?_
  obtain ⟨v2, ev2, hq⟩ := b_s hq
  refine gw_i (g_runV (As := []) (rest := [.int v1]) (ci := 10) hC (c_X8_usesKingMetric l V g D cT f n x2 v2 ev2) k_X8_usesKingMetric m_1618 rfl rfl ⟨Nat.le_of_ble_eq_true rfl, Nat.le_of_ble_eq_true rfl⟩ hI rfl rfl (h_me_eq ev2).1 rfl hl.1 rfl (Nat.le_of_ble_eq_true rfl) dL_law_469 ⟨(by have := hcap.1; show _ ≤ 601024; omega), (by have := hcap.2; show _ ≤ 7293034; omega)⟩) hI (fun H locs hI => ?_)
  refine lv_icmp_eq (tgt := 3637) hx hb dL_law_472 (by decide) (fun c3 => ?_) (fun c3 => ?_)
  · replace hq := i_t c3 hq
    obtain rfl := Option.some.inj hq
    refine W.widen (k := cells + 17) (n := slots + 3206) (by omega) (by omega) ?_
    exact kk _ _ _ _ (by omega) hI (lv_sub hl [0, 1, 2, 3, 4, 5] rfl)
  · replace hq := i_f c3 hq
    refine lv_iconst (v := (0 : Int32)) hx hb dL_law_475 (by decide) ?_
    cases hq

set_option maxHeartbeats 4000000 in
set_option maxRecDepth 100000 in
theorem cs_6 {p : Program} {l : Launch} {e : Env} {s : State} {m : MethodId} {args : Array Value} {below : List Frame} {meth : Method} {c : Code} {V : Nat → Nat} {g : GH} {D : va_G} {cT : Nat → ClassId} (hl0 : l.stackTraces = false) (hx : p.tables.exec = Jvm.exec) (hb : c.code = cL_law) (hC : CallFix p m c cL_law 9 s args g_B RL) {Q : State → Prop} {f : GH} {n : Nat} (x0 x1 x2 x3 x4 : Nat) (x5 : Int32) {f1 : GH} (hq : p_case_6 V g f n x0 x1 x2 x3 x4 x5 = some f1) {H : Heap} {locs : List Loc} {cells slots : Nat} {ls : Array Slot} (hcap : cells + 17 ≤ 601024 ∧ slots + 3206 ≤ 7293034) (hI : g_at (g_A V) V g D cT f n s H locs) (hl : lv_has ls 9 [(0, .ref x0), (1, .ref x1), (2, .ref x2), (3, .ref x3), (4, .ref x4), (5, .int x5)])
    (kk : ∀ (H : Heap) (locs : List Loc) (ls : Array Slot) (n1 : Nat), n ≤ n1 → g_at (g_A V) V g D cT f1 n1 s H locs → lv_has ls 9 [(0, .ref x0), (1, .ref x1), (2, .ref x2), (3, .ref x3), (4, .ref x4), (5, .int x5)] → W p l e room_1 s m args below meth c H locs (cells + 17) (slots + 3206) Q (F0 m 3637 ls [])) : W p l e room_1 s m args below meth c H locs cells slots Q (F0 m 477 ls []) := by
  obtain ⟨_, _, hml, hown, hB⟩ := id hC
  unfold p_case_6 at hq
  refine lv_aload_n hx hb dL_law_477 rfl (lv_at hl 1 rfl) ?_
  refine lv_aload_n hx hb dL_law_478 rfl (lv_at hl 0 rfl) ?_
  refine lv_iload hx hb dL_law_479 (lv_at hl 5 rfl) ?_
  refine lv_iconst (v := (1 : Int32)) hx hb dL_law_481 (by decide) ?_
  refine lv_iadd hx hb dL_law_482 ?_
  obtain ⟨v1, ev1, hq⟩ := b_s hq
  refine fs_li hx hb hI ev1 dL_law_483 ?_
  refine lv_aload_n hx hb dL_law_484 rfl (lv_at hl 3 rfl) ?_
  obtain ⟨v2, ev2, hq⟩ := b_s hq
  refine gl_i (g_runSW (As := [.ref x1, .int v1, .ref x3]) (rest := []) hC (c_L_isIsland l hl0 V g D cT f n x1 v1 x3 v2 ev2) k_L_isIsland m_742 rfl rfl ⟨Nat.le_of_ble_eq_true rfl, Nat.le_of_ble_eq_true rfl⟩ hI rfl hl.1 rfl (Nat.le_of_ble_eq_true rfl) dL_law_485 ⟨(by have := hcap.1; show _ ≤ 601024; omega), (by have := hcap.2; show _ ≤ 7293034; omega)⟩) hI (fun H locs n3 hn3 hI => ?_)
  refine lv_istore (lv' := [(6, .int v2.1), (0, .ref x0), (1, .ref x1), (2, .ref x2), (3, .ref x3), (4, .ref x4), (5, .int x5)]) hx hb dL_law_488 hl (by decide) rfl (fun ls hl => ?_)
  refine lv_aload_n hx hb dL_law_490 rfl (lv_at hl 3 rfl) ?_
  refine lv_aload_n hx hb dL_law_491 rfl (lv_at hl 1 rfl) ?_
  refine lv_iload hx hb dL_law_492 (lv_at hl 6 rfl) ?_
  refine lv_iconst (v := (1 : Int32)) hx hb dL_law_494 (by decide) ?_
  refine lv_iadd hx hb dL_law_495 ?_
  obtain ⟨v4, ev4, hq⟩ := b_s hq
  refine fs_li hx hb hI ev4 dL_law_496 ?_
  obtain ⟨v5, ev5, hq⟩ := b_s hq
  refine gw_i (g_runV (As := [.int v4]) (rest := []) (ci := 10) hC (c_X8_isIsland l V g D cT v2.2 n3 x2 v4 v5 ev5) k_X8_isIsland m_1626 rfl rfl ⟨Nat.le_of_ble_eq_true rfl, Nat.le_of_ble_eq_true rfl⟩ hI rfl rfl (h_me_eq ev5).1 rfl hl.1 rfl (Nat.le_of_ble_eq_true rfl) dL_law_497 ⟨(by have := hcap.1; show _ ≤ 601024; omega), (by have := hcap.2; show _ ≤ 7293034; omega)⟩) hI (fun H locs hI => ?_)
  refine lv_istore (lv' := [(7, .int v5.1), (6, .int v2.1), (0, .ref x0), (1, .ref x1), (2, .ref x2), (3, .ref x3), (4, .ref x4), (5, .int x5)]) hx hb dL_law_500 hl (by decide) rfl (fun ls hl => ?_)
  refine lv_aload_n hx hb dL_law_502 rfl (lv_at hl 4 rfl) ?_
  obtain ⟨v6, ev6, hq⟩ := b_s hq
  refine gr_i (g_runV (As := []) (rest := []) (ci := 10) hC (c_X8_thrown l V g D cT v5.2 n3 x2 v6 ev6) k_X8_thrown m_1610 rfl rfl ⟨Nat.le_of_ble_eq_true rfl, Nat.le_of_ble_eq_true rfl⟩ hI rfl rfl (h_me_eq ev6).1 rfl hl.1 rfl (Nat.le_of_ble_eq_true rfl) dL_law_503 ⟨(by have := hcap.1; show _ ≤ 601024; omega), (by have := hcap.2; show _ ≤ 7293034; omega)⟩) hI (fun H locs hI => ?_)
  refine lv_iload hx hb dL_law_506 (lv_at hl 1 rfl) ?_
  refine lv_icmp_eq (tgt := 513) hx hb dL_law_508 (by decide) (fun c7 => ?_) (fun c7 => ?_)
  · replace hq := i_t c7 hq
    refine lv_iload hx hb dL_law_513 (lv_at hl 1 rfl) ?_
    refine lv_if_ne (tgt := 537) hx hb dL_law_515 (by decide) (fun c8 => ?_) (fun c8 => ?_)
    · replace hq := i_f c8 hq
      refine lv_goto (tgt := 3637) hx hb dL_law_537 (by decide) ?_
      obtain rfl := Option.some.inj hq
      refine W.widen (k := cells + 17) (n := slots + 3206) (by omega) (by omega) ?_
      exact kk _ _ _ _ (by omega) hI (lv_sub hl [2, 3, 4, 5, 6, 7] rfl)
    · replace hq := i_t c8 hq
      refine lv_aload_n hx hb dL_law_518 rfl (lv_at hl 5 rfl) ?_
      refine lv_iconst (v := (0 : Int32)) hx hb dL_law_519 (by decide) ?_
      obtain ⟨v9, ev9, hq⟩ := b_s hq
      refine fa_ll hx hb hI ev9 dL_law_520 ?_
      refine lv_iload hx hb dL_law_521 (lv_at hl 0 rfl) ?_
      refine lv_if_eq (tgt := 530) hx hb dL_law_523 (by decide) (fun c10 => ?_) (fun c10 => ?_)
      · replace hq := i_t c10 hq
        refine lv_lconst (v := 0) hx hb dL_law_530 rfl ?_
        refine lv_lcmpN hx hb dL_law_531 ?_
        refine lv_if_eq (tgt := 537) hx hb dL_law_532 (by decide) (fun c11 => ?_) (fun c11 => ?_)
        · replace hq := i_t c11 hq
          refine lv_goto (tgt := 3637) hx hb dL_law_537 (by decide) ?_
          obtain rfl := Option.some.inj hq
          refine W.widen (k := cells + 17) (n := slots + 3206) (by omega) (by omega) ?_
          exact kk _ _ _ _ (by omega) hI (lv_sub hl [2, 3, 4, 5, 6, 7] rfl)
        · replace hq := i_f c11 hq
          refine lv_iconst (v := (0 : Int32)) hx hb dL_law_535 (by decide) ?_
          cases hq
      · replace hq := i_f c10 hq
        refine lv_lconst (v := 1) hx hb dL_law_526 rfl ?_
        refine lv_goto (tgt := 531) hx hb dL_law_527 (by decide) ?_
        refine lv_lcmpN hx hb dL_law_531 ?_
        refine lv_if_eq (tgt := 537) hx hb dL_law_532 (by decide) (fun c12 => ?_) (fun c12 => ?_)
        · replace hq := i_t c12 hq
          refine lv_goto (tgt := 3637) hx hb dL_law_537 (by decide) ?_
          obtain rfl := Option.some.inj hq
          refine W.widen (k := cells + 17) (n := slots + 3206) (by omega) (by omega) ?_
          exact kk _ _ _ _ (by omega) hI (lv_sub hl [2, 3, 4, 5, 6, 7] rfl)
        · replace hq := i_f c12 hq
          refine lv_iconst (v := (0 : Int32)) hx hb dL_law_535 (by decide) ?_
          cases hq
  · replace hq := i_f c7 hq
    refine lv_iconst (v := (0 : Int32)) hx hb dL_law_511 (by decide) ?_
    cases hq

set_option maxHeartbeats 4000000 in
set_option maxRecDepth 100000 in
theorem cs_7 {p : Program} {l : Launch} {e : Env} {s : State} {m : MethodId} {args : Array Value} {below : List Frame} {meth : Method} {c : Code} {V : Nat → Nat} {g : GH} {D : va_G} {cT : Nat → ClassId} (hl0 : l.stackTraces = false) (hx : p.tables.exec = Jvm.exec) (hb : c.code = cL_law) (hC : CallFix p m c cL_law 9 s args g_B RL) {Q : State → Prop} {f : GH} {n : Nat} (x0 x1 x2 x3 x4 : Nat) (x5 : Int32) {f1 : GH} (hq : p_case_7 V g f n x0 x1 x2 x3 x4 x5 = some f1) {H : Heap} {locs : List Loc} {cells slots : Nat} {ls : Array Slot} (hcap : cells + 17 ≤ 601024 ∧ slots + 3206 ≤ 7293034) (hI : g_at (g_A V) V g D cT f n s H locs) (hl : lv_has ls 9 [(0, .ref x0), (1, .ref x1), (2, .ref x2), (3, .ref x3), (4, .ref x4), (5, .int x5)])
    (kk : ∀ (H : Heap) (locs : List Loc) (ls : Array Slot) (n1 : Nat), n ≤ n1 → g_at (g_A V) V g D cT f1 n1 s H locs → lv_has ls 9 [(0, .ref x0), (1, .ref x1), (2, .ref x2), (3, .ref x3), (4, .ref x4), (5, .int x5)] → W p l e room_1 s m args below meth c H locs (cells + 17) (slots + 3206) Q (F0 m 3637 ls [])) : W p l e room_1 s m args below meth c H locs cells slots Q (F0 m 540 ls []) := by
  obtain ⟨_, _, hml, hown, hB⟩ := id hC
  unfold p_case_7 at hq
  refine lv_aload_n hx hb dL_law_540 rfl (lv_at hl 1 rfl) ?_
  refine lv_aload_n hx hb dL_law_541 rfl (lv_at hl 0 rfl) ?_
  refine lv_iload hx hb dL_law_542 (lv_at hl 5 rfl) ?_
  refine lv_iconst (v := (1 : Int32)) hx hb dL_law_544 (by decide) ?_
  refine lv_iadd hx hb dL_law_545 ?_
  obtain ⟨v1, ev1, hq⟩ := b_s hq
  refine fs_li hx hb hI ev1 dL_law_546 ?_
  refine lv_aload_n hx hb dL_law_547 rfl (lv_at hl 3 rfl) ?_
  obtain ⟨v2, ev2, hq⟩ := b_s hq
  refine gl_i (g_runSW (As := [.ref x1, .int v1, .ref x3]) (rest := []) hC (c_L_pointCount l hl0 V g D cT f n x1 v1 x3 v2 ev2) k_L_pointCount m_756 rfl rfl ⟨Nat.le_of_ble_eq_true rfl, Nat.le_of_ble_eq_true rfl⟩ hI rfl hl.1 rfl (Nat.le_of_ble_eq_true rfl) dL_law_548 ⟨(by have := hcap.1; show _ ≤ 601024; omega), (by have := hcap.2; show _ ≤ 7293034; omega)⟩) hI (fun H locs n3 hn3 hI => ?_)
  refine lv_istore (lv' := [(6, .int v2.1), (0, .ref x0), (1, .ref x1), (2, .ref x2), (3, .ref x3), (4, .ref x4), (5, .int x5)]) hx hb dL_law_551 hl (by decide) rfl (fun ls hl => ?_)
  refine lv_aload_n hx hb dL_law_553 rfl (lv_at hl 3 rfl) ?_
  refine lv_aload_n hx hb dL_law_554 rfl (lv_at hl 1 rfl) ?_
  refine lv_iload hx hb dL_law_555 (lv_at hl 6 rfl) ?_
  refine lv_iconst (v := (1 : Int32)) hx hb dL_law_557 (by decide) ?_
  refine lv_iadd hx hb dL_law_558 ?_
  obtain ⟨v4, ev4, hq⟩ := b_s hq
  refine fs_li hx hb hI ev4 dL_law_559 ?_
  obtain ⟨v5, ev5, hq⟩ := b_s hq
  refine gw_i (g_runV (As := [.int v4]) (rest := []) (ci := 10) hC (c_X8_pointCount l V g D cT v2.2 n3 x2 v4 v5 ev5) k_X8_pointCount m_1645 rfl rfl ⟨Nat.le_of_ble_eq_true rfl, Nat.le_of_ble_eq_true rfl⟩ hI rfl rfl (h_me_eq ev5).1 rfl hl.1 rfl (Nat.le_of_ble_eq_true rfl) dL_law_560 ⟨(by have := hcap.1; show _ ≤ 601024; omega), (by have := hcap.2; show _ ≤ 7293034; omega)⟩) hI (fun H locs hI => ?_)
  refine lv_istore (lv' := [(7, .int v5.1), (6, .int v2.1), (0, .ref x0), (1, .ref x1), (2, .ref x2), (3, .ref x3), (4, .ref x4), (5, .int x5)]) hx hb dL_law_563 hl (by decide) rfl (fun ls hl => ?_)
  refine lv_aload_n hx hb dL_law_565 rfl (lv_at hl 4 rfl) ?_
  obtain ⟨v6, ev6, hq⟩ := b_s hq
  refine gr_i (g_runV (As := []) (rest := []) (ci := 10) hC (c_X8_thrown l V g D cT v5.2 n3 x2 v6 ev6) k_X8_thrown m_1610 rfl rfl ⟨Nat.le_of_ble_eq_true rfl, Nat.le_of_ble_eq_true rfl⟩ hI rfl rfl (h_me_eq ev6).1 rfl hl.1 rfl (Nat.le_of_ble_eq_true rfl) dL_law_566 ⟨(by have := hcap.1; show _ ≤ 601024; omega), (by have := hcap.2; show _ ≤ 7293034; omega)⟩) hI (fun H locs hI => ?_)
  refine lv_iload hx hb dL_law_569 (lv_at hl 1 rfl) ?_
  refine lv_icmp_eq (tgt := 576) hx hb dL_law_571 (by decide) (fun c7 => ?_) (fun c7 => ?_)
  · replace hq := i_t c7 hq
    refine lv_iload hx hb dL_law_576 (lv_at hl 1 rfl) ?_
    refine lv_if_ne (tgt := 593) hx hb dL_law_578 (by decide) (fun c8 => ?_) (fun c8 => ?_)
    · replace hq := i_f c8 hq
      refine lv_goto (tgt := 3637) hx hb dL_law_593 (by decide) ?_
      obtain rfl := Option.some.inj hq
      refine W.widen (k := cells + 17) (n := slots + 3206) (by omega) (by omega) ?_
      exact kk _ _ _ _ (by omega) hI (lv_sub hl [2, 3, 4, 5, 6, 7] rfl)
    · replace hq := i_t c8 hq
      refine lv_aload_n hx hb dL_law_581 rfl (lv_at hl 5 rfl) ?_
      refine lv_iconst (v := (0 : Int32)) hx hb dL_law_582 (by decide) ?_
      obtain ⟨v9, ev9, hq⟩ := b_s hq
      refine fa_ll hx hb hI ev9 dL_law_583 ?_
      refine lv_iload hx hb dL_law_584 (lv_at hl 0 rfl) ?_
      refine lv_i2l (v := v5.1.toInt64) hx hb dL_law_586 rfl ?_
      refine lv_lcmpN hx hb dL_law_587 ?_
      refine lv_if_eq (tgt := 593) hx hb dL_law_588 (by decide) (fun c10 => ?_) (fun c10 => ?_)
      · replace hq := i_t c10 hq
        refine lv_goto (tgt := 3637) hx hb dL_law_593 (by decide) ?_
        obtain rfl := Option.some.inj hq
        refine W.widen (k := cells + 17) (n := slots + 3206) (by omega) (by omega) ?_
        exact kk _ _ _ _ (by omega) hI (lv_sub hl [2, 3, 4, 5, 6, 7] rfl)
      · replace hq := i_f c10 hq
        refine lv_iconst (v := (0 : Int32)) hx hb dL_law_591 (by decide) ?_
        cases hq
  · replace hq := i_f c7 hq
    refine lv_iconst (v := (0 : Int32)) hx hb dL_law_574 (by decide) ?_
    cases hq

set_option maxHeartbeats 4000000 in
set_option maxRecDepth 100000 in
theorem cs_8 {p : Program} {l : Launch} {e : Env} {s : State} {m : MethodId} {args : Array Value} {below : List Frame} {meth : Method} {c : Code} {V : Nat → Nat} {g : GH} {D : va_G} {cT : Nat → ClassId} (hl0 : l.stackTraces = false) (hx : p.tables.exec = Jvm.exec) (hb : c.code = cL_law) (hC : CallFix p m c cL_law 9 s args g_B RL) {Q : State → Prop} {f : GH} {n : Nat} (x0 x1 x2 x3 x4 : Nat) (x5 : Int32) {f1 : GH} (hq : p_case_8 V g f n x0 x1 x2 x3 x4 x5 = some f1) {H : Heap} {locs : List Loc} {cells slots : Nat} {ls : Array Slot} (hcap : cells + 17 ≤ 601024 ∧ slots + 3206 ≤ 7293034) (hI : g_at (g_A V) V g D cT f n s H locs) (hl : lv_has ls 9 [(0, .ref x0), (1, .ref x1), (2, .ref x2), (3, .ref x3), (4, .ref x4), (5, .int x5)])
    (kk : ∀ (H : Heap) (locs : List Loc) (ls : Array Slot) (n1 : Nat), n ≤ n1 → g_at (g_A V) V g D cT f1 n1 s H locs → lv_has ls 9 [(0, .ref x0), (1, .ref x1), (2, .ref x2), (3, .ref x3), (4, .ref x4), (5, .int x5)] → W p l e room_1 s m args below meth c H locs (cells + 17) (slots + 3206) Q (F0 m 3637 ls [])) : W p l e room_1 s m args below meth c H locs cells slots Q (F0 m 596 ls []) := by
  obtain ⟨_, _, hml, hown, hB⟩ := id hC
  unfold p_case_8 at hq
  refine lv_aload_n hx hb dL_law_596 rfl (lv_at hl 1 rfl) ?_
  refine lv_aload_n hx hb dL_law_597 rfl (lv_at hl 0 rfl) ?_
  refine lv_iload hx hb dL_law_598 (lv_at hl 5 rfl) ?_
  refine lv_iconst (v := (1 : Int32)) hx hb dL_law_600 (by decide) ?_
  refine lv_iadd hx hb dL_law_601 ?_
  obtain ⟨v1, ev1, hq⟩ := b_s hq
  refine fs_li hx hb hI ev1 dL_law_602 ?_
  refine lv_aload_n hx hb dL_law_603 rfl (lv_at hl 0 rfl) ?_
  refine lv_iload hx hb dL_law_604 (lv_at hl 5 rfl) ?_
  refine lv_iconst (v := (2 : Int32)) hx hb dL_law_606 (by decide) ?_
  refine lv_iadd hx hb dL_law_607 ?_
  obtain ⟨v2, ev2, hq⟩ := b_s hq
  refine fs_li hx hb hI ev2 dL_law_608 ?_
  refine lv_aload_n hx hb dL_law_609 rfl (lv_at hl 3 rfl) ?_
  obtain ⟨v3, ev3, hq⟩ := b_s hq
  refine gl_i (g_runSW (As := [.ref x1, .int v1, .int v2, .ref x3]) (rest := []) hC (c_L_pointX l hl0 V g D cT f n x1 v1 v2 x3 v3 ev3) k_L_pointX m_763 rfl rfl ⟨Nat.le_of_ble_eq_true rfl, Nat.le_of_ble_eq_true rfl⟩ hI rfl hl.1 rfl (Nat.le_of_ble_eq_true rfl) dL_law_610 ⟨(by have := hcap.1; show _ ≤ 601024; omega), (by have := hcap.2; show _ ≤ 7293034; omega)⟩) hI (fun H locs n4 hn4 hI => ?_)
  refine lv_istore (lv' := [(6, .int v3.1), (0, .ref x0), (1, .ref x1), (2, .ref x2), (3, .ref x3), (4, .ref x4), (5, .int x5)]) hx hb dL_law_613 hl (by decide) rfl (fun ls hl => ?_)
  refine lv_aload_n hx hb dL_law_615 rfl (lv_at hl 3 rfl) ?_
  refine lv_aload_n hx hb dL_law_616 rfl (lv_at hl 1 rfl) ?_
  refine lv_iload hx hb dL_law_617 (lv_at hl 6 rfl) ?_
  refine lv_iconst (v := (1 : Int32)) hx hb dL_law_619 (by decide) ?_
  refine lv_iadd hx hb dL_law_620 ?_
  obtain ⟨v5, ev5, hq⟩ := b_s hq
  refine fs_li hx hb hI ev5 dL_law_621 ?_
  refine lv_aload_n hx hb dL_law_622 rfl (lv_at hl 1 rfl) ?_
  refine lv_iload hx hb dL_law_623 (lv_at hl 6 rfl) ?_
  refine lv_iconst (v := (2 : Int32)) hx hb dL_law_625 (by decide) ?_
  refine lv_iadd hx hb dL_law_626 ?_
  obtain ⟨v6, ev6, hq⟩ := b_s hq
  refine fs_li hx hb hI ev6 dL_law_627 ?_
  obtain ⟨v7, ev7, hq⟩ := b_s hq
  refine gw_i (g_runV (As := [.int v5, .int v6]) (rest := []) (ci := 10) hC (c_X8_pointX l V g D cT v3.2 n4 x2 v5 v6 v7 ev7) k_X8_pointX m_1649 rfl rfl ⟨Nat.le_of_ble_eq_true rfl, Nat.le_of_ble_eq_true rfl⟩ hI rfl rfl (h_me_eq ev7).1 rfl hl.1 rfl (Nat.le_of_ble_eq_true rfl) dL_law_628 ⟨(by have := hcap.1; show _ ≤ 601024; omega), (by have := hcap.2; show _ ≤ 7293034; omega)⟩) hI (fun H locs hI => ?_)
  refine lv_istore (lv' := [(7, .int v7.1), (6, .int v3.1), (0, .ref x0), (1, .ref x1), (2, .ref x2), (3, .ref x3), (4, .ref x4), (5, .int x5)]) hx hb dL_law_631 hl (by decide) rfl (fun ls hl => ?_)
  refine lv_aload_n hx hb dL_law_633 rfl (lv_at hl 4 rfl) ?_
  obtain ⟨v8, ev8, hq⟩ := b_s hq
  refine gr_i (g_runV (As := []) (rest := []) (ci := 10) hC (c_X8_thrown l V g D cT v7.2 n4 x2 v8 ev8) k_X8_thrown m_1610 rfl rfl ⟨Nat.le_of_ble_eq_true rfl, Nat.le_of_ble_eq_true rfl⟩ hI rfl rfl (h_me_eq ev8).1 rfl hl.1 rfl (Nat.le_of_ble_eq_true rfl) dL_law_634 ⟨(by have := hcap.1; show _ ≤ 601024; omega), (by have := hcap.2; show _ ≤ 7293034; omega)⟩) hI (fun H locs hI => ?_)
  refine lv_iload hx hb dL_law_637 (lv_at hl 1 rfl) ?_
  refine lv_icmp_eq (tgt := 644) hx hb dL_law_639 (by decide) (fun c9 => ?_) (fun c9 => ?_)
  · replace hq := i_t c9 hq
    refine lv_iload hx hb dL_law_644 (lv_at hl 1 rfl) ?_
    refine lv_if_ne (tgt := 661) hx hb dL_law_646 (by decide) (fun c10 => ?_) (fun c10 => ?_)
    · replace hq := i_f c10 hq
      refine lv_goto (tgt := 3637) hx hb dL_law_661 (by decide) ?_
      obtain rfl := Option.some.inj hq
      refine W.widen (k := cells + 17) (n := slots + 3206) (by omega) (by omega) ?_
      exact kk _ _ _ _ (by omega) hI (lv_sub hl [2, 3, 4, 5, 6, 7] rfl)
    · replace hq := i_t c10 hq
      refine lv_aload_n hx hb dL_law_649 rfl (lv_at hl 5 rfl) ?_
      refine lv_iconst (v := (0 : Int32)) hx hb dL_law_650 (by decide) ?_
      obtain ⟨v11, ev11, hq⟩ := b_s hq
      refine fa_ll hx hb hI ev11 dL_law_651 ?_
      refine lv_iload hx hb dL_law_652 (lv_at hl 0 rfl) ?_
      refine lv_i2l (v := v7.1.toInt64) hx hb dL_law_654 rfl ?_
      refine lv_lcmpN hx hb dL_law_655 ?_
      refine lv_if_eq (tgt := 661) hx hb dL_law_656 (by decide) (fun c12 => ?_) (fun c12 => ?_)
      · replace hq := i_t c12 hq
        refine lv_goto (tgt := 3637) hx hb dL_law_661 (by decide) ?_
        obtain rfl := Option.some.inj hq
        refine W.widen (k := cells + 17) (n := slots + 3206) (by omega) (by omega) ?_
        exact kk _ _ _ _ (by omega) hI (lv_sub hl [2, 3, 4, 5, 6, 7] rfl)
      · replace hq := i_f c12 hq
        refine lv_iconst (v := (0 : Int32)) hx hb dL_law_659 (by decide) ?_
        cases hq
  · replace hq := i_f c9 hq
    refine lv_iconst (v := (0 : Int32)) hx hb dL_law_642 (by decide) ?_
    cases hq

set_option maxHeartbeats 4000000 in
set_option maxRecDepth 100000 in
theorem cs_9 {p : Program} {l : Launch} {e : Env} {s : State} {m : MethodId} {args : Array Value} {below : List Frame} {meth : Method} {c : Code} {V : Nat → Nat} {g : GH} {D : va_G} {cT : Nat → ClassId} (hl0 : l.stackTraces = false) (hx : p.tables.exec = Jvm.exec) (hb : c.code = cL_law) (hC : CallFix p m c cL_law 9 s args g_B RL) {Q : State → Prop} {f : GH} {n : Nat} (x0 x1 x2 x3 x4 : Nat) (x5 : Int32) {f1 : GH} (hq : p_case_9 V g f n x0 x1 x2 x3 x4 x5 = some f1) {H : Heap} {locs : List Loc} {cells slots : Nat} {ls : Array Slot} (hcap : cells + 17 ≤ 601024 ∧ slots + 3206 ≤ 7293034) (hI : g_at (g_A V) V g D cT f n s H locs) (hl : lv_has ls 9 [(0, .ref x0), (1, .ref x1), (2, .ref x2), (3, .ref x3), (4, .ref x4), (5, .int x5)])
    (kk : ∀ (H : Heap) (locs : List Loc) (ls : Array Slot) (n1 : Nat), n ≤ n1 → g_at (g_A V) V g D cT f1 n1 s H locs → lv_has ls 9 [(0, .ref x0), (1, .ref x1), (2, .ref x2), (3, .ref x3), (4, .ref x4), (5, .int x5)] → W p l e room_1 s m args below meth c H locs (cells + 17) (slots + 3206) Q (F0 m 3637 ls [])) : W p l e room_1 s m args below meth c H locs cells slots Q (F0 m 664 ls []) := by
  obtain ⟨_, _, hml, hown, hB⟩ := id hC
  unfold p_case_9 at hq
  refine lv_aload_n hx hb dL_law_664 rfl (lv_at hl 1 rfl) ?_
  refine lv_aload_n hx hb dL_law_665 rfl (lv_at hl 0 rfl) ?_
  refine lv_iload hx hb dL_law_666 (lv_at hl 5 rfl) ?_
  refine lv_iconst (v := (1 : Int32)) hx hb dL_law_668 (by decide) ?_
  refine lv_iadd hx hb dL_law_669 ?_
  obtain ⟨v1, ev1, hq⟩ := b_s hq
  refine fs_li hx hb hI ev1 dL_law_670 ?_
  refine lv_aload_n hx hb dL_law_671 rfl (lv_at hl 0 rfl) ?_
  refine lv_iload hx hb dL_law_672 (lv_at hl 5 rfl) ?_
  refine lv_iconst (v := (2 : Int32)) hx hb dL_law_674 (by decide) ?_
  refine lv_iadd hx hb dL_law_675 ?_
  obtain ⟨v2, ev2, hq⟩ := b_s hq
  refine fs_li hx hb hI ev2 dL_law_676 ?_
  refine lv_aload_n hx hb dL_law_677 rfl (lv_at hl 3 rfl) ?_
  obtain ⟨v3, ev3, hq⟩ := b_s hq
  refine gl_i (g_runSW (As := [.ref x1, .int v1, .int v2, .ref x3]) (rest := []) hC (c_L_pointY l hl0 V g D cT f n x1 v1 v2 x3 v3 ev3) k_L_pointY m_775 rfl rfl ⟨Nat.le_of_ble_eq_true rfl, Nat.le_of_ble_eq_true rfl⟩ hI rfl hl.1 rfl (Nat.le_of_ble_eq_true rfl) dL_law_678 ⟨(by have := hcap.1; show _ ≤ 601024; omega), (by have := hcap.2; show _ ≤ 7293034; omega)⟩) hI (fun H locs n4 hn4 hI => ?_)
  refine lv_istore (lv' := [(6, .int v3.1), (0, .ref x0), (1, .ref x1), (2, .ref x2), (3, .ref x3), (4, .ref x4), (5, .int x5)]) hx hb dL_law_681 hl (by decide) rfl (fun ls hl => ?_)
  refine lv_aload_n hx hb dL_law_683 rfl (lv_at hl 3 rfl) ?_
  refine lv_aload_n hx hb dL_law_684 rfl (lv_at hl 1 rfl) ?_
  refine lv_iload hx hb dL_law_685 (lv_at hl 6 rfl) ?_
  refine lv_iconst (v := (1 : Int32)) hx hb dL_law_687 (by decide) ?_
  refine lv_iadd hx hb dL_law_688 ?_
  obtain ⟨v5, ev5, hq⟩ := b_s hq
  refine fs_li hx hb hI ev5 dL_law_689 ?_
  refine lv_aload_n hx hb dL_law_690 rfl (lv_at hl 1 rfl) ?_
  refine lv_iload hx hb dL_law_691 (lv_at hl 6 rfl) ?_
  refine lv_iconst (v := (2 : Int32)) hx hb dL_law_693 (by decide) ?_
  refine lv_iadd hx hb dL_law_694 ?_
  obtain ⟨v6, ev6, hq⟩ := b_s hq
  refine fs_li hx hb hI ev6 dL_law_695 ?_
  obtain ⟨v7, ev7, hq⟩ := b_s hq
  refine gw_i (g_runV (As := [.int v5, .int v6]) (rest := []) (ci := 10) hC (c_X8_pointY l V g D cT v3.2 n4 x2 v5 v6 v7 ev7) k_X8_pointY m_1661 rfl rfl ⟨Nat.le_of_ble_eq_true rfl, Nat.le_of_ble_eq_true rfl⟩ hI rfl rfl (h_me_eq ev7).1 rfl hl.1 rfl (Nat.le_of_ble_eq_true rfl) dL_law_696 ⟨(by have := hcap.1; show _ ≤ 601024; omega), (by have := hcap.2; show _ ≤ 7293034; omega)⟩) hI (fun H locs hI => ?_)
  refine lv_istore (lv' := [(7, .int v7.1), (6, .int v3.1), (0, .ref x0), (1, .ref x1), (2, .ref x2), (3, .ref x3), (4, .ref x4), (5, .int x5)]) hx hb dL_law_699 hl (by decide) rfl (fun ls hl => ?_)
  refine lv_aload_n hx hb dL_law_701 rfl (lv_at hl 4 rfl) ?_
  obtain ⟨v8, ev8, hq⟩ := b_s hq
  refine gr_i (g_runV (As := []) (rest := []) (ci := 10) hC (c_X8_thrown l V g D cT v7.2 n4 x2 v8 ev8) k_X8_thrown m_1610 rfl rfl ⟨Nat.le_of_ble_eq_true rfl, Nat.le_of_ble_eq_true rfl⟩ hI rfl rfl (h_me_eq ev8).1 rfl hl.1 rfl (Nat.le_of_ble_eq_true rfl) dL_law_702 ⟨(by have := hcap.1; show _ ≤ 601024; omega), (by have := hcap.2; show _ ≤ 7293034; omega)⟩) hI (fun H locs hI => ?_)
  refine lv_iload hx hb dL_law_705 (lv_at hl 1 rfl) ?_
  refine lv_icmp_eq (tgt := 712) hx hb dL_law_707 (by decide) (fun c9 => ?_) (fun c9 => ?_)
  · replace hq := i_t c9 hq
    refine lv_iload hx hb dL_law_712 (lv_at hl 1 rfl) ?_
    refine lv_if_ne (tgt := 729) hx hb dL_law_714 (by decide) (fun c10 => ?_) (fun c10 => ?_)
    · replace hq := i_f c10 hq
      refine lv_goto (tgt := 3637) hx hb dL_law_729 (by decide) ?_
      obtain rfl := Option.some.inj hq
      refine W.widen (k := cells + 17) (n := slots + 3206) (by omega) (by omega) ?_
      exact kk _ _ _ _ (by omega) hI (lv_sub hl [2, 3, 4, 5, 6, 7] rfl)
    · replace hq := i_t c10 hq
      refine lv_aload_n hx hb dL_law_717 rfl (lv_at hl 5 rfl) ?_
      refine lv_iconst (v := (0 : Int32)) hx hb dL_law_718 (by decide) ?_
      obtain ⟨v11, ev11, hq⟩ := b_s hq
      refine fa_ll hx hb hI ev11 dL_law_719 ?_
      refine lv_iload hx hb dL_law_720 (lv_at hl 0 rfl) ?_
      refine lv_i2l (v := v7.1.toInt64) hx hb dL_law_722 rfl ?_
      refine lv_lcmpN hx hb dL_law_723 ?_
      refine lv_if_eq (tgt := 729) hx hb dL_law_724 (by decide) (fun c12 => ?_) (fun c12 => ?_)
      · replace hq := i_t c12 hq
        refine lv_goto (tgt := 3637) hx hb dL_law_729 (by decide) ?_
        obtain rfl := Option.some.inj hq
        refine W.widen (k := cells + 17) (n := slots + 3206) (by omega) (by omega) ?_
        exact kk _ _ _ _ (by omega) hI (lv_sub hl [2, 3, 4, 5, 6, 7] rfl)
      · replace hq := i_f c12 hq
        refine lv_iconst (v := (0 : Int32)) hx hb dL_law_727 (by decide) ?_
        cases hq
  · replace hq := i_f c9 hq
    refine lv_iconst (v := (0 : Int32)) hx hb dL_law_710 (by decide) ?_
    cases hq

set_option maxHeartbeats 4000000 in
set_option maxRecDepth 100000 in
theorem cs_10 {p : Program} {l : Launch} {e : Env} {s : State} {m : MethodId} {args : Array Value} {below : List Frame} {meth : Method} {c : Code} {V : Nat → Nat} {g : GH} {D : va_G} {cT : Nat → ClassId} (hl0 : l.stackTraces = false) (hx : p.tables.exec = Jvm.exec) (hb : c.code = cL_law) (hC : CallFix p m c cL_law 9 s args g_B RL) {Q : State → Prop} {f : GH} {n : Nat} (x0 x1 x2 x3 x4 : Nat) (x5 : Int32) {f1 : GH} (hq : p_case_10 V g f n x0 x1 x2 x3 x4 x5 = some f1) {H : Heap} {locs : List Loc} {cells slots : Nat} {ls : Array Slot} (hcap : cells + 17 ≤ 601024 ∧ slots + 3206 ≤ 7293034) (hI : g_at (g_A V) V g D cT f n s H locs) (hl : lv_has ls 9 [(0, .ref x0), (1, .ref x1), (2, .ref x2), (3, .ref x3), (4, .ref x4), (5, .int x5)])
    (kk : ∀ (H : Heap) (locs : List Loc) (ls : Array Slot) (n1 : Nat), n ≤ n1 → g_at (g_A V) V g D cT f1 n1 s H locs → lv_has ls 9 [(0, .ref x0), (1, .ref x1), (2, .ref x2), (3, .ref x3), (4, .ref x4), (5, .int x5)] → W p l e room_1 s m args below meth c H locs (cells + 17) (slots + 3206) Q (F0 m 3637 ls [])) : W p l e room_1 s m args below meth c H locs cells slots Q (F0 m 732 ls []) := by
  obtain ⟨_, _, hml, hown, hB⟩ := id hC
  unfold p_case_10 at hq
  refine lv_aload_n hx hb dL_law_732 rfl (lv_at hl 1 rfl) ?_
  refine lv_aload_n hx hb dL_law_733 rfl (lv_at hl 0 rfl) ?_
  refine lv_iload hx hb dL_law_734 (lv_at hl 5 rfl) ?_
  refine lv_iconst (v := (1 : Int32)) hx hb dL_law_736 (by decide) ?_
  refine lv_iadd hx hb dL_law_737 ?_
  obtain ⟨v1, ev1, hq⟩ := b_s hq
  refine fs_li hx hb hI ev1 dL_law_738 ?_
  refine lv_aload_n hx hb dL_law_739 rfl (lv_at hl 0 rfl) ?_
  refine lv_iload hx hb dL_law_740 (lv_at hl 5 rfl) ?_
  refine lv_iconst (v := (2 : Int32)) hx hb dL_law_742 (by decide) ?_
  refine lv_iadd hx hb dL_law_743 ?_
  obtain ⟨v2, ev2, hq⟩ := b_s hq
  refine fs_li hx hb hI ev2 dL_law_744 ?_
  refine lv_aload_n hx hb dL_law_745 rfl (lv_at hl 0 rfl) ?_
  refine lv_iload hx hb dL_law_746 (lv_at hl 5 rfl) ?_
  refine lv_iconst (v := (3 : Int32)) hx hb dL_law_748 (by decide) ?_
  refine lv_iadd hx hb dL_law_749 ?_
  obtain ⟨v3, ev3, hq⟩ := b_s hq
  refine fs_li hx hb hI ev3 dL_law_750 ?_
  refine lv_aload_n hx hb dL_law_751 rfl (lv_at hl 3 rfl) ?_
  obtain ⟨v4, ev4, hq⟩ := b_s hq
  refine gl_i (g_runSW (As := [.ref x1, .int v1, .int v2, .int v3, .ref x3]) (rest := []) hC (c_L_pointDistance l hl0 V g D cT f n x1 v1 v2 v3 x3 v4 ev4) k_L_pointDistance m_782 rfl rfl ⟨Nat.le_of_ble_eq_true rfl, Nat.le_of_ble_eq_true rfl⟩ hI rfl hl.1 rfl (Nat.le_of_ble_eq_true rfl) dL_law_752 ⟨(by have := hcap.1; show _ ≤ 601024; omega), (by have := hcap.2; show _ ≤ 7293034; omega)⟩) hI (fun H locs n5 hn5 hI => ?_)
  refine lv_istore (lv' := [(6, .int v4.1), (0, .ref x0), (1, .ref x1), (2, .ref x2), (3, .ref x3), (4, .ref x4), (5, .int x5)]) hx hb dL_law_755 hl (by decide) rfl (fun ls hl => ?_)
  refine lv_aload_n hx hb dL_law_757 rfl (lv_at hl 3 rfl) ?_
  refine lv_aload_n hx hb dL_law_758 rfl (lv_at hl 1 rfl) ?_
  refine lv_iload hx hb dL_law_759 (lv_at hl 6 rfl) ?_
  refine lv_iconst (v := (1 : Int32)) hx hb dL_law_761 (by decide) ?_
  refine lv_iadd hx hb dL_law_762 ?_
  obtain ⟨v6, ev6, hq⟩ := b_s hq
  refine fs_li hx hb hI ev6 dL_law_763 ?_
  refine lv_aload_n hx hb dL_law_764 rfl (lv_at hl 1 rfl) ?_
  refine lv_iload hx hb dL_law_765 (lv_at hl 6 rfl) ?_
  refine lv_iconst (v := (2 : Int32)) hx hb dL_law_767 (by decide) ?_
  refine lv_iadd hx hb dL_law_768 ?_
  obtain ⟨v7, ev7, hq⟩ := b_s hq
  refine fs_li hx hb hI ev7 dL_law_769 ?_
  refine lv_aload_n hx hb dL_law_770 rfl (lv_at hl 1 rfl) ?_
  refine lv_iload hx hb dL_law_771 (lv_at hl 6 rfl) ?_
  refine lv_iconst (v := (3 : Int32)) hx hb dL_law_773 (by decide) ?_
  refine lv_iadd hx hb dL_law_774 ?_
  obtain ⟨v8, ev8, hq⟩ := b_s hq
  refine fs_li hx hb hI ev8 dL_law_775 ?_
  obtain ⟨v9, ev9, hq⟩ := b_s hq
  refine gw_i (g_runV (As := [.int v6, .int v7, .int v8]) (rest := []) (ci := 10) hC (c_X8_pointDistance l V g D cT v4.2 n5 x2 v6 v7 v8 v9 ev9) k_X8_pointDistance m_1669 rfl rfl ⟨Nat.le_of_ble_eq_true rfl, Nat.le_of_ble_eq_true rfl⟩ hI rfl rfl (h_me_eq ev9).1 rfl hl.1 rfl (Nat.le_of_ble_eq_true rfl) dL_law_776 ⟨(by have := hcap.1; show _ ≤ 601024; omega), (by have := hcap.2; show _ ≤ 7293034; omega)⟩) hI (fun H locs hI => ?_)
  refine lv_istore (lv' := [(7, .int v9.1), (6, .int v4.1), (0, .ref x0), (1, .ref x1), (2, .ref x2), (3, .ref x3), (4, .ref x4), (5, .int x5)]) hx hb dL_law_779 hl (by decide) rfl (fun ls hl => ?_)
  refine lv_aload_n hx hb dL_law_781 rfl (lv_at hl 4 rfl) ?_
  obtain ⟨v10, ev10, hq⟩ := b_s hq
  refine gr_i (g_runV (As := []) (rest := []) (ci := 10) hC (c_X8_thrown l V g D cT v9.2 n5 x2 v10 ev10) k_X8_thrown m_1610 rfl rfl ⟨Nat.le_of_ble_eq_true rfl, Nat.le_of_ble_eq_true rfl⟩ hI rfl rfl (h_me_eq ev10).1 rfl hl.1 rfl (Nat.le_of_ble_eq_true rfl) dL_law_782 ⟨(by have := hcap.1; show _ ≤ 601024; omega), (by have := hcap.2; show _ ≤ 7293034; omega)⟩) hI (fun H locs hI => ?_)
  refine lv_iload hx hb dL_law_785 (lv_at hl 1 rfl) ?_
  refine lv_icmp_eq (tgt := 792) hx hb dL_law_787 (by decide) (fun c11 => ?_) (fun c11 => ?_)
  · replace hq := i_t c11 hq
    refine lv_iload hx hb dL_law_792 (lv_at hl 1 rfl) ?_
    refine lv_if_ne (tgt := 809) hx hb dL_law_794 (by decide) (fun c12 => ?_) (fun c12 => ?_)
    · replace hq := i_f c12 hq
      refine lv_goto (tgt := 3637) hx hb dL_law_809 (by decide) ?_
      obtain rfl := Option.some.inj hq
      refine W.widen (k := cells + 17) (n := slots + 3206) (by omega) (by omega) ?_
      exact kk _ _ _ _ (by omega) hI (lv_sub hl [2, 3, 4, 5, 6, 7] rfl)
    · replace hq := i_t c12 hq
      refine lv_aload_n hx hb dL_law_797 rfl (lv_at hl 5 rfl) ?_
      refine lv_iconst (v := (0 : Int32)) hx hb dL_law_798 (by decide) ?_
      obtain ⟨v13, ev13, hq⟩ := b_s hq
      refine fa_ll hx hb hI ev13 dL_law_799 ?_
      refine lv_iload hx hb dL_law_800 (lv_at hl 0 rfl) ?_
      refine lv_i2l (v := v9.1.toInt64) hx hb dL_law_802 rfl ?_
      refine lv_lcmpN hx hb dL_law_803 ?_
      refine lv_if_eq (tgt := 809) hx hb dL_law_804 (by decide) (fun c14 => ?_) (fun c14 => ?_)
      · replace hq := i_t c14 hq
        refine lv_goto (tgt := 3637) hx hb dL_law_809 (by decide) ?_
        obtain rfl := Option.some.inj hq
        refine W.widen (k := cells + 17) (n := slots + 3206) (by omega) (by omega) ?_
        exact kk _ _ _ _ (by omega) hI (lv_sub hl [2, 3, 4, 5, 6, 7] rfl)
      · replace hq := i_f c14 hq
        refine lv_iconst (v := (0 : Int32)) hx hb dL_law_807 (by decide) ?_
        cases hq
  · replace hq := i_f c11 hq
    refine lv_iconst (v := (0 : Int32)) hx hb dL_law_790 (by decide) ?_
    cases hq

set_option maxHeartbeats 4000000 in
set_option maxRecDepth 100000 in
theorem cs_11 {p : Program} {l : Launch} {e : Env} {s : State} {m : MethodId} {args : Array Value} {below : List Frame} {meth : Method} {c : Code} {V : Nat → Nat} {g : GH} {D : va_G} {cT : Nat → ClassId} (hl0 : l.stackTraces = false) (hx : p.tables.exec = Jvm.exec) (hb : c.code = cL_law) (hC : CallFix p m c cL_law 9 s args g_B RL) {Q : State → Prop} {f : GH} {n : Nat} (x0 x1 x2 x3 x4 : Nat) (x5 : Int32) {f1 : GH} (hq : p_case_11 V g f n x0 x1 x2 x3 x4 x5 = some f1) {H : Heap} {locs : List Loc} {cells slots : Nat} {ls : Array Slot} (hcap : cells + 17 ≤ 601024 ∧ slots + 3206 ≤ 7293034) (hI : g_at (g_A V) V g D cT f n s H locs) (hl : lv_has ls 9 [(0, .ref x0), (1, .ref x1), (2, .ref x2), (3, .ref x3), (4, .ref x4), (5, .int x5)])
    (kk : ∀ (H : Heap) (locs : List Loc) (ls : Array Slot) (n1 : Nat), n ≤ n1 → g_at (g_A V) V g D cT f1 n1 s H locs → lv_has ls 9 [(0, .ref x0), (1, .ref x1), (2, .ref x2), (3, .ref x3), (4, .ref x4), (5, .int x5)] → W p l e room_1 s m args below meth c H locs (cells + 17) (slots + 3206) Q (F0 m 3637 ls [])) : W p l e room_1 s m args below meth c H locs cells slots Q (F0 m 812 ls []) := by
  obtain ⟨_, _, hml, hown, hB⟩ := id hC
  unfold p_case_11 at hq
  refine lv_aload_n hx hb dL_law_812 rfl (lv_at hl 1 rfl) ?_
  refine lv_aload_n hx hb dL_law_813 rfl (lv_at hl 0 rfl) ?_
  refine lv_iload hx hb dL_law_814 (lv_at hl 5 rfl) ?_
  refine lv_iconst (v := (1 : Int32)) hx hb dL_law_816 (by decide) ?_
  refine lv_iadd hx hb dL_law_817 ?_
  obtain ⟨v1, ev1, hq⟩ := b_s hq
  refine fs_li hx hb hI ev1 dL_law_818 ?_
  refine lv_aload_n hx hb dL_law_819 rfl (lv_at hl 0 rfl) ?_
  refine lv_iload hx hb dL_law_820 (lv_at hl 5 rfl) ?_
  refine lv_iconst (v := (2 : Int32)) hx hb dL_law_822 (by decide) ?_
  refine lv_iadd hx hb dL_law_823 ?_
  obtain ⟨v2, ev2, hq⟩ := b_s hq
  refine fs_li hx hb hI ev2 dL_law_824 ?_
  refine lv_aload_n hx hb dL_law_825 rfl (lv_at hl 0 rfl) ?_
  refine lv_iload hx hb dL_law_826 (lv_at hl 5 rfl) ?_
  refine lv_iconst (v := (3 : Int32)) hx hb dL_law_828 (by decide) ?_
  refine lv_iadd hx hb dL_law_829 ?_
  obtain ⟨v3, ev3, hq⟩ := b_s hq
  refine fs_li hx hb hI ev3 dL_law_830 ?_
  refine lv_aload_n hx hb dL_law_831 rfl (lv_at hl 3 rfl) ?_
  obtain ⟨v4, ev4, hq⟩ := b_s hq
  refine gl_i (g_runSW (As := [.ref x1, .int v1, .int v2, .int v3, .ref x3]) (rest := []) hC (c_L_nearestPoint l hl0 V g D cT f n x1 v1 v2 v3 x3 v4 ev4) k_L_nearestPoint m_794 rfl rfl ⟨Nat.le_of_ble_eq_true rfl, Nat.le_of_ble_eq_true rfl⟩ hI rfl hl.1 rfl (Nat.le_of_ble_eq_true rfl) dL_law_832 ⟨(by have := hcap.1; show _ ≤ 601024; omega), (by have := hcap.2; show _ ≤ 7293034; omega)⟩) hI (fun H locs n5 hn5 hI => ?_)
  refine lv_istore (lv' := [(6, .int v4.1), (0, .ref x0), (1, .ref x1), (2, .ref x2), (3, .ref x3), (4, .ref x4), (5, .int x5)]) hx hb dL_law_835 hl (by decide) rfl (fun ls hl => ?_)
  refine lv_aload_n hx hb dL_law_837 rfl (lv_at hl 3 rfl) ?_
  refine lv_aload_n hx hb dL_law_838 rfl (lv_at hl 1 rfl) ?_
  refine lv_iload hx hb dL_law_839 (lv_at hl 6 rfl) ?_
  refine lv_iconst (v := (1 : Int32)) hx hb dL_law_841 (by decide) ?_
  refine lv_iadd hx hb dL_law_842 ?_
  obtain ⟨v6, ev6, hq⟩ := b_s hq
  refine fs_li hx hb hI ev6 dL_law_843 ?_
  refine lv_aload_n hx hb dL_law_844 rfl (lv_at hl 1 rfl) ?_
  refine lv_iload hx hb dL_law_845 (lv_at hl 6 rfl) ?_
  refine lv_iconst (v := (2 : Int32)) hx hb dL_law_847 (by decide) ?_
  refine lv_iadd hx hb dL_law_848 ?_
  obtain ⟨v7, ev7, hq⟩ := b_s hq
  refine fs_li hx hb hI ev7 dL_law_849 ?_
  refine lv_aload_n hx hb dL_law_850 rfl (lv_at hl 1 rfl) ?_
  refine lv_iload hx hb dL_law_851 (lv_at hl 6 rfl) ?_
  refine lv_iconst (v := (3 : Int32)) hx hb dL_law_853 (by decide) ?_
  refine lv_iadd hx hb dL_law_854 ?_
  obtain ⟨v8, ev8, hq⟩ := b_s hq
  refine fs_li hx hb hI ev8 dL_law_855 ?_
  obtain ⟨v9, ev9, hq⟩ := b_s hq
  refine gw_i (g_runV (As := [.int v6, .int v7, .int v8]) (rest := []) (ci := 10) hC (c_X8_nearestPoint l V g D cT v4.2 n5 x2 v6 v7 v8 v9 ev9) k_X8_nearestPoint m_1683 rfl rfl ⟨Nat.le_of_ble_eq_true rfl, Nat.le_of_ble_eq_true rfl⟩ hI rfl rfl (h_me_eq ev9).1 rfl hl.1 rfl (Nat.le_of_ble_eq_true rfl) dL_law_856 ⟨(by have := hcap.1; show _ ≤ 601024; omega), (by have := hcap.2; show _ ≤ 7293034; omega)⟩) hI (fun H locs hI => ?_)
  refine lv_istore (lv' := [(7, .int v9.1), (6, .int v4.1), (0, .ref x0), (1, .ref x1), (2, .ref x2), (3, .ref x3), (4, .ref x4), (5, .int x5)]) hx hb dL_law_859 hl (by decide) rfl (fun ls hl => ?_)
  refine lv_aload_n hx hb dL_law_861 rfl (lv_at hl 4 rfl) ?_
  obtain ⟨v10, ev10, hq⟩ := b_s hq
  refine gr_i (g_runV (As := []) (rest := []) (ci := 10) hC (c_X8_thrown l V g D cT v9.2 n5 x2 v10 ev10) k_X8_thrown m_1610 rfl rfl ⟨Nat.le_of_ble_eq_true rfl, Nat.le_of_ble_eq_true rfl⟩ hI rfl rfl (h_me_eq ev10).1 rfl hl.1 rfl (Nat.le_of_ble_eq_true rfl) dL_law_862 ⟨(by have := hcap.1; show _ ≤ 601024; omega), (by have := hcap.2; show _ ≤ 7293034; omega)⟩) hI (fun H locs hI => ?_)
  refine lv_iload hx hb dL_law_865 (lv_at hl 1 rfl) ?_
  refine lv_icmp_eq (tgt := 872) hx hb dL_law_867 (by decide) (fun c11 => ?_) (fun c11 => ?_)
  · replace hq := i_t c11 hq
    refine lv_iload hx hb dL_law_872 (lv_at hl 1 rfl) ?_
    refine lv_if_ne (tgt := 889) hx hb dL_law_874 (by decide) (fun c12 => ?_) (fun c12 => ?_)
    · replace hq := i_f c12 hq
      refine lv_goto (tgt := 3637) hx hb dL_law_889 (by decide) ?_
      obtain rfl := Option.some.inj hq
      refine W.widen (k := cells + 17) (n := slots + 3206) (by omega) (by omega) ?_
      exact kk _ _ _ _ (by omega) hI (lv_sub hl [2, 3, 4, 5, 6, 7] rfl)
    · replace hq := i_t c12 hq
      refine lv_aload_n hx hb dL_law_877 rfl (lv_at hl 5 rfl) ?_
      refine lv_iconst (v := (0 : Int32)) hx hb dL_law_878 (by decide) ?_
      obtain ⟨v13, ev13, hq⟩ := b_s hq
      refine fa_ll hx hb hI ev13 dL_law_879 ?_
      refine lv_iload hx hb dL_law_880 (lv_at hl 0 rfl) ?_
      refine lv_i2l (v := v9.1.toInt64) hx hb dL_law_882 rfl ?_
      refine lv_lcmpN hx hb dL_law_883 ?_
      refine lv_if_eq (tgt := 889) hx hb dL_law_884 (by decide) (fun c14 => ?_) (fun c14 => ?_)
      · replace hq := i_t c14 hq
        refine lv_goto (tgt := 3637) hx hb dL_law_889 (by decide) ?_
        obtain rfl := Option.some.inj hq
        refine W.widen (k := cells + 17) (n := slots + 3206) (by omega) (by omega) ?_
        exact kk _ _ _ _ (by omega) hI (lv_sub hl [2, 3, 4, 5, 6, 7] rfl)
      · replace hq := i_f c14 hq
        refine lv_iconst (v := (0 : Int32)) hx hb dL_law_887 (by decide) ?_
        cases hq
  · replace hq := i_f c11 hq
    refine lv_iconst (v := (0 : Int32)) hx hb dL_law_870 (by decide) ?_
    cases hq

set_option maxHeartbeats 4000000 in
set_option maxRecDepth 100000 in
theorem cs_12 {p : Program} {l : Launch} {e : Env} {s : State} {m : MethodId} {args : Array Value} {below : List Frame} {meth : Method} {c : Code} {V : Nat → Nat} {g : GH} {D : va_G} {cT : Nat → ClassId} (hl0 : l.stackTraces = false) (hx : p.tables.exec = Jvm.exec) (hb : c.code = cL_law) (hC : CallFix p m c cL_law 9 s args g_B RL) {Q : State → Prop} {f : GH} {n : Nat} (x0 x1 x2 x3 x4 : Nat) (x5 : Int32) {f1 : GH} (hq : p_case_12 V g f n x0 x1 x2 x3 x4 x5 = some f1) {H : Heap} {locs : List Loc} {cells slots : Nat} {ls : Array Slot} (hcap : cells + 17 ≤ 601024 ∧ slots + 3206 ≤ 7293034) (hI : g_at (g_A V) V g D cT f n s H locs) (hl : lv_has ls 9 [(0, .ref x0), (1, .ref x1), (2, .ref x2), (3, .ref x3), (4, .ref x4), (5, .int x5)])
    (kk : ∀ (H : Heap) (locs : List Loc) (ls : Array Slot) (n1 : Nat), n ≤ n1 → g_at (g_A V) V g D cT f1 n1 s H locs → lv_has ls 9 [(0, .ref x0), (1, .ref x1), (2, .ref x2), (3, .ref x3), (4, .ref x4), (5, .int x5)] → W p l e room_1 s m args below meth c H locs (cells + 17) (slots + 3206) Q (F0 m 3637 ls [])) : W p l e room_1 s m args below meth c H locs cells slots Q (F0 m 892 ls []) := by
  obtain ⟨_, _, hml, hown, hB⟩ := id hC
  unfold p_case_12 at hq
  refine lv_aload_n hx hb dL_law_892 rfl (lv_at hl 1 rfl) ?_
  refine lv_aload_n hx hb dL_law_893 rfl (lv_at hl 0 rfl) ?_
  refine lv_iload hx hb dL_law_894 (lv_at hl 5 rfl) ?_
  refine lv_iconst (v := (1 : Int32)) hx hb dL_law_896 (by decide) ?_
  refine lv_iadd hx hb dL_law_897 ?_
  obtain ⟨v1, ev1, hq⟩ := b_s hq
  refine fs_li hx hb hI ev1 dL_law_898 ?_
  refine lv_aload_n hx hb dL_law_899 rfl (lv_at hl 0 rfl) ?_
  refine lv_iload hx hb dL_law_900 (lv_at hl 5 rfl) ?_
  refine lv_iconst (v := (2 : Int32)) hx hb dL_law_902 (by decide) ?_
  refine lv_iadd hx hb dL_law_903 ?_
  obtain ⟨v2, ev2, hq⟩ := b_s hq
  refine fs_li hx hb hI ev2 dL_law_904 ?_
  refine lv_aload_n hx hb dL_law_905 rfl (lv_at hl 3 rfl) ?_
  obtain ⟨v3, ev3, hq⟩ := b_s hq
  refine gl_i (g_runSW (As := [.ref x1, .int v1, .int v2, .ref x3]) (rest := []) hC (c_L_lengthAt l hl0 V g D cT f n x1 v1 v2 x3 v3 ev3) k_L_lengthAt m_805 rfl rfl ⟨Nat.le_of_ble_eq_true rfl, Nat.le_of_ble_eq_true rfl⟩ hI rfl hl.1 rfl (Nat.le_of_ble_eq_true rfl) dL_law_906 ⟨(by have := hcap.1; show _ ≤ 601024; omega), (by have := hcap.2; show _ ≤ 7293034; omega)⟩) hI (fun H locs n4 hn4 hI => ?_)
  refine lv_istore (lv' := [(6, .int v3.1), (0, .ref x0), (1, .ref x1), (2, .ref x2), (3, .ref x3), (4, .ref x4), (5, .int x5)]) hx hb dL_law_909 hl (by decide) rfl (fun ls hl => ?_)
  refine lv_aload_n hx hb dL_law_911 rfl (lv_at hl 3 rfl) ?_
  refine lv_aload_n hx hb dL_law_912 rfl (lv_at hl 1 rfl) ?_
  refine lv_iload hx hb dL_law_913 (lv_at hl 6 rfl) ?_
  refine lv_iconst (v := (1 : Int32)) hx hb dL_law_915 (by decide) ?_
  refine lv_iadd hx hb dL_law_916 ?_
  obtain ⟨v5, ev5, hq⟩ := b_s hq
  refine fs_li hx hb hI ev5 dL_law_917 ?_
  refine lv_aload_n hx hb dL_law_918 rfl (lv_at hl 1 rfl) ?_
  refine lv_iload hx hb dL_law_919 (lv_at hl 6 rfl) ?_
  refine lv_iconst (v := (2 : Int32)) hx hb dL_law_921 (by decide) ?_
  refine lv_iadd hx hb dL_law_922 ?_
  obtain ⟨v6, ev6, hq⟩ := b_s hq
  refine fs_li hx hb hI ev6 dL_law_923 ?_
  obtain ⟨v7, ev7, hq⟩ := b_s hq
  refine gw_i (g_runV (As := [.int v5, .int v6]) (rest := []) (ci := 10) hC (c_X8_lengthAt l V g D cT v3.2 n4 x2 v5 v6 v7 ev7) k_X8_lengthAt m_1697 rfl rfl ⟨Nat.le_of_ble_eq_true rfl, Nat.le_of_ble_eq_true rfl⟩ hI rfl rfl (h_me_eq ev7).1 rfl hl.1 rfl (Nat.le_of_ble_eq_true rfl) dL_law_924 ⟨(by have := hcap.1; show _ ≤ 601024; omega), (by have := hcap.2; show _ ≤ 7293034; omega)⟩) hI (fun H locs hI => ?_)
  refine lv_istore (lv' := [(7, .int v7.1), (6, .int v3.1), (0, .ref x0), (1, .ref x1), (2, .ref x2), (3, .ref x3), (4, .ref x4), (5, .int x5)]) hx hb dL_law_927 hl (by decide) rfl (fun ls hl => ?_)
  refine lv_aload_n hx hb dL_law_929 rfl (lv_at hl 4 rfl) ?_
  obtain ⟨v8, ev8, hq⟩ := b_s hq
  refine gr_i (g_runV (As := []) (rest := []) (ci := 10) hC (c_X8_thrown l V g D cT v7.2 n4 x2 v8 ev8) k_X8_thrown m_1610 rfl rfl ⟨Nat.le_of_ble_eq_true rfl, Nat.le_of_ble_eq_true rfl⟩ hI rfl rfl (h_me_eq ev8).1 rfl hl.1 rfl (Nat.le_of_ble_eq_true rfl) dL_law_930 ⟨(by have := hcap.1; show _ ≤ 601024; omega), (by have := hcap.2; show _ ≤ 7293034; omega)⟩) hI (fun H locs hI => ?_)
  refine lv_iload hx hb dL_law_933 (lv_at hl 1 rfl) ?_
  refine lv_icmp_eq (tgt := 940) hx hb dL_law_935 (by decide) (fun c9 => ?_) (fun c9 => ?_)
  · replace hq := i_t c9 hq
    refine lv_iload hx hb dL_law_940 (lv_at hl 1 rfl) ?_
    refine lv_if_ne (tgt := 957) hx hb dL_law_942 (by decide) (fun c10 => ?_) (fun c10 => ?_)
    · replace hq := i_f c10 hq
      refine lv_goto (tgt := 3637) hx hb dL_law_957 (by decide) ?_
      obtain rfl := Option.some.inj hq
      refine W.widen (k := cells + 17) (n := slots + 3206) (by omega) (by omega) ?_
      exact kk _ _ _ _ (by omega) hI (lv_sub hl [2, 3, 4, 5, 6, 7] rfl)
    · replace hq := i_t c10 hq
      refine lv_aload_n hx hb dL_law_945 rfl (lv_at hl 5 rfl) ?_
      refine lv_iconst (v := (0 : Int32)) hx hb dL_law_946 (by decide) ?_
      obtain ⟨v11, ev11, hq⟩ := b_s hq
      refine fa_ll hx hb hI ev11 dL_law_947 ?_
      refine lv_iload hx hb dL_law_948 (lv_at hl 0 rfl) ?_
      refine lv_i2l (v := v7.1.toInt64) hx hb dL_law_950 rfl ?_
      refine lv_lcmpN hx hb dL_law_951 ?_
      refine lv_if_eq (tgt := 957) hx hb dL_law_952 (by decide) (fun c12 => ?_) (fun c12 => ?_)
      · replace hq := i_t c12 hq
        refine lv_goto (tgt := 3637) hx hb dL_law_957 (by decide) ?_
        obtain rfl := Option.some.inj hq
        refine W.widen (k := cells + 17) (n := slots + 3206) (by omega) (by omega) ?_
        exact kk _ _ _ _ (by omega) hI (lv_sub hl [2, 3, 4, 5, 6, 7] rfl)
      · replace hq := i_f c12 hq
        refine lv_iconst (v := (0 : Int32)) hx hb dL_law_955 (by decide) ?_
        cases hq
  · replace hq := i_f c9 hq
    refine lv_iconst (v := (0 : Int32)) hx hb dL_law_938 (by decide) ?_
    cases hq

set_option maxHeartbeats 4000000 in
set_option maxRecDepth 100000 in
theorem cs_13 {p : Program} {l : Launch} {e : Env} {s : State} {m : MethodId} {args : Array Value} {below : List Frame} {meth : Method} {c : Code} {V : Nat → Nat} {g : GH} {D : va_G} {cT : Nat → ClassId} (hl0 : l.stackTraces = false) (hx : p.tables.exec = Jvm.exec) (hb : c.code = cL_law) (hC : CallFix p m c cL_law 9 s args g_B RL) {Q : State → Prop} {f : GH} {n : Nat} (x0 x1 x2 x3 x4 : Nat) (x5 : Int32) {f1 : GH} (hq : p_case_13 V g f n x0 x1 x2 x3 x4 x5 = some f1) {H : Heap} {locs : List Loc} {cells slots : Nat} {ls : Array Slot} (hcap : cells + 17 ≤ 601024 ∧ slots + 3206 ≤ 7293034) (hI : g_at (g_A V) V g D cT f n s H locs) (hl : lv_has ls 9 [(0, .ref x0), (1, .ref x1), (2, .ref x2), (3, .ref x3), (4, .ref x4), (5, .int x5)])
    (kk : ∀ (H : Heap) (locs : List Loc) (ls : Array Slot) (n1 : Nat), n ≤ n1 → g_at (g_A V) V g D cT f1 n1 s H locs → lv_has ls 9 [(0, .ref x0), (1, .ref x1), (2, .ref x2), (3, .ref x3), (4, .ref x4), (5, .int x5)] → W p l e room_1 s m args below meth c H locs (cells + 17) (slots + 3206) Q (F0 m 3637 ls [])) : W p l e room_1 s m args below meth c H locs cells slots Q (F0 m 960 ls []) := by
  obtain ⟨_, _, hml, hown, hB⟩ := id hC
  unfold p_case_13 at hq
  refine lv_aload_n hx hb dL_law_960 rfl (lv_at hl 1 rfl) ?_
  refine lv_aload_n hx hb dL_law_961 rfl (lv_at hl 0 rfl) ?_
  refine lv_iload hx hb dL_law_962 (lv_at hl 5 rfl) ?_
  refine lv_iconst (v := (1 : Int32)) hx hb dL_law_964 (by decide) ?_
  refine lv_iadd hx hb dL_law_965 ?_
  obtain ⟨v1, ev1, hq⟩ := b_s hq
  refine fs_li hx hb hI ev1 dL_law_966 ?_
  refine lv_aload_n hx hb dL_law_967 rfl (lv_at hl 0 rfl) ?_
  refine lv_iload hx hb dL_law_968 (lv_at hl 5 rfl) ?_
  refine lv_iconst (v := (2 : Int32)) hx hb dL_law_970 (by decide) ?_
  refine lv_iadd hx hb dL_law_971 ?_
  obtain ⟨v2, ev2, hq⟩ := b_s hq
  refine fs_li hx hb hI ev2 dL_law_972 ?_
  refine lv_aload_n hx hb dL_law_973 rfl (lv_at hl 3 rfl) ?_
  obtain ⟨v3, ev3, hq⟩ := b_s hq
  refine gl_i (g_runSW (As := [.ref x1, .int v1, .int v2, .ref x3]) (rest := []) hC (c_L_stickCount l hl0 V g D cT f n x1 v1 v2 x3 v3 ev3) k_L_stickCount m_833 rfl rfl ⟨Nat.le_of_ble_eq_true rfl, Nat.le_of_ble_eq_true rfl⟩ hI rfl hl.1 rfl (Nat.le_of_ble_eq_true rfl) dL_law_974 ⟨(by have := hcap.1; show _ ≤ 601024; omega), (by have := hcap.2; show _ ≤ 7293034; omega)⟩) hI (fun H locs n4 hn4 hI => ?_)
  refine lv_istore (lv' := [(6, .int v3.1), (0, .ref x0), (1, .ref x1), (2, .ref x2), (3, .ref x3), (4, .ref x4), (5, .int x5)]) hx hb dL_law_977 hl (by decide) rfl (fun ls hl => ?_)
  refine lv_aload_n hx hb dL_law_979 rfl (lv_at hl 3 rfl) ?_
  refine lv_aload_n hx hb dL_law_980 rfl (lv_at hl 1 rfl) ?_
  refine lv_iload hx hb dL_law_981 (lv_at hl 6 rfl) ?_
  refine lv_iconst (v := (1 : Int32)) hx hb dL_law_983 (by decide) ?_
  refine lv_iadd hx hb dL_law_984 ?_
  obtain ⟨v5, ev5, hq⟩ := b_s hq
  refine fs_li hx hb hI ev5 dL_law_985 ?_
  refine lv_aload_n hx hb dL_law_986 rfl (lv_at hl 1 rfl) ?_
  refine lv_iload hx hb dL_law_987 (lv_at hl 6 rfl) ?_
  refine lv_iconst (v := (2 : Int32)) hx hb dL_law_989 (by decide) ?_
  refine lv_iadd hx hb dL_law_990 ?_
  obtain ⟨v6, ev6, hq⟩ := b_s hq
  refine fs_li hx hb hI ev6 dL_law_991 ?_
  obtain ⟨v7, ev7, hq⟩ := b_s hq
  refine gw_i (g_runV (As := [.int v5, .int v6]) (rest := []) (ci := 10) hC (c_X8_stickCount l V g D cT v3.2 n4 x2 v5 v6 v7 ev7) k_X8_stickCount m_1728 rfl rfl ⟨Nat.le_of_ble_eq_true rfl, Nat.le_of_ble_eq_true rfl⟩ hI rfl rfl (h_me_eq ev7).1 rfl hl.1 rfl (Nat.le_of_ble_eq_true rfl) dL_law_992 ⟨(by have := hcap.1; show _ ≤ 601024; omega), (by have := hcap.2; show _ ≤ 7293034; omega)⟩) hI (fun H locs hI => ?_)
  refine lv_istore (lv' := [(7, .int v7.1), (6, .int v3.1), (0, .ref x0), (1, .ref x1), (2, .ref x2), (3, .ref x3), (4, .ref x4), (5, .int x5)]) hx hb dL_law_995 hl (by decide) rfl (fun ls hl => ?_)
  refine lv_aload_n hx hb dL_law_997 rfl (lv_at hl 4 rfl) ?_
  obtain ⟨v8, ev8, hq⟩ := b_s hq
  refine gr_i (g_runV (As := []) (rest := []) (ci := 10) hC (c_X8_thrown l V g D cT v7.2 n4 x2 v8 ev8) k_X8_thrown m_1610 rfl rfl ⟨Nat.le_of_ble_eq_true rfl, Nat.le_of_ble_eq_true rfl⟩ hI rfl rfl (h_me_eq ev8).1 rfl hl.1 rfl (Nat.le_of_ble_eq_true rfl) dL_law_998 ⟨(by have := hcap.1; show _ ≤ 601024; omega), (by have := hcap.2; show _ ≤ 7293034; omega)⟩) hI (fun H locs hI => ?_)
  refine lv_iload hx hb dL_law_1001 (lv_at hl 1 rfl) ?_
  refine lv_icmp_eq (tgt := 1008) hx hb dL_law_1003 (by decide) (fun c9 => ?_) (fun c9 => ?_)
  · replace hq := i_t c9 hq
    refine lv_iload hx hb dL_law_1008 (lv_at hl 1 rfl) ?_
    refine lv_if_ne (tgt := 1025) hx hb dL_law_1010 (by decide) (fun c10 => ?_) (fun c10 => ?_)
    · replace hq := i_f c10 hq
      refine lv_goto (tgt := 3637) hx hb dL_law_1025 (by decide) ?_
      obtain rfl := Option.some.inj hq
      refine W.widen (k := cells + 17) (n := slots + 3206) (by omega) (by omega) ?_
      exact kk _ _ _ _ (by omega) hI (lv_sub hl [2, 3, 4, 5, 6, 7] rfl)
    · replace hq := i_t c10 hq
      refine lv_aload_n hx hb dL_law_1013 rfl (lv_at hl 5 rfl) ?_
      refine lv_iconst (v := (0 : Int32)) hx hb dL_law_1014 (by decide) ?_
      obtain ⟨v11, ev11, hq⟩ := b_s hq
      refine fa_ll hx hb hI ev11 dL_law_1015 ?_
      refine lv_iload hx hb dL_law_1016 (lv_at hl 0 rfl) ?_
      refine lv_i2l (v := v7.1.toInt64) hx hb dL_law_1018 rfl ?_
      refine lv_lcmpN hx hb dL_law_1019 ?_
      refine lv_if_eq (tgt := 1025) hx hb dL_law_1020 (by decide) (fun c12 => ?_) (fun c12 => ?_)
      · replace hq := i_t c12 hq
        refine lv_goto (tgt := 3637) hx hb dL_law_1025 (by decide) ?_
        obtain rfl := Option.some.inj hq
        refine W.widen (k := cells + 17) (n := slots + 3206) (by omega) (by omega) ?_
        exact kk _ _ _ _ (by omega) hI (lv_sub hl [2, 3, 4, 5, 6, 7] rfl)
      · replace hq := i_f c12 hq
        refine lv_iconst (v := (0 : Int32)) hx hb dL_law_1023 (by decide) ?_
        cases hq
  · replace hq := i_f c9 hq
    refine lv_iconst (v := (0 : Int32)) hx hb dL_law_1006 (by decide) ?_
    cases hq

set_option maxHeartbeats 4000000 in
set_option maxRecDepth 100000 in
theorem cs_14 {p : Program} {l : Launch} {e : Env} {s : State} {m : MethodId} {args : Array Value} {below : List Frame} {meth : Method} {c : Code} {V : Nat → Nat} {g : GH} {D : va_G} {cT : Nat → ClassId} (hl0 : l.stackTraces = false) (hx : p.tables.exec = Jvm.exec) (hb : c.code = cL_law) (hC : CallFix p m c cL_law 9 s args g_B RL) {Q : State → Prop} {f : GH} {n : Nat} (x0 x1 x2 x3 x4 : Nat) (x5 : Int32) {f1 : GH} (hq : p_case_14 V g f n x0 x1 x2 x3 x4 x5 = some f1) {H : Heap} {locs : List Loc} {cells slots : Nat} {ls : Array Slot} (hcap : cells + 17 ≤ 601024 ∧ slots + 3206 ≤ 7293034) (hI : g_at (g_A V) V g D cT f n s H locs) (hl : lv_has ls 9 [(0, .ref x0), (1, .ref x1), (2, .ref x2), (3, .ref x3), (4, .ref x4), (5, .int x5)])
    (kk : ∀ (H : Heap) (locs : List Loc) (ls : Array Slot) (n1 : Nat), n ≤ n1 → g_at (g_A V) V g D cT f1 n1 s H locs → lv_has ls 9 [(0, .ref x0), (1, .ref x1), (2, .ref x2), (3, .ref x3), (4, .ref x4), (5, .int x5)] → W p l e room_1 s m args below meth c H locs (cells + 17) (slots + 3206) Q (F0 m 3637 ls [])) : W p l e room_1 s m args below meth c H locs cells slots Q (F0 m 1028 ls []) := by
  obtain ⟨_, _, hml, hown, hB⟩ := id hC
  unfold p_case_14 at hq
  refine lv_aload_n hx hb dL_law_1028 rfl (lv_at hl 1 rfl) ?_
  refine lv_aload_n hx hb dL_law_1029 rfl (lv_at hl 0 rfl) ?_
  refine lv_iload hx hb dL_law_1030 (lv_at hl 5 rfl) ?_
  refine lv_iconst (v := (1 : Int32)) hx hb dL_law_1032 (by decide) ?_
  refine lv_iadd hx hb dL_law_1033 ?_
  obtain ⟨v1, ev1, hq⟩ := b_s hq
  refine fs_li hx hb hI ev1 dL_law_1034 ?_
  refine lv_aload_n hx hb dL_law_1035 rfl (lv_at hl 0 rfl) ?_
  refine lv_iload hx hb dL_law_1036 (lv_at hl 5 rfl) ?_
  refine lv_iconst (v := (2 : Int32)) hx hb dL_law_1038 (by decide) ?_
  refine lv_iadd hx hb dL_law_1039 ?_
  obtain ⟨v2, ev2, hq⟩ := b_s hq
  refine fs_li hx hb hI ev2 dL_law_1040 ?_
  refine lv_aload_n hx hb dL_law_1041 rfl (lv_at hl 0 rfl) ?_
  refine lv_iload hx hb dL_law_1042 (lv_at hl 5 rfl) ?_
  refine lv_iconst (v := (3 : Int32)) hx hb dL_law_1044 (by decide) ?_
  refine lv_iadd hx hb dL_law_1045 ?_
  obtain ⟨v3, ev3, hq⟩ := b_s hq
  refine fs_li hx hb hI ev3 dL_law_1046 ?_
  refine lv_aload_n hx hb dL_law_1047 rfl (lv_at hl 3 rfl) ?_
  obtain ⟨v4, ev4, hq⟩ := b_s hq
  refine gl_i (g_runSW (As := [.ref x1, .int v1, .int v2, .int v3, .ref x3]) (rest := []) hC (c_L_stickStart l hl0 V g D cT f n x1 v1 v2 v3 x3 v4 ev4) k_L_stickStart m_841 rfl rfl ⟨Nat.le_of_ble_eq_true rfl, Nat.le_of_ble_eq_true rfl⟩ hI rfl hl.1 rfl (Nat.le_of_ble_eq_true rfl) dL_law_1048 ⟨(by have := hcap.1; show _ ≤ 601024; omega), (by have := hcap.2; show _ ≤ 7293034; omega)⟩) hI (fun H locs n5 hn5 hI => ?_)
  refine lv_istore (lv' := [(6, .int v4.1), (0, .ref x0), (1, .ref x1), (2, .ref x2), (3, .ref x3), (4, .ref x4), (5, .int x5)]) hx hb dL_law_1051 hl (by decide) rfl (fun ls hl => ?_)
  refine lv_aload_n hx hb dL_law_1053 rfl (lv_at hl 3 rfl) ?_
  refine lv_aload_n hx hb dL_law_1054 rfl (lv_at hl 1 rfl) ?_
  refine lv_iload hx hb dL_law_1055 (lv_at hl 6 rfl) ?_
  refine lv_iconst (v := (1 : Int32)) hx hb dL_law_1057 (by decide) ?_
  refine lv_iadd hx hb dL_law_1058 ?_
  obtain ⟨v6, ev6, hq⟩ := b_s hq
  refine fs_li hx hb hI ev6 dL_law_1059 ?_
  refine lv_aload_n hx hb dL_law_1060 rfl (lv_at hl 1 rfl) ?_
  refine lv_iload hx hb dL_law_1061 (lv_at hl 6 rfl) ?_
  refine lv_iconst (v := (2 : Int32)) hx hb dL_law_1063 (by decide) ?_
  refine lv_iadd hx hb dL_law_1064 ?_
  obtain ⟨v7, ev7, hq⟩ := b_s hq
  refine fs_li hx hb hI ev7 dL_law_1065 ?_
  refine lv_aload_n hx hb dL_law_1066 rfl (lv_at hl 1 rfl) ?_
  refine lv_iload hx hb dL_law_1067 (lv_at hl 6 rfl) ?_
  refine lv_iconst (v := (3 : Int32)) hx hb dL_law_1069 (by decide) ?_
  refine lv_iadd hx hb dL_law_1070 ?_
  obtain ⟨v8, ev8, hq⟩ := b_s hq
  refine fs_li hx hb hI ev8 dL_law_1071 ?_
  obtain ⟨v9, ev9, hq⟩ := b_s hq
  refine gw_i (g_runV (As := [.int v6, .int v7, .int v8]) (rest := []) (ci := 10) hC (c_X8_stickStart l V g D cT v4.2 n5 x2 v6 v7 v8 v9 ev9) k_X8_stickStart m_1732 rfl rfl ⟨Nat.le_of_ble_eq_true rfl, Nat.le_of_ble_eq_true rfl⟩ hI rfl rfl (h_me_eq ev9).1 rfl hl.1 rfl (Nat.le_of_ble_eq_true rfl) dL_law_1072 ⟨(by have := hcap.1; show _ ≤ 601024; omega), (by have := hcap.2; show _ ≤ 7293034; omega)⟩) hI (fun H locs hI => ?_)
  refine lv_istore (lv' := [(7, .int v9.1), (6, .int v4.1), (0, .ref x0), (1, .ref x1), (2, .ref x2), (3, .ref x3), (4, .ref x4), (5, .int x5)]) hx hb dL_law_1075 hl (by decide) rfl (fun ls hl => ?_)
  refine lv_aload_n hx hb dL_law_1077 rfl (lv_at hl 4 rfl) ?_
  obtain ⟨v10, ev10, hq⟩ := b_s hq
  refine gr_i (g_runV (As := []) (rest := []) (ci := 10) hC (c_X8_thrown l V g D cT v9.2 n5 x2 v10 ev10) k_X8_thrown m_1610 rfl rfl ⟨Nat.le_of_ble_eq_true rfl, Nat.le_of_ble_eq_true rfl⟩ hI rfl rfl (h_me_eq ev10).1 rfl hl.1 rfl (Nat.le_of_ble_eq_true rfl) dL_law_1078 ⟨(by have := hcap.1; show _ ≤ 601024; omega), (by have := hcap.2; show _ ≤ 7293034; omega)⟩) hI (fun H locs hI => ?_)
  refine lv_iload hx hb dL_law_1081 (lv_at hl 1 rfl) ?_
  refine lv_icmp_eq (tgt := 1088) hx hb dL_law_1083 (by decide) (fun c11 => ?_) (fun c11 => ?_)
  · replace hq := i_t c11 hq
    refine lv_iload hx hb dL_law_1088 (lv_at hl 1 rfl) ?_
    refine lv_if_ne (tgt := 1105) hx hb dL_law_1090 (by decide) (fun c12 => ?_) (fun c12 => ?_)
    · replace hq := i_f c12 hq
      refine lv_goto (tgt := 3637) hx hb dL_law_1105 (by decide) ?_
      obtain rfl := Option.some.inj hq
      refine W.widen (k := cells + 17) (n := slots + 3206) (by omega) (by omega) ?_
      exact kk _ _ _ _ (by omega) hI (lv_sub hl [2, 3, 4, 5, 6, 7] rfl)
    · replace hq := i_t c12 hq
      refine lv_aload_n hx hb dL_law_1093 rfl (lv_at hl 5 rfl) ?_
      refine lv_iconst (v := (0 : Int32)) hx hb dL_law_1094 (by decide) ?_
      obtain ⟨v13, ev13, hq⟩ := b_s hq
      refine fa_ll hx hb hI ev13 dL_law_1095 ?_
      refine lv_iload hx hb dL_law_1096 (lv_at hl 0 rfl) ?_
      refine lv_i2l (v := v9.1.toInt64) hx hb dL_law_1098 rfl ?_
      refine lv_lcmpN hx hb dL_law_1099 ?_
      refine lv_if_eq (tgt := 1105) hx hb dL_law_1100 (by decide) (fun c14 => ?_) (fun c14 => ?_)
      · replace hq := i_t c14 hq
        refine lv_goto (tgt := 3637) hx hb dL_law_1105 (by decide) ?_
        obtain rfl := Option.some.inj hq
        refine W.widen (k := cells + 17) (n := slots + 3206) (by omega) (by omega) ?_
        exact kk _ _ _ _ (by omega) hI (lv_sub hl [2, 3, 4, 5, 6, 7] rfl)
      · replace hq := i_f c14 hq
        refine lv_iconst (v := (0 : Int32)) hx hb dL_law_1103 (by decide) ?_
        cases hq
  · replace hq := i_f c11 hq
    refine lv_iconst (v := (0 : Int32)) hx hb dL_law_1086 (by decide) ?_
    cases hq

set_option maxHeartbeats 4000000 in
set_option maxRecDepth 100000 in
theorem cs_15 {p : Program} {l : Launch} {e : Env} {s : State} {m : MethodId} {args : Array Value} {below : List Frame} {meth : Method} {c : Code} {V : Nat → Nat} {g : GH} {D : va_G} {cT : Nat → ClassId} (hl0 : l.stackTraces = false) (hx : p.tables.exec = Jvm.exec) (hb : c.code = cL_law) (hC : CallFix p m c cL_law 9 s args g_B RL) {Q : State → Prop} {f : GH} {n : Nat} (x0 x1 x2 x3 x4 : Nat) (x5 : Int32) {f1 : GH} (hq : p_case_15 V g f n x0 x1 x2 x3 x4 x5 = some f1) {H : Heap} {locs : List Loc} {cells slots : Nat} {ls : Array Slot} (hcap : cells + 17 ≤ 601024 ∧ slots + 3206 ≤ 7293034) (hI : g_at (g_A V) V g D cT f n s H locs) (hl : lv_has ls 9 [(0, .ref x0), (1, .ref x1), (2, .ref x2), (3, .ref x3), (4, .ref x4), (5, .int x5)])
    (kk : ∀ (H : Heap) (locs : List Loc) (ls : Array Slot) (n1 : Nat), n ≤ n1 → g_at (g_A V) V g D cT f1 n1 s H locs → lv_has ls 9 [(0, .ref x0), (1, .ref x1), (2, .ref x2), (3, .ref x3), (4, .ref x4), (5, .int x5)] → W p l e room_1 s m args below meth c H locs (cells + 17) (slots + 3206) Q (F0 m 3637 ls [])) : W p l e room_1 s m args below meth c H locs cells slots Q (F0 m 1108 ls []) := by
  obtain ⟨_, _, hml, hown, hB⟩ := id hC
  unfold p_case_15 at hq
  refine lv_aload_n hx hb dL_law_1108 rfl (lv_at hl 1 rfl) ?_
  refine lv_aload_n hx hb dL_law_1109 rfl (lv_at hl 0 rfl) ?_
  refine lv_iload hx hb dL_law_1110 (lv_at hl 5 rfl) ?_
  refine lv_iconst (v := (1 : Int32)) hx hb dL_law_1112 (by decide) ?_
  refine lv_iadd hx hb dL_law_1113 ?_
  obtain ⟨v1, ev1, hq⟩ := b_s hq
  refine fs_li hx hb hI ev1 dL_law_1114 ?_
  refine lv_aload_n hx hb dL_law_1115 rfl (lv_at hl 0 rfl) ?_
  refine lv_iload hx hb dL_law_1116 (lv_at hl 5 rfl) ?_
  refine lv_iconst (v := (2 : Int32)) hx hb dL_law_1118 (by decide) ?_
  refine lv_iadd hx hb dL_law_1119 ?_
  obtain ⟨v2, ev2, hq⟩ := b_s hq
  refine fs_li hx hb hI ev2 dL_law_1120 ?_
  refine lv_aload_n hx hb dL_law_1121 rfl (lv_at hl 0 rfl) ?_
  refine lv_iload hx hb dL_law_1122 (lv_at hl 5 rfl) ?_
  refine lv_iconst (v := (3 : Int32)) hx hb dL_law_1124 (by decide) ?_
  refine lv_iadd hx hb dL_law_1125 ?_
  obtain ⟨v3, ev3, hq⟩ := b_s hq
  refine fs_li hx hb hI ev3 dL_law_1126 ?_
  refine lv_aload_n hx hb dL_law_1127 rfl (lv_at hl 3 rfl) ?_
  obtain ⟨v4, ev4, hq⟩ := b_s hq
  refine gl_i (g_runSW (As := [.ref x1, .int v1, .int v2, .int v3, .ref x3]) (rest := []) hC (c_L_stickLength l hl0 V g D cT f n x1 v1 v2 v3 x3 v4 ev4) k_L_stickLength m_852 rfl rfl ⟨Nat.le_of_ble_eq_true rfl, Nat.le_of_ble_eq_true rfl⟩ hI rfl hl.1 rfl (Nat.le_of_ble_eq_true rfl) dL_law_1128 ⟨(by have := hcap.1; show _ ≤ 601024; omega), (by have := hcap.2; show _ ≤ 7293034; omega)⟩) hI (fun H locs n5 hn5 hI => ?_)
  refine lv_istore (lv' := [(6, .int v4.1), (0, .ref x0), (1, .ref x1), (2, .ref x2), (3, .ref x3), (4, .ref x4), (5, .int x5)]) hx hb dL_law_1131 hl (by decide) rfl (fun ls hl => ?_)
  refine lv_aload_n hx hb dL_law_1133 rfl (lv_at hl 3 rfl) ?_
  refine lv_aload_n hx hb dL_law_1134 rfl (lv_at hl 1 rfl) ?_
  refine lv_iload hx hb dL_law_1135 (lv_at hl 6 rfl) ?_
  refine lv_iconst (v := (1 : Int32)) hx hb dL_law_1137 (by decide) ?_
  refine lv_iadd hx hb dL_law_1138 ?_
  obtain ⟨v6, ev6, hq⟩ := b_s hq
  refine fs_li hx hb hI ev6 dL_law_1139 ?_
  refine lv_aload_n hx hb dL_law_1140 rfl (lv_at hl 1 rfl) ?_
  refine lv_iload hx hb dL_law_1141 (lv_at hl 6 rfl) ?_
  refine lv_iconst (v := (2 : Int32)) hx hb dL_law_1143 (by decide) ?_
  refine lv_iadd hx hb dL_law_1144 ?_
  obtain ⟨v7, ev7, hq⟩ := b_s hq
  refine fs_li hx hb hI ev7 dL_law_1145 ?_
  refine lv_aload_n hx hb dL_law_1146 rfl (lv_at hl 1 rfl) ?_
  refine lv_iload hx hb dL_law_1147 (lv_at hl 6 rfl) ?_
  refine lv_iconst (v := (3 : Int32)) hx hb dL_law_1149 (by decide) ?_
  refine lv_iadd hx hb dL_law_1150 ?_
  obtain ⟨v8, ev8, hq⟩ := b_s hq
  refine fs_li hx hb hI ev8 dL_law_1151 ?_
  obtain ⟨v9, ev9, hq⟩ := b_s hq
  refine gw_i (g_runV (As := [.int v6, .int v7, .int v8]) (rest := []) (ci := 10) hC (c_X8_stickLength l V g D cT v4.2 n5 x2 v6 v7 v8 v9 ev9) k_X8_stickLength m_1740 rfl rfl ⟨Nat.le_of_ble_eq_true rfl, Nat.le_of_ble_eq_true rfl⟩ hI rfl rfl (h_me_eq ev9).1 rfl hl.1 rfl (Nat.le_of_ble_eq_true rfl) dL_law_1152 ⟨(by have := hcap.1; show _ ≤ 601024; omega), (by have := hcap.2; show _ ≤ 7293034; omega)⟩) hI (fun H locs hI => ?_)
  refine lv_istore (lv' := [(7, .int v9.1), (6, .int v4.1), (0, .ref x0), (1, .ref x1), (2, .ref x2), (3, .ref x3), (4, .ref x4), (5, .int x5)]) hx hb dL_law_1155 hl (by decide) rfl (fun ls hl => ?_)
  refine lv_aload_n hx hb dL_law_1157 rfl (lv_at hl 4 rfl) ?_
  obtain ⟨v10, ev10, hq⟩ := b_s hq
  refine gr_i (g_runV (As := []) (rest := []) (ci := 10) hC (c_X8_thrown l V g D cT v9.2 n5 x2 v10 ev10) k_X8_thrown m_1610 rfl rfl ⟨Nat.le_of_ble_eq_true rfl, Nat.le_of_ble_eq_true rfl⟩ hI rfl rfl (h_me_eq ev10).1 rfl hl.1 rfl (Nat.le_of_ble_eq_true rfl) dL_law_1158 ⟨(by have := hcap.1; show _ ≤ 601024; omega), (by have := hcap.2; show _ ≤ 7293034; omega)⟩) hI (fun H locs hI => ?_)
  refine lv_iload hx hb dL_law_1161 (lv_at hl 1 rfl) ?_
  refine lv_icmp_eq (tgt := 1168) hx hb dL_law_1163 (by decide) (fun c11 => ?_) (fun c11 => ?_)
  · replace hq := i_t c11 hq
    refine lv_iload hx hb dL_law_1168 (lv_at hl 1 rfl) ?_
    refine lv_if_ne (tgt := 1185) hx hb dL_law_1170 (by decide) (fun c12 => ?_) (fun c12 => ?_)
    · replace hq := i_f c12 hq
      refine lv_goto (tgt := 3637) hx hb dL_law_1185 (by decide) ?_
      obtain rfl := Option.some.inj hq
      refine W.widen (k := cells + 17) (n := slots + 3206) (by omega) (by omega) ?_
      exact kk _ _ _ _ (by omega) hI (lv_sub hl [2, 3, 4, 5, 6, 7] rfl)
    · replace hq := i_t c12 hq
      refine lv_aload_n hx hb dL_law_1173 rfl (lv_at hl 5 rfl) ?_
      refine lv_iconst (v := (0 : Int32)) hx hb dL_law_1174 (by decide) ?_
      obtain ⟨v13, ev13, hq⟩ := b_s hq
      refine fa_ll hx hb hI ev13 dL_law_1175 ?_
      refine lv_iload hx hb dL_law_1176 (lv_at hl 0 rfl) ?_
      refine lv_i2l (v := v9.1.toInt64) hx hb dL_law_1178 rfl ?_
      refine lv_lcmpN hx hb dL_law_1179 ?_
      refine lv_if_eq (tgt := 1185) hx hb dL_law_1180 (by decide) (fun c14 => ?_) (fun c14 => ?_)
      · replace hq := i_t c14 hq
        refine lv_goto (tgt := 3637) hx hb dL_law_1185 (by decide) ?_
        obtain rfl := Option.some.inj hq
        refine W.widen (k := cells + 17) (n := slots + 3206) (by omega) (by omega) ?_
        exact kk _ _ _ _ (by omega) hI (lv_sub hl [2, 3, 4, 5, 6, 7] rfl)
      · replace hq := i_f c14 hq
        refine lv_iconst (v := (0 : Int32)) hx hb dL_law_1183 (by decide) ?_
        cases hq
  · replace hq := i_f c11 hq
    refine lv_iconst (v := (0 : Int32)) hx hb dL_law_1166 (by decide) ?_
    cases hq

set_option maxHeartbeats 4000000 in
set_option maxRecDepth 100000 in
theorem cs_16 {p : Program} {l : Launch} {e : Env} {s : State} {m : MethodId} {args : Array Value} {below : List Frame} {meth : Method} {c : Code} {V : Nat → Nat} {g : GH} {D : va_G} {cT : Nat → ClassId} (hl0 : l.stackTraces = false) (hx : p.tables.exec = Jvm.exec) (hb : c.code = cL_law) (hC : CallFix p m c cL_law 9 s args g_B RL) {Q : State → Prop} {f : GH} {n : Nat} (x0 x1 x2 x3 x4 : Nat) (x5 : Int32) {f1 : GH} (hq : p_case_16 V g f n x0 x1 x2 x3 x4 x5 = some f1) {H : Heap} {locs : List Loc} {cells slots : Nat} {ls : Array Slot} (hcap : cells + 17 ≤ 601024 ∧ slots + 3206 ≤ 7293034) (hI : g_at (g_A V) V g D cT f n s H locs) (hl : lv_has ls 9 [(0, .ref x0), (1, .ref x1), (2, .ref x2), (3, .ref x3), (4, .ref x4), (5, .int x5)])
    (kk : ∀ (H : Heap) (locs : List Loc) (ls : Array Slot) (n1 : Nat), n ≤ n1 → g_at (g_A V) V g D cT f1 n1 s H locs → lv_has ls 9 [(0, .ref x0), (1, .ref x1), (2, .ref x2), (3, .ref x3), (4, .ref x4), (5, .int x5)] → W p l e room_1 s m args below meth c H locs (cells + 17) (slots + 3206) Q (F0 m 3637 ls [])) : W p l e room_1 s m args below meth c H locs cells slots Q (F0 m 1188 ls []) := by
  obtain ⟨_, _, hml, hown, hB⟩ := id hC
  unfold p_case_16 at hq
  refine lv_aload_n hx hb dL_law_1188 rfl (lv_at hl 1 rfl) ?_
  refine lv_aload_n hx hb dL_law_1189 rfl (lv_at hl 0 rfl) ?_
  refine lv_iload hx hb dL_law_1190 (lv_at hl 5 rfl) ?_
  refine lv_iconst (v := (1 : Int32)) hx hb dL_law_1192 (by decide) ?_
  refine lv_iadd hx hb dL_law_1193 ?_
  obtain ⟨v1, ev1, hq⟩ := b_s hq
  refine fs_li hx hb hI ev1 dL_law_1194 ?_
  refine lv_aload_n hx hb dL_law_1195 rfl (lv_at hl 0 rfl) ?_
  refine lv_iload hx hb dL_law_1196 (lv_at hl 5 rfl) ?_
  refine lv_iconst (v := (2 : Int32)) hx hb dL_law_1198 (by decide) ?_
  refine lv_iadd hx hb dL_law_1199 ?_
  obtain ⟨v2, ev2, hq⟩ := b_s hq
  refine fs_li hx hb hI ev2 dL_law_1200 ?_
  refine lv_aload_n hx hb dL_law_1201 rfl (lv_at hl 3 rfl) ?_
  obtain ⟨v3, ev3, hq⟩ := b_s hq
  refine gl_i (g_runSW (As := [.ref x1, .int v1, .int v2, .ref x3]) (rest := []) hC (c_L_longestStick l hl0 V g D cT f n x1 v1 v2 x3 v3 ev3) k_L_longestStick m_860 rfl rfl ⟨Nat.le_of_ble_eq_true rfl, Nat.le_of_ble_eq_true rfl⟩ hI rfl hl.1 rfl (Nat.le_of_ble_eq_true rfl) dL_law_1202 ⟨(by have := hcap.1; show _ ≤ 601024; omega), (by have := hcap.2; show _ ≤ 7293034; omega)⟩) hI (fun H locs n4 hn4 hI => ?_)
  refine lv_istore (lv' := [(6, .int v3.1), (0, .ref x0), (1, .ref x1), (2, .ref x2), (3, .ref x3), (4, .ref x4), (5, .int x5)]) hx hb dL_law_1205 hl (by decide) rfl (fun ls hl => ?_)
  refine lv_aload_n hx hb dL_law_1207 rfl (lv_at hl 3 rfl) ?_
  refine lv_aload_n hx hb dL_law_1208 rfl (lv_at hl 1 rfl) ?_
  refine lv_iload hx hb dL_law_1209 (lv_at hl 6 rfl) ?_
  refine lv_iconst (v := (1 : Int32)) hx hb dL_law_1211 (by decide) ?_
  refine lv_iadd hx hb dL_law_1212 ?_
  obtain ⟨v5, ev5, hq⟩ := b_s hq
  refine fs_li hx hb hI ev5 dL_law_1213 ?_
  refine lv_aload_n hx hb dL_law_1214 rfl (lv_at hl 1 rfl) ?_
  refine lv_iload hx hb dL_law_1215 (lv_at hl 6 rfl) ?_
  refine lv_iconst (v := (2 : Int32)) hx hb dL_law_1217 (by decide) ?_
  refine lv_iadd hx hb dL_law_1218 ?_
  obtain ⟨v6, ev6, hq⟩ := b_s hq
  refine fs_li hx hb hI ev6 dL_law_1219 ?_
  obtain ⟨v7, ev7, hq⟩ := b_s hq
  refine gw_i (g_runV (As := [.int v5, .int v6]) (rest := []) (ci := 10) hC (c_X8_longestStick l V g D cT v3.2 n4 x2 v5 v6 v7 ev7) k_X8_longestStick m_1744 rfl rfl ⟨Nat.le_of_ble_eq_true rfl, Nat.le_of_ble_eq_true rfl⟩ hI rfl rfl (h_me_eq ev7).1 rfl hl.1 rfl (Nat.le_of_ble_eq_true rfl) dL_law_1220 ⟨(by have := hcap.1; show _ ≤ 601024; omega), (by have := hcap.2; show _ ≤ 7293034; omega)⟩) hI (fun H locs hI => ?_)
  refine lv_istore (lv' := [(7, .int v7.1), (6, .int v3.1), (0, .ref x0), (1, .ref x1), (2, .ref x2), (3, .ref x3), (4, .ref x4), (5, .int x5)]) hx hb dL_law_1223 hl (by decide) rfl (fun ls hl => ?_)
  refine lv_aload_n hx hb dL_law_1225 rfl (lv_at hl 4 rfl) ?_
  obtain ⟨v8, ev8, hq⟩ := b_s hq
  refine gr_i (g_runV (As := []) (rest := []) (ci := 10) hC (c_X8_thrown l V g D cT v7.2 n4 x2 v8 ev8) k_X8_thrown m_1610 rfl rfl ⟨Nat.le_of_ble_eq_true rfl, Nat.le_of_ble_eq_true rfl⟩ hI rfl rfl (h_me_eq ev8).1 rfl hl.1 rfl (Nat.le_of_ble_eq_true rfl) dL_law_1226 ⟨(by have := hcap.1; show _ ≤ 601024; omega), (by have := hcap.2; show _ ≤ 7293034; omega)⟩) hI (fun H locs hI => ?_)
  refine lv_iload hx hb dL_law_1229 (lv_at hl 1 rfl) ?_
  refine lv_icmp_eq (tgt := 1236) hx hb dL_law_1231 (by decide) (fun c9 => ?_) (fun c9 => ?_)
  · replace hq := i_t c9 hq
    refine lv_iload hx hb dL_law_1236 (lv_at hl 1 rfl) ?_
    refine lv_if_ne (tgt := 1253) hx hb dL_law_1238 (by decide) (fun c10 => ?_) (fun c10 => ?_)
    · replace hq := i_f c10 hq
      refine lv_goto (tgt := 3637) hx hb dL_law_1253 (by decide) ?_
      obtain rfl := Option.some.inj hq
      refine W.widen (k := cells + 17) (n := slots + 3206) (by omega) (by omega) ?_
      exact kk _ _ _ _ (by omega) hI (lv_sub hl [2, 3, 4, 5, 6, 7] rfl)
    · replace hq := i_t c10 hq
      refine lv_aload_n hx hb dL_law_1241 rfl (lv_at hl 5 rfl) ?_
      refine lv_iconst (v := (0 : Int32)) hx hb dL_law_1242 (by decide) ?_
      obtain ⟨v11, ev11, hq⟩ := b_s hq
      refine fa_ll hx hb hI ev11 dL_law_1243 ?_
      refine lv_iload hx hb dL_law_1244 (lv_at hl 0 rfl) ?_
      refine lv_i2l (v := v7.1.toInt64) hx hb dL_law_1246 rfl ?_
      refine lv_lcmpN hx hb dL_law_1247 ?_
      refine lv_if_eq (tgt := 1253) hx hb dL_law_1248 (by decide) (fun c12 => ?_) (fun c12 => ?_)
      · replace hq := i_t c12 hq
        refine lv_goto (tgt := 3637) hx hb dL_law_1253 (by decide) ?_
        obtain rfl := Option.some.inj hq
        refine W.widen (k := cells + 17) (n := slots + 3206) (by omega) (by omega) ?_
        exact kk _ _ _ _ (by omega) hI (lv_sub hl [2, 3, 4, 5, 6, 7] rfl)
      · replace hq := i_f c12 hq
        refine lv_iconst (v := (0 : Int32)) hx hb dL_law_1251 (by decide) ?_
        cases hq
  · replace hq := i_f c9 hq
    refine lv_iconst (v := (0 : Int32)) hx hb dL_law_1234 (by decide) ?_
    cases hq


set_option maxHeartbeats 4000000 in
set_option maxRecDepth 100000 in
theorem cs_17 {p : Program} {l : Launch} {e : Env} {s : State} {m : MethodId} {args : Array Value} {below : List Frame} {meth : Method} {c : Code} {V : Nat → Nat} {g : GH} {D : va_G} {cT : Nat → ClassId} (hl0 : l.stackTraces = false) (hx : p.tables.exec = Jvm.exec) (hb : c.code = cL_law) (hC : CallFix p m c cL_law 9 s args g_B RL) {Q : State → Prop} {f : GH} {n : Nat} (x0 x1 x2 x3 x4 : Nat) (x5 : Int32) {f1 : GH} (hq : p_case_17 V g f n x0 x1 x2 x3 x4 x5 = some f1) {H : Heap} {locs : List Loc} {cells slots : Nat} {ls : Array Slot} (hcap : cells + 17 ≤ 601024 ∧ slots + 3206 ≤ 7293034) (hI : g_at (g_A V) V g D cT f n s H locs) (hl : lv_has ls 9 [(0, .ref x0), (1, .ref x1), (2, .ref x2), (3, .ref x3), (4, .ref x4), (5, .int x5)])
    (kk : ∀ (H : Heap) (locs : List Loc) (ls : Array Slot) (n1 : Nat), n ≤ n1 → g_at (g_A V) V g D cT f1 n1 s H locs → lv_has ls 9 [(0, .ref x0), (1, .ref x1), (2, .ref x2), (3, .ref x3), (4, .ref x4), (5, .int x5)] → W p l e room_1 s m args below meth c H locs (cells + 17) (slots + 3206) Q (F0 m 3637 ls [])) : W p l e room_1 s m args below meth c H locs cells slots Q (F0 m 1256 ls []) := by
  obtain ⟨_, _, hml, hown, hB⟩ := id hC
  unfold p_case_17 at hq
  refine lv_aload_n hx hb dL_law_1256 rfl (lv_at hl 1 rfl) ?_
  refine lv_aload_n hx hb dL_law_1257 rfl (lv_at hl 0 rfl) ?_
  refine lv_iload hx hb dL_law_1258 (lv_at hl 5 rfl) ?_
  refine lv_iconst (v := (1 : Int32)) hx hb dL_law_1260 (by decide) ?_
  refine lv_iadd hx hb dL_law_1261 ?_
  obtain ⟨v1, ev1, hq⟩ := b_s hq
  refine fs_li hx hb hI ev1 dL_law_1262 ?_
  refine lv_aload_n hx hb dL_law_1263 rfl (lv_at hl 0 rfl) ?_
  refine lv_iload hx hb dL_law_1264 (lv_at hl 5 rfl) ?_
  refine lv_iconst (v := (2 : Int32)) hx hb dL_law_1266 (by decide) ?_
  refine lv_iadd hx hb dL_law_1267 ?_
  obtain ⟨v2, ev2, hq⟩ := b_s hq
  refine fs_li hx hb hI ev2 dL_law_1268 ?_
  refine lv_aload_n hx hb dL_law_1269 rfl (lv_at hl 3 rfl) ?_
  obtain ⟨v3, ev3, hq⟩ := b_s hq
  refine gl_i (g_runSW (As := [.ref x1, .int v1, .int v2, .ref x3]) (rest := []) hC (c_L_lengthGain l hl0 V g D cT f n x1 v1 v2 x3 v3 ev3) k_L_lengthGain m_867 rfl rfl ⟨Nat.le_of_ble_eq_true rfl, Nat.le_of_ble_eq_true rfl⟩ hI rfl hl.1 rfl (Nat.le_of_ble_eq_true rfl) dL_law_1270 ⟨(by have := hcap.1; show _ ≤ 601024; omega), (by have := hcap.2; show _ ≤ 7293034; omega)⟩) hI (fun H locs n4 hn4 hI => ?_)
  refine lv_istore (lv' := [(6, .int v3.1), (0, .ref x0), (1, .ref x1), (2, .ref x2), (3, .ref x3), (4, .ref x4), (5, .int x5)]) hx hb dL_law_1273 hl (by decide) rfl (fun ls hl => ?_)
  refine lv_aload_n hx hb dL_law_1275 rfl (lv_at hl 3 rfl) ?_
  refine lv_aload_n hx hb dL_law_1276 rfl (lv_at hl 1 rfl) ?_
  refine lv_iload hx hb dL_law_1277 (lv_at hl 6 rfl) ?_
  refine lv_iconst (v := (1 : Int32)) hx hb dL_law_1279 (by decide) ?_
  refine lv_iadd hx hb dL_law_1280 ?_
  obtain ⟨v5, ev5, hq⟩ := b_s hq
  refine fs_li hx hb hI ev5 dL_law_1281 ?_
  refine lv_aload_n hx hb dL_law_1282 rfl (lv_at hl 1 rfl) ?_
  refine lv_iload hx hb dL_law_1283 (lv_at hl 6 rfl) ?_
  refine lv_iconst (v := (2 : Int32)) hx hb dL_law_1285 (by decide) ?_
  refine lv_iadd hx hb dL_law_1286 ?_
  obtain ⟨v6, ev6, hq⟩ := b_s hq
  refine fs_li hx hb hI ev6 dL_law_1287 ?_
  obtain ⟨v7, ev7, hq⟩ := b_s hq
  refine gw_i (g_runV (As := [.int v5, .int v6]) (rest := []) (ci := 10) hC (c_X8_lengthGain l V g D cT v3.2 n4 x2 v5 v6 v7 ev7) k_X8_lengthGain m_1748 rfl rfl ⟨Nat.le_of_ble_eq_true rfl, Nat.le_of_ble_eq_true rfl⟩ hI rfl rfl (h_me_eq ev7).1 rfl hl.1 rfl (Nat.le_of_ble_eq_true rfl) dL_law_1288 ⟨(by have := hcap.1; show _ ≤ 601024; omega), (by have := hcap.2; show _ ≤ 7293034; omega)⟩) hI (fun H locs hI => ?_)
  refine lv_istore (lv' := [(7, .int v7.1), (6, .int v3.1), (0, .ref x0), (1, .ref x1), (2, .ref x2), (3, .ref x3), (4, .ref x4), (5, .int x5)]) hx hb dL_law_1291 hl (by decide) rfl (fun ls hl => ?_)
  refine lv_aload_n hx hb dL_law_1293 rfl (lv_at hl 4 rfl) ?_
  obtain ⟨v8, ev8, hq⟩ := b_s hq
  refine gr_i (g_runV (As := []) (rest := []) (ci := 10) hC (c_X8_thrown l V g D cT v7.2 n4 x2 v8 ev8) k_X8_thrown m_1610 rfl rfl ⟨Nat.le_of_ble_eq_true rfl, Nat.le_of_ble_eq_true rfl⟩ hI rfl rfl (h_me_eq ev8).1 rfl hl.1 rfl (Nat.le_of_ble_eq_true rfl) dL_law_1294 ⟨(by have := hcap.1; show _ ≤ 601024; omega), (by have := hcap.2; show _ ≤ 7293034; omega)⟩) hI (fun H locs hI => ?_)
  refine lv_iload hx hb dL_law_1297 (lv_at hl 1 rfl) ?_
  refine lv_icmp_eq (tgt := 1304) hx hb dL_law_1299 (by decide) (fun c9 => ?_) (fun c9 => ?_)
  · replace hq := i_t c9 hq
    refine lv_iload hx hb dL_law_1304 (lv_at hl 1 rfl) ?_
    refine lv_if_ne (tgt := 1321) hx hb dL_law_1306 (by decide) (fun c10 => ?_) (fun c10 => ?_)
    · replace hq := i_f c10 hq
      refine lv_goto (tgt := 3637) hx hb dL_law_1321 (by decide) ?_
      obtain rfl := Option.some.inj hq
      refine W.widen (k := cells + 17) (n := slots + 3206) (by omega) (by omega) ?_
      exact kk _ _ _ _ (by omega) hI (lv_sub hl [2, 3, 4, 5, 6, 7] rfl)
    · replace hq := i_t c10 hq
      refine lv_aload_n hx hb dL_law_1309 rfl (lv_at hl 5 rfl) ?_
      refine lv_iconst (v := (0 : Int32)) hx hb dL_law_1310 (by decide) ?_
      obtain ⟨v11, ev11, hq⟩ := b_s hq
      refine fa_ll hx hb hI ev11 dL_law_1311 ?_
      refine lv_iload hx hb dL_law_1312 (lv_at hl 0 rfl) ?_
      refine lv_i2l (v := v7.1.toInt64) hx hb dL_law_1314 rfl ?_
      refine lv_lcmpN hx hb dL_law_1315 ?_
      refine lv_if_eq (tgt := 1321) hx hb dL_law_1316 (by decide) (fun c12 => ?_) (fun c12 => ?_)
      · replace hq := i_t c12 hq
        refine lv_goto (tgt := 3637) hx hb dL_law_1321 (by decide) ?_
        obtain rfl := Option.some.inj hq
        refine W.widen (k := cells + 17) (n := slots + 3206) (by omega) (by omega) ?_
        exact kk _ _ _ _ (by omega) hI (lv_sub hl [2, 3, 4, 5, 6, 7] rfl)
      · replace hq := i_f c12 hq
        refine lv_iconst (v := (0 : Int32)) hx hb dL_law_1319 (by decide) ?_
        cases hq
  · replace hq := i_f c9 hq
    refine lv_iconst (v := (0 : Int32)) hx hb dL_law_1302 (by decide) ?_
    cases hq

set_option maxHeartbeats 4000000 in
set_option maxRecDepth 100000 in
theorem cs_18 {p : Program} {l : Launch} {e : Env} {s : State} {m : MethodId} {args : Array Value} {below : List Frame} {meth : Method} {c : Code} {V : Nat → Nat} {g : GH} {D : va_G} {cT : Nat → ClassId} (hl0 : l.stackTraces = false) (hx : p.tables.exec = Jvm.exec) (hb : c.code = cL_law) (hC : CallFix p m c cL_law 9 s args g_B RL) {Q : State → Prop} {f : GH} {n : Nat} (x0 x1 x2 x3 x4 : Nat) (x5 : Int32) {f1 : GH} (hq : p_case_18 V g f n x0 x1 x2 x3 x4 x5 = some f1) {H : Heap} {locs : List Loc} {cells slots : Nat} {ls : Array Slot} (hcap : cells + 17 ≤ 601024 ∧ slots + 3206 ≤ 7293034) (hI : g_at (g_A V) V g D cT f n s H locs) (hl : lv_has ls 9 [(0, .ref x0), (1, .ref x1), (2, .ref x2), (3, .ref x3), (4, .ref x4), (5, .int x5)])
    (kk : ∀ (H : Heap) (locs : List Loc) (ls : Array Slot) (n1 : Nat), n ≤ n1 → g_at (g_A V) V g D cT f1 n1 s H locs → lv_has ls 9 [(0, .ref x0), (1, .ref x1), (2, .ref x2), (3, .ref x3), (4, .ref x4), (5, .int x5)] → W p l e room_1 s m args below meth c H locs (cells + 17) (slots + 3206) Q (F0 m 3637 ls [])) : W p l e room_1 s m args below meth c H locs cells slots Q (F0 m 1324 ls []) := by
  obtain ⟨_, _, hml, hown, hB⟩ := id hC
  unfold p_case_18 at hq
  refine lv_aload_n hx hb dL_law_1324 rfl (lv_at hl 1 rfl) ?_
  refine lv_aload_n hx hb dL_law_1325 rfl (lv_at hl 0 rfl) ?_
  refine lv_iload hx hb dL_law_1326 (lv_at hl 5 rfl) ?_
  refine lv_iconst (v := (1 : Int32)) hx hb dL_law_1328 (by decide) ?_
  refine lv_iadd hx hb dL_law_1329 ?_
  obtain ⟨v1, ev1, hq⟩ := b_s hq
  refine fs_li hx hb hI ev1 dL_law_1330 ?_
  refine lv_aload_n hx hb dL_law_1331 rfl (lv_at hl 3 rfl) ?_
  obtain ⟨v2, ev2, hq⟩ := b_s hq
  refine gl_i (g_runSW (As := [.ref x1, .int v1, .ref x3]) (rest := []) hC (c_L_levelOfGreatestGain l hl0 V g D cT f n x1 v1 x3 v2 ev2) k_L_levelOfGreatestGain m_879 rfl rfl ⟨Nat.le_of_ble_eq_true rfl, Nat.le_of_ble_eq_true rfl⟩ hI rfl hl.1 rfl (Nat.le_of_ble_eq_true rfl) dL_law_1332 ⟨(by have := hcap.1; show _ ≤ 601024; omega), (by have := hcap.2; show _ ≤ 7293034; omega)⟩) hI (fun H locs n3 hn3 hI => ?_)
  refine lv_istore (lv' := [(6, .int v2.1), (0, .ref x0), (1, .ref x1), (2, .ref x2), (3, .ref x3), (4, .ref x4), (5, .int x5)]) hx hb dL_law_1335 hl (by decide) rfl (fun ls hl => ?_)
  refine lv_aload_n hx hb dL_law_1337 rfl (lv_at hl 3 rfl) ?_
  refine lv_aload_n hx hb dL_law_1338 rfl (lv_at hl 1 rfl) ?_
  refine lv_iload hx hb dL_law_1339 (lv_at hl 6 rfl) ?_
  refine lv_iconst (v := (1 : Int32)) hx hb dL_law_1341 (by decide) ?_
  refine lv_iadd hx hb dL_law_1342 ?_
  obtain ⟨v4, ev4, hq⟩ := b_s hq
  refine fs_li hx hb hI ev4 dL_law_1343 ?_
  obtain ⟨v5, ev5, hq⟩ := b_s hq
  refine gw_i (g_runV (As := [.int v4]) (rest := []) (ci := 10) hC (c_X8_levelOfGreatestGain l V g D cT v2.2 n3 x2 v4 v5 ev5) k_X8_levelOfGreatestGain m_1759 rfl rfl ⟨Nat.le_of_ble_eq_true rfl, Nat.le_of_ble_eq_true rfl⟩ hI rfl rfl (h_me_eq ev5).1 rfl hl.1 rfl (Nat.le_of_ble_eq_true rfl) dL_law_1344 ⟨(by have := hcap.1; show _ ≤ 601024; omega), (by have := hcap.2; show _ ≤ 7293034; omega)⟩) hI (fun H locs hI => ?_)
  refine lv_istore (lv' := [(7, .int v5.1), (6, .int v2.1), (0, .ref x0), (1, .ref x1), (2, .ref x2), (3, .ref x3), (4, .ref x4), (5, .int x5)]) hx hb dL_law_1347 hl (by decide) rfl (fun ls hl => ?_)
  refine lv_aload_n hx hb dL_law_1349 rfl (lv_at hl 4 rfl) ?_
  obtain ⟨v6, ev6, hq⟩ := b_s hq
  refine gr_i (g_runV (As := []) (rest := []) (ci := 10) hC (c_X8_thrown l V g D cT v5.2 n3 x2 v6 ev6) k_X8_thrown m_1610 rfl rfl ⟨Nat.le_of_ble_eq_true rfl, Nat.le_of_ble_eq_true rfl⟩ hI rfl rfl (h_me_eq ev6).1 rfl hl.1 rfl (Nat.le_of_ble_eq_true rfl) dL_law_1350 ⟨(by have := hcap.1; show _ ≤ 601024; omega), (by have := hcap.2; show _ ≤ 7293034; omega)⟩) hI (fun H locs hI => ?_)
  refine lv_iload hx hb dL_law_1353 (lv_at hl 1 rfl) ?_
  refine lv_icmp_eq (tgt := 1360) hx hb dL_law_1355 (by decide) (fun c7 => ?_) (fun c7 => ?_)
  · replace hq := i_t c7 hq
    refine lv_iload hx hb dL_law_1360 (lv_at hl 1 rfl) ?_
    refine lv_if_ne (tgt := 1377) hx hb dL_law_1362 (by decide) (fun c8 => ?_) (fun c8 => ?_)
    · replace hq := i_f c8 hq
      refine lv_goto (tgt := 3637) hx hb dL_law_1377 (by decide) ?_
      obtain rfl := Option.some.inj hq
      refine W.widen (k := cells + 17) (n := slots + 3206) (by omega) (by omega) ?_
      exact kk _ _ _ _ (by omega) hI (lv_sub hl [2, 3, 4, 5, 6, 7] rfl)
    · replace hq := i_t c8 hq
      refine lv_aload_n hx hb dL_law_1365 rfl (lv_at hl 5 rfl) ?_
      refine lv_iconst (v := (0 : Int32)) hx hb dL_law_1366 (by decide) ?_
      obtain ⟨v9, ev9, hq⟩ := b_s hq
      refine fa_ll hx hb hI ev9 dL_law_1367 ?_
      refine lv_iload hx hb dL_law_1368 (lv_at hl 0 rfl) ?_
      refine lv_i2l (v := v5.1.toInt64) hx hb dL_law_1370 rfl ?_
      refine lv_lcmpN hx hb dL_law_1371 ?_
      refine lv_if_eq (tgt := 1377) hx hb dL_law_1372 (by decide) (fun c10 => ?_) (fun c10 => ?_)
      · replace hq := i_t c10 hq
        refine lv_goto (tgt := 3637) hx hb dL_law_1377 (by decide) ?_
        obtain rfl := Option.some.inj hq
        refine W.widen (k := cells + 17) (n := slots + 3206) (by omega) (by omega) ?_
        exact kk _ _ _ _ (by omega) hI (lv_sub hl [2, 3, 4, 5, 6, 7] rfl)
      · replace hq := i_f c10 hq
        refine lv_iconst (v := (0 : Int32)) hx hb dL_law_1375 (by decide) ?_
        cases hq
  · replace hq := i_f c7 hq
    refine lv_iconst (v := (0 : Int32)) hx hb dL_law_1358 (by decide) ?_
    cases hq

set_option maxHeartbeats 4000000 in
set_option maxRecDepth 100000 in
theorem cs_19 {p : Program} {l : Launch} {e : Env} {s : State} {m : MethodId} {args : Array Value} {below : List Frame} {meth : Method} {c : Code} {V : Nat → Nat} {g : GH} {D : va_G} {cT : Nat → ClassId} (hl0 : l.stackTraces = false) (hx : p.tables.exec = Jvm.exec) (hb : c.code = cL_law) (hC : CallFix p m c cL_law 9 s args g_B RL) {Q : State → Prop} {f : GH} {n : Nat} (x0 x1 x2 x3 x4 : Nat) (x5 : Int32) {f1 : GH} (hq : p_case_19 V g f n x0 x1 x2 x3 x4 x5 = some f1) {H : Heap} {locs : List Loc} {cells slots : Nat} {ls : Array Slot} (hcap : cells + 17 ≤ 601024 ∧ slots + 3206 ≤ 7293034) (hI : g_at (g_A V) V g D cT f n s H locs) (hl : lv_has ls 9 [(0, .ref x0), (1, .ref x1), (2, .ref x2), (3, .ref x3), (4, .ref x4), (5, .int x5)])
    (kk : ∀ (H : Heap) (locs : List Loc) (ls : Array Slot) (n1 : Nat), n ≤ n1 → g_at (g_A V) V g D cT f1 n1 s H locs → lv_has ls 9 [(0, .ref x0), (1, .ref x1), (2, .ref x2), (3, .ref x3), (4, .ref x4), (5, .int x5)] → W p l e room_1 s m args below meth c H locs (cells + 17) (slots + 3206) Q (F0 m 3637 ls [])) : W p l e room_1 s m args below meth c H locs cells slots Q (F0 m 1380 ls []) := by
  obtain ⟨_, _, hml, hown, hB⟩ := id hC
  unfold p_case_19 at hq
  refine lv_aload_n hx hb dL_law_1380 rfl (lv_at hl 1 rfl) ?_
  refine lv_aload_n hx hb dL_law_1381 rfl (lv_at hl 0 rfl) ?_
  refine lv_iload hx hb dL_law_1382 (lv_at hl 5 rfl) ?_
  refine lv_iconst (v := (1 : Int32)) hx hb dL_law_1384 (by decide) ?_
  refine lv_iadd hx hb dL_law_1385 ?_
  obtain ⟨v1, ev1, hq⟩ := b_s hq
  refine fs_li hx hb hI ev1 dL_law_1386 ?_
  refine lv_aload_n hx hb dL_law_1387 rfl (lv_at hl 0 rfl) ?_
  refine lv_iload hx hb dL_law_1388 (lv_at hl 5 rfl) ?_
  refine lv_iconst (v := (2 : Int32)) hx hb dL_law_1390 (by decide) ?_
  refine lv_iadd hx hb dL_law_1391 ?_
  obtain ⟨v2, ev2, hq⟩ := b_s hq
  refine fs_li hx hb hI ev2 dL_law_1392 ?_
  refine lv_aload_n hx hb dL_law_1393 rfl (lv_at hl 3 rfl) ?_
  obtain ⟨v3, ev3, hq⟩ := b_s hq
  refine gl_i (g_runSW (As := [.ref x1, .int v1, .int v2, .ref x3]) (rest := []) hC (c_L_coarsestLevelFor l hl0 V g D cT f n x1 v1 v2 x3 v3 ev3) k_L_coarsestLevelFor m_886 rfl rfl ⟨Nat.le_of_ble_eq_true rfl, Nat.le_of_ble_eq_true rfl⟩ hI rfl hl.1 rfl (Nat.le_of_ble_eq_true rfl) dL_law_1394 ⟨(by have := hcap.1; show _ ≤ 601024; omega), (by have := hcap.2; show _ ≤ 7293034; omega)⟩) hI (fun H locs n4 hn4 hI => ?_)
  refine lv_istore (lv' := [(6, .int v3.1), (0, .ref x0), (1, .ref x1), (2, .ref x2), (3, .ref x3), (4, .ref x4), (5, .int x5)]) hx hb dL_law_1397 hl (by decide) rfl (fun ls hl => ?_)
  refine lv_aload_n hx hb dL_law_1399 rfl (lv_at hl 3 rfl) ?_
  refine lv_aload_n hx hb dL_law_1400 rfl (lv_at hl 1 rfl) ?_
  refine lv_iload hx hb dL_law_1401 (lv_at hl 6 rfl) ?_
  refine lv_iconst (v := (1 : Int32)) hx hb dL_law_1403 (by decide) ?_
  refine lv_iadd hx hb dL_law_1404 ?_
  obtain ⟨v5, ev5, hq⟩ := b_s hq
  refine fs_li hx hb hI ev5 dL_law_1405 ?_
  refine lv_aload_n hx hb dL_law_1406 rfl (lv_at hl 1 rfl) ?_
  refine lv_iload hx hb dL_law_1407 (lv_at hl 6 rfl) ?_
  refine lv_iconst (v := (2 : Int32)) hx hb dL_law_1409 (by decide) ?_
  refine lv_iadd hx hb dL_law_1410 ?_
  obtain ⟨v6, ev6, hq⟩ := b_s hq
  refine fs_li hx hb hI ev6 dL_law_1411 ?_
  obtain ⟨v7, ev7, hq⟩ := b_s hq
  refine gw_i (g_runV (As := [.int v5, .int v6]) (rest := []) (ci := 10) hC (c_X8_coarsestLevelFor l V g D cT v3.2 n4 x2 v5 v6 v7 ev7) k_X8_coarsestLevelFor m_1763 rfl rfl ⟨Nat.le_of_ble_eq_true rfl, Nat.le_of_ble_eq_true rfl⟩ hI rfl rfl (h_me_eq ev7).1 rfl hl.1 rfl (Nat.le_of_ble_eq_true rfl) dL_law_1412 ⟨(by have := hcap.1; show _ ≤ 601024; omega), (by have := hcap.2; show _ ≤ 7293034; omega)⟩) hI (fun H locs hI => ?_)
  refine lv_istore (lv' := [(7, .int v7.1), (6, .int v3.1), (0, .ref x0), (1, .ref x1), (2, .ref x2), (3, .ref x3), (4, .ref x4), (5, .int x5)]) hx hb dL_law_1415 hl (by decide) rfl (fun ls hl => ?_)
  refine lv_aload_n hx hb dL_law_1417 rfl (lv_at hl 4 rfl) ?_
  obtain ⟨v8, ev8, hq⟩ := b_s hq
  refine gr_i (g_runV (As := []) (rest := []) (ci := 10) hC (c_X8_thrown l V g D cT v7.2 n4 x2 v8 ev8) k_X8_thrown m_1610 rfl rfl ⟨Nat.le_of_ble_eq_true rfl, Nat.le_of_ble_eq_true rfl⟩ hI rfl rfl (h_me_eq ev8).1 rfl hl.1 rfl (Nat.le_of_ble_eq_true rfl) dL_law_1418 ⟨(by have := hcap.1; show _ ≤ 601024; omega), (by have := hcap.2; show _ ≤ 7293034; omega)⟩) hI (fun H locs hI => ?_)
  refine lv_iload hx hb dL_law_1421 (lv_at hl 1 rfl) ?_
  refine lv_icmp_eq (tgt := 1428) hx hb dL_law_1423 (by decide) (fun c9 => ?_) (fun c9 => ?_)
  · replace hq := i_t c9 hq
    refine lv_iload hx hb dL_law_1428 (lv_at hl 1 rfl) ?_
    refine lv_if_ne (tgt := 1445) hx hb dL_law_1430 (by decide) (fun c10 => ?_) (fun c10 => ?_)
    · replace hq := i_f c10 hq
      refine lv_goto (tgt := 3637) hx hb dL_law_1445 (by decide) ?_
      obtain rfl := Option.some.inj hq
      refine W.widen (k := cells + 17) (n := slots + 3206) (by omega) (by omega) ?_
      exact kk _ _ _ _ (by omega) hI (lv_sub hl [2, 3, 4, 5, 6, 7] rfl)
    · replace hq := i_t c10 hq
      refine lv_aload_n hx hb dL_law_1433 rfl (lv_at hl 5 rfl) ?_
      refine lv_iconst (v := (0 : Int32)) hx hb dL_law_1434 (by decide) ?_
      obtain ⟨v11, ev11, hq⟩ := b_s hq
      refine fa_ll hx hb hI ev11 dL_law_1435 ?_
      refine lv_iload hx hb dL_law_1436 (lv_at hl 0 rfl) ?_
      refine lv_i2l (v := v7.1.toInt64) hx hb dL_law_1438 rfl ?_
      refine lv_lcmpN hx hb dL_law_1439 ?_
      refine lv_if_eq (tgt := 1445) hx hb dL_law_1440 (by decide) (fun c12 => ?_) (fun c12 => ?_)
      · replace hq := i_t c12 hq
        refine lv_goto (tgt := 3637) hx hb dL_law_1445 (by decide) ?_
        obtain rfl := Option.some.inj hq
        refine W.widen (k := cells + 17) (n := slots + 3206) (by omega) (by omega) ?_
        exact kk _ _ _ _ (by omega) hI (lv_sub hl [2, 3, 4, 5, 6, 7] rfl)
      · replace hq := i_f c12 hq
        refine lv_iconst (v := (0 : Int32)) hx hb dL_law_1443 (by decide) ?_
        cases hq
  · replace hq := i_f c9 hq
    refine lv_iconst (v := (0 : Int32)) hx hb dL_law_1426 (by decide) ?_
    cases hq

set_option maxHeartbeats 4000000 in
set_option maxRecDepth 100000 in
theorem cs_20 {p : Program} {l : Launch} {e : Env} {s : State} {m : MethodId} {args : Array Value} {below : List Frame} {meth : Method} {c : Code} {V : Nat → Nat} {g : GH} {D : va_G} {cT : Nat → ClassId} (hl0 : l.stackTraces = false) (hx : p.tables.exec = Jvm.exec) (hb : c.code = cL_law) (hC : CallFix p m c cL_law 9 s args g_B RL) {Q : State → Prop} {f : GH} {n : Nat} (x0 x1 x2 x3 x4 : Nat) (x5 : Int32) {f1 : GH} (hq : p_case_20 V g f n x0 x1 x2 x3 x4 x5 = some f1) {H : Heap} {locs : List Loc} {cells slots : Nat} {ls : Array Slot} (hcap : cells + 17 ≤ 601024 ∧ slots + 3206 ≤ 7293034) (hI : g_at (g_A V) V g D cT f n s H locs) (hl : lv_has ls 9 [(0, .ref x0), (1, .ref x1), (2, .ref x2), (3, .ref x3), (4, .ref x4), (5, .int x5)])
    (kk : ∀ (H : Heap) (locs : List Loc) (ls : Array Slot) (n1 : Nat), n ≤ n1 → g_at (g_A V) V g D cT f1 n1 s H locs → lv_has ls 9 [(0, .ref x0), (1, .ref x1), (2, .ref x2), (3, .ref x3), (4, .ref x4), (5, .int x5)] → W p l e room_1 s m args below meth c H locs (cells + 17) (slots + 3206) Q (F0 m 3637 ls [])) : W p l e room_1 s m args below meth c H locs cells slots Q (F0 m 1448 ls []) := by
  obtain ⟨_, _, hml, hown, hB⟩ := id hC
  unfold p_case_20 at hq
  refine lv_aload_n hx hb dL_law_1448 rfl (lv_at hl 1 rfl) ?_
  refine lv_aload_n hx hb dL_law_1449 rfl (lv_at hl 0 rfl) ?_
  refine lv_iload hx hb dL_law_1450 (lv_at hl 5 rfl) ?_
  refine lv_iconst (v := (1 : Int32)) hx hb dL_law_1452 (by decide) ?_
  refine lv_iadd hx hb dL_law_1453 ?_
  obtain ⟨v1, ev1, hq⟩ := b_s hq
  refine fs_li hx hb hI ev1 dL_law_1454 ?_
  refine lv_aload_n hx hb dL_law_1455 rfl (lv_at hl 3 rfl) ?_
  obtain ⟨v2, ev2, hq⟩ := b_s hq
  refine gl_i (g_runSW (As := [.ref x1, .int v1, .ref x3]) (rest := []) hC (c_L_coarsestExactLevel l hl0 V g D cT f n x1 v1 x3 v2 ev2) k_L_coarsestExactLevel m_898 rfl rfl ⟨Nat.le_of_ble_eq_true rfl, Nat.le_of_ble_eq_true rfl⟩ hI rfl hl.1 rfl (Nat.le_of_ble_eq_true rfl) dL_law_1456 ⟨(by have := hcap.1; show _ ≤ 601024; omega), (by have := hcap.2; show _ ≤ 7293034; omega)⟩) hI (fun H locs n3 hn3 hI => ?_)
  refine lv_istore (lv' := [(6, .int v2.1), (0, .ref x0), (1, .ref x1), (2, .ref x2), (3, .ref x3), (4, .ref x4), (5, .int x5)]) hx hb dL_law_1459 hl (by decide) rfl (fun ls hl => ?_)
  refine lv_aload_n hx hb dL_law_1461 rfl (lv_at hl 3 rfl) ?_
  refine lv_aload_n hx hb dL_law_1462 rfl (lv_at hl 1 rfl) ?_
  refine lv_iload hx hb dL_law_1463 (lv_at hl 6 rfl) ?_
  refine lv_iconst (v := (1 : Int32)) hx hb dL_law_1465 (by decide) ?_
  refine lv_iadd hx hb dL_law_1466 ?_
  obtain ⟨v4, ev4, hq⟩ := b_s hq
  refine fs_li hx hb hI ev4 dL_law_1467 ?_
  obtain ⟨v5, ev5, hq⟩ := b_s hq
  refine gw_i (g_runV (As := [.int v4]) (rest := []) (ci := 10) hC (c_X8_coarsestExactLevel l V g D cT v2.2 n3 x2 v4 v5 ev5) k_X8_coarsestExactLevel m_1771 rfl rfl ⟨Nat.le_of_ble_eq_true rfl, Nat.le_of_ble_eq_true rfl⟩ hI rfl rfl (h_me_eq ev5).1 rfl hl.1 rfl (Nat.le_of_ble_eq_true rfl) dL_law_1468 ⟨(by have := hcap.1; show _ ≤ 601024; omega), (by have := hcap.2; show _ ≤ 7293034; omega)⟩) hI (fun H locs hI => ?_)
  refine lv_istore (lv' := [(7, .int v5.1), (6, .int v2.1), (0, .ref x0), (1, .ref x1), (2, .ref x2), (3, .ref x3), (4, .ref x4), (5, .int x5)]) hx hb dL_law_1471 hl (by decide) rfl (fun ls hl => ?_)
  refine lv_aload_n hx hb dL_law_1473 rfl (lv_at hl 4 rfl) ?_
  obtain ⟨v6, ev6, hq⟩ := b_s hq
  refine gr_i (g_runV (As := []) (rest := []) (ci := 10) hC (c_X8_thrown l V g D cT v5.2 n3 x2 v6 ev6) k_X8_thrown m_1610 rfl rfl ⟨Nat.le_of_ble_eq_true rfl, Nat.le_of_ble_eq_true rfl⟩ hI rfl rfl (h_me_eq ev6).1 rfl hl.1 rfl (Nat.le_of_ble_eq_true rfl) dL_law_1474 ⟨(by have := hcap.1; show _ ≤ 601024; omega), (by have := hcap.2; show _ ≤ 7293034; omega)⟩) hI (fun H locs hI => ?_)
  refine lv_iload hx hb dL_law_1477 (lv_at hl 1 rfl) ?_
  refine lv_icmp_eq (tgt := 1484) hx hb dL_law_1479 (by decide) (fun c7 => ?_) (fun c7 => ?_)
  · replace hq := i_t c7 hq
    refine lv_iload hx hb dL_law_1484 (lv_at hl 1 rfl) ?_
    refine lv_if_ne (tgt := 1501) hx hb dL_law_1486 (by decide) (fun c8 => ?_) (fun c8 => ?_)
    · replace hq := i_f c8 hq
      refine lv_goto (tgt := 3637) hx hb dL_law_1501 (by decide) ?_
      obtain rfl := Option.some.inj hq
      refine W.widen (k := cells + 17) (n := slots + 3206) (by omega) (by omega) ?_
      exact kk _ _ _ _ (by omega) hI (lv_sub hl [2, 3, 4, 5, 6, 7] rfl)
    · replace hq := i_t c8 hq
      refine lv_aload_n hx hb dL_law_1489 rfl (lv_at hl 5 rfl) ?_
      refine lv_iconst (v := (0 : Int32)) hx hb dL_law_1490 (by decide) ?_
      obtain ⟨v9, ev9, hq⟩ := b_s hq
      refine fa_ll hx hb hI ev9 dL_law_1491 ?_
      refine lv_iload hx hb dL_law_1492 (lv_at hl 0 rfl) ?_
      refine lv_i2l (v := v5.1.toInt64) hx hb dL_law_1494 rfl ?_
      refine lv_lcmpN hx hb dL_law_1495 ?_
      refine lv_if_eq (tgt := 1501) hx hb dL_law_1496 (by decide) (fun c10 => ?_) (fun c10 => ?_)
      · replace hq := i_t c10 hq
        refine lv_goto (tgt := 3637) hx hb dL_law_1501 (by decide) ?_
        obtain rfl := Option.some.inj hq
        refine W.widen (k := cells + 17) (n := slots + 3206) (by omega) (by omega) ?_
        exact kk _ _ _ _ (by omega) hI (lv_sub hl [2, 3, 4, 5, 6, 7] rfl)
      · replace hq := i_f c10 hq
        refine lv_iconst (v := (0 : Int32)) hx hb dL_law_1499 (by decide) ?_
        cases hq
  · replace hq := i_f c7 hq
    refine lv_iconst (v := (0 : Int32)) hx hb dL_law_1482 (by decide) ?_
    cases hq

set_option maxHeartbeats 4000000 in
set_option maxRecDepth 100000 in
theorem cs_21 {p : Program} {l : Launch} {e : Env} {s : State} {m : MethodId} {args : Array Value} {below : List Frame} {meth : Method} {c : Code} {V : Nat → Nat} {g : GH} {D : va_G} {cT : Nat → ClassId} (hl0 : l.stackTraces = false) (hx : p.tables.exec = Jvm.exec) (hb : c.code = cL_law) (hC : CallFix p m c cL_law 9 s args g_B RL) {Q : State → Prop} {f : GH} {n : Nat} (x0 x1 x2 x3 x4 : Nat) (x5 : Int32) {f1 : GH} (hq : p_case_21 V g f n x0 x1 x2 x3 x4 x5 = some f1) {H : Heap} {locs : List Loc} {cells slots : Nat} {ls : Array Slot} (hcap : cells + 17 ≤ 601024 ∧ slots + 3206 ≤ 7293034) (hI : g_at (g_A V) V g D cT f n s H locs) (hl : lv_has ls 9 [(0, .ref x0), (1, .ref x1), (2, .ref x2), (3, .ref x3), (4, .ref x4), (5, .int x5)])
    (kk : ∀ (H : Heap) (locs : List Loc) (ls : Array Slot) (n1 : Nat), n ≤ n1 → g_at (g_A V) V g D cT f1 n1 s H locs → lv_has ls 9 [(0, .ref x0), (1, .ref x1), (2, .ref x2), (3, .ref x3), (4, .ref x4), (5, .int x5)] → W p l e room_1 s m args below meth c H locs (cells + 17) (slots + 3206) Q (F0 m 3637 ls [])) : W p l e room_1 s m args below meth c H locs cells slots Q (F0 m 1504 ls []) := by
  obtain ⟨_, _, hml, hown, hB⟩ := id hC
  unfold p_case_21 at hq
  refine lv_aload_n hx hb dL_law_1504 rfl (lv_at hl 1 rfl) ?_
  refine lv_aload_n hx hb dL_law_1505 rfl (lv_at hl 0 rfl) ?_
  refine lv_iload hx hb dL_law_1506 (lv_at hl 5 rfl) ?_
  refine lv_iconst (v := (1 : Int32)) hx hb dL_law_1508 (by decide) ?_
  refine lv_iadd hx hb dL_law_1509 ?_
  obtain ⟨v1, ev1, hq⟩ := b_s hq
  refine fs_li hx hb hI ev1 dL_law_1510 ?_
  refine lv_aload_n hx hb dL_law_1511 rfl (lv_at hl 3 rfl) ?_
  obtain ⟨v2, ev2, hq⟩ := b_s hq
  refine gl_i (g_runSW (As := [.ref x1, .int v1, .ref x3]) (rest := []) hC (c_L_totalLength l hl0 V g D cT f n x1 v1 x3 v2 ev2) k_L_totalLength m_905 rfl rfl ⟨Nat.le_of_ble_eq_true rfl, Nat.le_of_ble_eq_true rfl⟩ hI rfl hl.1 rfl (Nat.le_of_ble_eq_true rfl) dL_law_1512 ⟨(by have := hcap.1; show _ ≤ 601024; omega), (by have := hcap.2; show _ ≤ 7293034; omega)⟩) hI (fun H locs n3 hn3 hI => ?_)
  refine lv_istore (lv' := [(6, .int v2.1), (0, .ref x0), (1, .ref x1), (2, .ref x2), (3, .ref x3), (4, .ref x4), (5, .int x5)]) hx hb dL_law_1515 hl (by decide) rfl (fun ls hl => ?_)
  refine lv_aload_n hx hb dL_law_1517 rfl (lv_at hl 3 rfl) ?_
  refine lv_aload_n hx hb dL_law_1518 rfl (lv_at hl 1 rfl) ?_
  refine lv_iload hx hb dL_law_1519 (lv_at hl 6 rfl) ?_
  refine lv_iconst (v := (1 : Int32)) hx hb dL_law_1521 (by decide) ?_
  refine lv_iadd hx hb dL_law_1522 ?_
  obtain ⟨v4, ev4, hq⟩ := b_s hq
  refine fs_li hx hb hI ev4 dL_law_1523 ?_
  obtain ⟨v5, ev5, hq⟩ := b_s hq
  refine gw_i (g_runV (As := [.int v4]) (rest := []) (ci := 10) hC (c_X8_totalLength l V g D cT v2.2 n3 x2 v4 v5 ev5) k_X8_totalLength m_1775 rfl rfl ⟨Nat.le_of_ble_eq_true rfl, Nat.le_of_ble_eq_true rfl⟩ hI rfl rfl (h_me_eq ev5).1 rfl hl.1 rfl (Nat.le_of_ble_eq_true rfl) dL_law_1524 ⟨(by have := hcap.1; show _ ≤ 601024; omega), (by have := hcap.2; show _ ≤ 7293034; omega)⟩) hI (fun H locs hI => ?_)
  refine lv_istore (lv' := [(7, .int v5.1), (6, .int v2.1), (0, .ref x0), (1, .ref x1), (2, .ref x2), (3, .ref x3), (4, .ref x4), (5, .int x5)]) hx hb dL_law_1527 hl (by decide) rfl (fun ls hl => ?_)
  refine lv_aload_n hx hb dL_law_1529 rfl (lv_at hl 4 rfl) ?_
  obtain ⟨v6, ev6, hq⟩ := b_s hq
  refine gr_i (g_runV (As := []) (rest := []) (ci := 10) hC (c_X8_thrown l V g D cT v5.2 n3 x2 v6 ev6) k_X8_thrown m_1610 rfl rfl ⟨Nat.le_of_ble_eq_true rfl, Nat.le_of_ble_eq_true rfl⟩ hI rfl rfl (h_me_eq ev6).1 rfl hl.1 rfl (Nat.le_of_ble_eq_true rfl) dL_law_1530 ⟨(by have := hcap.1; show _ ≤ 601024; omega), (by have := hcap.2; show _ ≤ 7293034; omega)⟩) hI (fun H locs hI => ?_)
  refine lv_iload hx hb dL_law_1533 (lv_at hl 1 rfl) ?_
  refine lv_icmp_eq (tgt := 1540) hx hb dL_law_1535 (by decide) (fun c7 => ?_) (fun c7 => ?_)
  · replace hq := i_t c7 hq
    refine lv_iload hx hb dL_law_1540 (lv_at hl 1 rfl) ?_
    refine lv_if_ne (tgt := 1557) hx hb dL_law_1542 (by decide) (fun c8 => ?_) (fun c8 => ?_)
    · replace hq := i_f c8 hq
      refine lv_goto (tgt := 3637) hx hb dL_law_1557 (by decide) ?_
      obtain rfl := Option.some.inj hq
      refine W.widen (k := cells + 17) (n := slots + 3206) (by omega) (by omega) ?_
      exact kk _ _ _ _ (by omega) hI (lv_sub hl [2, 3, 4, 5, 6, 7] rfl)
    · replace hq := i_t c8 hq
      refine lv_aload_n hx hb dL_law_1545 rfl (lv_at hl 5 rfl) ?_
      refine lv_iconst (v := (0 : Int32)) hx hb dL_law_1546 (by decide) ?_
      obtain ⟨v9, ev9, hq⟩ := b_s hq
      refine fa_ll hx hb hI ev9 dL_law_1547 ?_
      refine lv_iload hx hb dL_law_1548 (lv_at hl 0 rfl) ?_
      refine lv_i2l (v := v5.1.toInt64) hx hb dL_law_1550 rfl ?_
      refine lv_lcmpN hx hb dL_law_1551 ?_
      refine lv_if_eq (tgt := 1557) hx hb dL_law_1552 (by decide) (fun c10 => ?_) (fun c10 => ?_)
      · replace hq := i_t c10 hq
        refine lv_goto (tgt := 3637) hx hb dL_law_1557 (by decide) ?_
        obtain rfl := Option.some.inj hq
        refine W.widen (k := cells + 17) (n := slots + 3206) (by omega) (by omega) ?_
        exact kk _ _ _ _ (by omega) hI (lv_sub hl [2, 3, 4, 5, 6, 7] rfl)
      · replace hq := i_f c10 hq
        refine lv_iconst (v := (0 : Int32)) hx hb dL_law_1555 (by decide) ?_
        cases hq
  · replace hq := i_f c7 hq
    refine lv_iconst (v := (0 : Int32)) hx hb dL_law_1538 (by decide) ?_
    cases hq

set_option maxHeartbeats 4000000 in
set_option maxRecDepth 100000 in
theorem cs_22 {p : Program} {l : Launch} {e : Env} {s : State} {m : MethodId} {args : Array Value} {below : List Frame} {meth : Method} {c : Code} {V : Nat → Nat} {g : GH} {D : va_G} {cT : Nat → ClassId} (hl0 : l.stackTraces = false) (hx : p.tables.exec = Jvm.exec) (hb : c.code = cL_law) (hC : CallFix p m c cL_law 9 s args g_B RL) {Q : State → Prop} {f : GH} {n : Nat} (x0 x1 x2 x3 x4 : Nat) (x5 : Int32) {f1 : GH} (hq : p_case_22 V g f n x0 x1 x2 x3 x4 x5 = some f1) {H : Heap} {locs : List Loc} {cells slots : Nat} {ls : Array Slot} (hcap : cells + 17 ≤ 601024 ∧ slots + 3206 ≤ 7293034) (hI : g_at (g_A V) V g D cT f n s H locs) (hl : lv_has ls 9 [(0, .ref x0), (1, .ref x1), (2, .ref x2), (3, .ref x3), (4, .ref x4), (5, .int x5)])
    (kk : ∀ (H : Heap) (locs : List Loc) (ls : Array Slot) (n1 : Nat), n ≤ n1 → g_at (g_A V) V g D cT f1 n1 s H locs → lv_has ls 9 [(0, .ref x0), (1, .ref x1), (2, .ref x2), (3, .ref x3), (4, .ref x4), (5, .int x5)] → W p l e room_1 s m args below meth c H locs (cells + 17) (slots + 3206) Q (F0 m 3637 ls [])) : W p l e room_1 s m args below meth c H locs cells slots Q (F0 m 1560 ls []) := by
  obtain ⟨_, _, hml, hown, hB⟩ := id hC
  unfold p_case_22 at hq
  refine lv_aload_n hx hb dL_law_1560 rfl (lv_at hl 1 rfl) ?_
  refine lv_aload_n hx hb dL_law_1561 rfl (lv_at hl 0 rfl) ?_
  refine lv_iload hx hb dL_law_1562 (lv_at hl 5 rfl) ?_
  refine lv_iconst (v := (1 : Int32)) hx hb dL_law_1564 (by decide) ?_
  refine lv_iadd hx hb dL_law_1565 ?_
  obtain ⟨v1, ev1, hq⟩ := b_s hq
  refine fs_li hx hb hI ev1 dL_law_1566 ?_
  refine lv_aload_n hx hb dL_law_1567 rfl (lv_at hl 3 rfl) ?_
  obtain ⟨v2, ev2, hq⟩ := b_s hq
  refine gl_i (g_runSW (As := [.ref x1, .int v1, .ref x3]) (rest := []) hC (c_L_longestCoast l hl0 V g D cT f n x1 v1 x3 v2 ev2) k_L_longestCoast m_912 rfl rfl ⟨Nat.le_of_ble_eq_true rfl, Nat.le_of_ble_eq_true rfl⟩ hI rfl hl.1 rfl (Nat.le_of_ble_eq_true rfl) dL_law_1568 ⟨(by have := hcap.1; show _ ≤ 601024; omega), (by have := hcap.2; show _ ≤ 7293034; omega)⟩) hI (fun H locs n3 hn3 hI => ?_)
  refine lv_istore (lv' := [(6, .int v2.1), (0, .ref x0), (1, .ref x1), (2, .ref x2), (3, .ref x3), (4, .ref x4), (5, .int x5)]) hx hb dL_law_1571 hl (by decide) rfl (fun ls hl => ?_)
  refine lv_aload_n hx hb dL_law_1573 rfl (lv_at hl 3 rfl) ?_
  refine lv_aload_n hx hb dL_law_1574 rfl (lv_at hl 1 rfl) ?_
  refine lv_iload hx hb dL_law_1575 (lv_at hl 6 rfl) ?_
  refine lv_iconst (v := (1 : Int32)) hx hb dL_law_1577 (by decide) ?_
  refine lv_iadd hx hb dL_law_1578 ?_
  obtain ⟨v4, ev4, hq⟩ := b_s hq
  refine fs_li hx hb hI ev4 dL_law_1579 ?_
  obtain ⟨v5, ev5, hq⟩ := b_s hq
  refine gw_i (g_runV (As := [.int v4]) (rest := []) (ci := 10) hC (c_X8_longestCoast l V g D cT v2.2 n3 x2 v4 v5 ev5) k_X8_longestCoast m_1779 rfl rfl ⟨Nat.le_of_ble_eq_true rfl, Nat.le_of_ble_eq_true rfl⟩ hI rfl rfl (h_me_eq ev5).1 rfl hl.1 rfl (Nat.le_of_ble_eq_true rfl) dL_law_1580 ⟨(by have := hcap.1; show _ ≤ 601024; omega), (by have := hcap.2; show _ ≤ 7293034; omega)⟩) hI (fun H locs hI => ?_)
  refine lv_istore (lv' := [(7, .int v5.1), (6, .int v2.1), (0, .ref x0), (1, .ref x1), (2, .ref x2), (3, .ref x3), (4, .ref x4), (5, .int x5)]) hx hb dL_law_1583 hl (by decide) rfl (fun ls hl => ?_)
  refine lv_aload_n hx hb dL_law_1585 rfl (lv_at hl 4 rfl) ?_
  obtain ⟨v6, ev6, hq⟩ := b_s hq
  refine gr_i (g_runV (As := []) (rest := []) (ci := 10) hC (c_X8_thrown l V g D cT v5.2 n3 x2 v6 ev6) k_X8_thrown m_1610 rfl rfl ⟨Nat.le_of_ble_eq_true rfl, Nat.le_of_ble_eq_true rfl⟩ hI rfl rfl (h_me_eq ev6).1 rfl hl.1 rfl (Nat.le_of_ble_eq_true rfl) dL_law_1586 ⟨(by have := hcap.1; show _ ≤ 601024; omega), (by have := hcap.2; show _ ≤ 7293034; omega)⟩) hI (fun H locs hI => ?_)
  refine lv_iload hx hb dL_law_1589 (lv_at hl 1 rfl) ?_
  refine lv_icmp_eq (tgt := 1596) hx hb dL_law_1591 (by decide) (fun c7 => ?_) (fun c7 => ?_)
  · replace hq := i_t c7 hq
    refine lv_iload hx hb dL_law_1596 (lv_at hl 1 rfl) ?_
    refine lv_if_ne (tgt := 1613) hx hb dL_law_1598 (by decide) (fun c8 => ?_) (fun c8 => ?_)
    · replace hq := i_f c8 hq
      refine lv_goto (tgt := 3637) hx hb dL_law_1613 (by decide) ?_
      obtain rfl := Option.some.inj hq
      refine W.widen (k := cells + 17) (n := slots + 3206) (by omega) (by omega) ?_
      exact kk _ _ _ _ (by omega) hI (lv_sub hl [2, 3, 4, 5, 6, 7] rfl)
    · replace hq := i_t c8 hq
      refine lv_aload_n hx hb dL_law_1601 rfl (lv_at hl 5 rfl) ?_
      refine lv_iconst (v := (0 : Int32)) hx hb dL_law_1602 (by decide) ?_
      obtain ⟨v9, ev9, hq⟩ := b_s hq
      refine fa_ll hx hb hI ev9 dL_law_1603 ?_
      refine lv_iload hx hb dL_law_1604 (lv_at hl 0 rfl) ?_
      refine lv_i2l (v := v5.1.toInt64) hx hb dL_law_1606 rfl ?_
      refine lv_lcmpN hx hb dL_law_1607 ?_
      refine lv_if_eq (tgt := 1613) hx hb dL_law_1608 (by decide) (fun c10 => ?_) (fun c10 => ?_)
      · replace hq := i_t c10 hq
        refine lv_goto (tgt := 3637) hx hb dL_law_1613 (by decide) ?_
        obtain rfl := Option.some.inj hq
        refine W.widen (k := cells + 17) (n := slots + 3206) (by omega) (by omega) ?_
        exact kk _ _ _ _ (by omega) hI (lv_sub hl [2, 3, 4, 5, 6, 7] rfl)
      · replace hq := i_f c10 hq
        refine lv_iconst (v := (0 : Int32)) hx hb dL_law_1611 (by decide) ?_
        cases hq
  · replace hq := i_f c7 hq
    refine lv_iconst (v := (0 : Int32)) hx hb dL_law_1594 (by decide) ?_
    cases hq

set_option maxHeartbeats 4000000 in
set_option maxRecDepth 100000 in
theorem cs_23 {p : Program} {l : Launch} {e : Env} {s : State} {m : MethodId} {args : Array Value} {below : List Frame} {meth : Method} {c : Code} {V : Nat → Nat} {g : GH} {D : va_G} {cT : Nat → ClassId} (hl0 : l.stackTraces = false) (hx : p.tables.exec = Jvm.exec) (hb : c.code = cL_law) (hC : CallFix p m c cL_law 9 s args g_B RL) {Q : State → Prop} {f : GH} {n : Nat} (x0 x1 x2 x3 x4 : Nat) (x5 : Int32) {f1 : GH} (hq : p_case_23 V g f n x0 x1 x2 x3 x4 x5 = some f1) {H : Heap} {locs : List Loc} {cells slots : Nat} {ls : Array Slot} (hcap : cells + 17 ≤ 601024 ∧ slots + 3206 ≤ 7293034) (hI : g_at (g_A V) V g D cT f n s H locs) (hl : lv_has ls 9 [(0, .ref x0), (1, .ref x1), (2, .ref x2), (3, .ref x3), (4, .ref x4), (5, .int x5)])
    (kk : ∀ (H : Heap) (locs : List Loc) (ls : Array Slot) (n1 : Nat), n ≤ n1 → g_at (g_A V) V g D cT f1 n1 s H locs → lv_has ls 9 [(0, .ref x0), (1, .ref x1), (2, .ref x2), (3, .ref x3), (4, .ref x4), (5, .int x5)] → W p l e room_1 s m args below meth c H locs (cells + 17) (slots + 3206) Q (F0 m 3637 ls [])) : W p l e room_1 s m args below meth c H locs cells slots Q (F0 m 1616 ls []) := by
  obtain ⟨_, _, hml, hown, hB⟩ := id hC
  unfold p_case_23 at hq
  refine lv_aload_n hx hb dL_law_1616 rfl (lv_at hl 1 rfl) ?_
  refine lv_aload_n hx hb dL_law_1617 rfl (lv_at hl 0 rfl) ?_
  refine lv_iload hx hb dL_law_1618 (lv_at hl 5 rfl) ?_
  refine lv_iconst (v := (1 : Int32)) hx hb dL_law_1620 (by decide) ?_
  refine lv_iadd hx hb dL_law_1621 ?_
  obtain ⟨v1, ev1, hq⟩ := b_s hq
  refine fs_li hx hb hI ev1 dL_law_1622 ?_
  refine lv_aload_n hx hb dL_law_1623 rfl (lv_at hl 0 rfl) ?_
  refine lv_iload hx hb dL_law_1624 (lv_at hl 5 rfl) ?_
  refine lv_iconst (v := (2 : Int32)) hx hb dL_law_1626 (by decide) ?_
  refine lv_iadd hx hb dL_law_1627 ?_
  obtain ⟨v2, ev2, hq⟩ := b_s hq
  refine fs_li hx hb hI ev2 dL_law_1628 ?_
  refine lv_aload hx hb dL_law_1629 (lv_at hl 4 rfl) ?_
  obtain ⟨v3, ev3, hq⟩ := b_s hq
  refine gl_i (g_runSW (As := [.ref x1, .int v1, .int v2, .ref x4]) (rest := []) hC (c_L_refinementRatio l hl0 V g D cT f n x1 v1 v2 x4 v3 ev3) k_L_refinementRatio m_919 rfl rfl ⟨Nat.le_of_ble_eq_true rfl, Nat.le_of_ble_eq_true rfl⟩ hI rfl hl.1 rfl (Nat.le_of_ble_eq_true rfl) dL_law_1631 ⟨(by have := hcap.1; show _ ≤ 601024; omega), (by have := hcap.2; show _ ≤ 7293034; omega)⟩) hI (fun H locs n4 hn4 hI => ?_)
  refine lv_istore (lv' := [(6, .int v3.1), (0, .ref x0), (1, .ref x1), (2, .ref x2), (3, .ref x3), (4, .ref x4), (5, .int x5)]) hx hb dL_law_1634 hl (by decide) rfl (fun ls hl => ?_)
  refine lv_aload_n hx hb dL_law_1636 rfl (lv_at hl 3 rfl) ?_
  refine lv_aload_n hx hb dL_law_1637 rfl (lv_at hl 1 rfl) ?_
  refine lv_iload hx hb dL_law_1638 (lv_at hl 6 rfl) ?_
  refine lv_iconst (v := (1 : Int32)) hx hb dL_law_1640 (by decide) ?_
  refine lv_iadd hx hb dL_law_1641 ?_
  obtain ⟨v5, ev5, hq⟩ := b_s hq
  refine fs_li hx hb hI ev5 dL_law_1642 ?_
  refine lv_aload_n hx hb dL_law_1643 rfl (lv_at hl 1 rfl) ?_
  refine lv_iload hx hb dL_law_1644 (lv_at hl 6 rfl) ?_
  refine lv_iconst (v := (2 : Int32)) hx hb dL_law_1646 (by decide) ?_
  refine lv_iadd hx hb dL_law_1647 ?_
  obtain ⟨v6, ev6, hq⟩ := b_s hq
  refine fs_li hx hb hI ev6 dL_law_1648 ?_
  obtain ⟨v7, ev7, hq⟩ := b_s hq
  refine gw_d (g_runV (As := [.int v5, .int v6]) (rest := []) (ci := 10) hC (c_X8_refinementRatio l V g D cT v3.2 n4 x2 v5 v6 v7 ev7) k_X8_refinementRatio m_1783 rfl rfl ⟨Nat.le_of_ble_eq_true rfl, Nat.le_of_ble_eq_true rfl⟩ hI rfl rfl (h_me_eq ev7).1 rfl hl.1 rfl (Nat.le_of_ble_eq_true rfl) dL_law_1649 ⟨(by have := hcap.1; show _ ≤ 601024; omega), (by have := hcap.2; show _ ≤ 7293034; omega)⟩) hI (fun H locs hI => ?_)
  refine lv_dstore (lv' := [(7, .double v7.1), (6, .int v3.1), (0, .ref x0), (1, .ref x1), (2, .ref x2), (3, .ref x3), (4, .ref x4), (5, .int x5)]) hx hb dL_law_1652 hl (by decide) rfl (fun ls hl => ?_)
  refine lv_aload_n hx hb dL_law_1654 rfl (lv_at hl 4 rfl) ?_
  obtain ⟨v8, ev8, hq⟩ := b_s hq
  refine gr_i (g_runV (As := []) (rest := []) (ci := 10) hC (c_X8_thrown l V g D cT v7.2 n4 x2 v8 ev8) k_X8_thrown m_1610 rfl rfl ⟨Nat.le_of_ble_eq_true rfl, Nat.le_of_ble_eq_true rfl⟩ hI rfl rfl (h_me_eq ev8).1 rfl hl.1 rfl (Nat.le_of_ble_eq_true rfl) dL_law_1655 ⟨(by have := hcap.1; show _ ≤ 601024; omega), (by have := hcap.2; show _ ≤ 7293034; omega)⟩) hI (fun H locs hI => ?_)
  refine lv_iload hx hb dL_law_1658 (lv_at hl 1 rfl) ?_
  refine lv_icmp_eq (tgt := 1665) hx hb dL_law_1660 (by decide) (fun c9 => ?_) (fun c9 => ?_)
  · replace hq := i_t c9 hq
    refine lv_iload hx hb dL_law_1665 (lv_at hl 1 rfl) ?_
    refine lv_if_ne (tgt := 1702) hx hb dL_law_1667 (by decide) (fun c10 => ?_) (fun c10 => ?_)
    · replace hq := i_f c10 hq
      refine lv_goto (tgt := 3637) hx hb dL_law_1702 (by decide) ?_
      obtain rfl := Option.some.inj hq
      refine W.widen (k := cells + 17) (n := slots + 3206) (by omega) (by omega) ?_
      exact kk _ _ _ _ (by omega) hI (lv_sub hl [2, 3, 4, 5, 6, 7] rfl)
    · replace hq := i_t c10 hq
      refine lv_aload hx hb dL_law_1670 (lv_at hl 6 rfl) ?_
      refine lv_iconst (v := (0 : Int32)) hx hb dL_law_1672 (by decide) ?_
      obtain ⟨v11, ev11, hq⟩ := b_s hq
      refine fa_ld hx hb hI ev11 dL_law_1673 ?_
      refine lv_dload hx hb dL_law_1674 (lv_at hl 0 rfl) ?_
      refine lv_dcmp hx hb dL_law_1676 ?_
      refine lv_if_eq (tgt := 1702) hx hb dL_law_1677 (by decide) (fun c12 => ?_) (fun c12 => ?_)
      · replace hq := i_t c12 hq
        refine lv_goto (tgt := 3637) hx hb dL_law_1702 (by decide) ?_
        obtain rfl := Option.some.inj hq
        refine W.widen (k := cells + 17) (n := slots + 3206) (by omega) (by omega) ?_
        exact kk _ _ _ _ (by omega) hI (lv_sub hl [2, 3, 4, 5, 6, 7] rfl)
      · replace hq := i_f c12 hq
        refine lv_aload hx hb dL_law_1680 (lv_at hl 6 rfl) ?_
        refine lv_iconst (v := (0 : Int32)) hx hb dL_law_1682 (by decide) ?_
        obtain ⟨v13, ev13, hq⟩ := b_s hq
        refine fa_ld hx hb hI ev13 dL_law_1683 ?_
        refine lv_aload hx hb dL_law_1684 (lv_at hl 6 rfl) ?_
        refine lv_iconst (v := (0 : Int32)) hx hb dL_law_1686 (by decide) ?_
        obtain ⟨v14, ev14, hq⟩ := b_s hq
        refine fa_ld hx hb hI ev14 dL_law_1687 ?_
        refine lv_dcmp hx hb dL_law_1688 ?_
        refine lv_if_eq (tgt := 1700) hx hb dL_law_1689 (by decide) (fun c15 => ?_) (fun c15 => ?_)
        · replace hq := i_t c15 hq
          refine lv_iconst (v := (0 : Int32)) hx hb dL_law_1700 (by decide) ?_
          cases hq
        · replace hq := i_f c15 hq
          refine lv_dload hx hb dL_law_1692 (lv_at hl 0 rfl) ?_
          refine lv_dload hx hb dL_law_1694 (lv_at hl 0 rfl) ?_
          refine lv_dcmp hx hb dL_law_1696 ?_
          refine lv_if_ne (tgt := 1702) hx hb dL_law_1697 (by decide) (fun c16 => ?_) (fun c16 => ?_)
          · replace hq := i_f c16 hq
            refine lv_goto (tgt := 3637) hx hb dL_law_1702 (by decide) ?_
            obtain rfl := Option.some.inj hq
            refine W.widen (k := cells + 17) (n := slots + 3206) (by omega) (by omega) ?_
            exact kk _ _ _ _ (by omega) hI (lv_sub hl [2, 3, 4, 5, 6, 7] rfl)
          · replace hq := i_t c16 hq
            refine lv_iconst (v := (0 : Int32)) hx hb dL_law_1700 (by decide) ?_
            cases hq
  · replace hq := i_f c9 hq
    refine lv_iconst (v := (0 : Int32)) hx hb dL_law_1663 (by decide) ?_
    cases hq

set_option maxHeartbeats 4000000 in
set_option maxRecDepth 100000 in
theorem cs_24 {p : Program} {l : Launch} {e : Env} {s : State} {m : MethodId} {args : Array Value} {below : List Frame} {meth : Method} {c : Code} {V : Nat → Nat} {g : GH} {D : va_G} {cT : Nat → ClassId} (hl0 : l.stackTraces = false) (hx : p.tables.exec = Jvm.exec) (hb : c.code = cL_law) (hC : CallFix p m c cL_law 9 s args g_B RL) {Q : State → Prop} {f : GH} {n : Nat} (x0 x1 x2 x3 x4 : Nat) (x5 : Int32) {f1 : GH} (hq : p_case_24 V g f n x0 x1 x2 x3 x4 x5 = some f1) {H : Heap} {locs : List Loc} {cells slots : Nat} {ls : Array Slot} (hcap : cells + 17 ≤ 601024 ∧ slots + 3206 ≤ 7293034) (hI : g_at (g_A V) V g D cT f n s H locs) (hl : lv_has ls 9 [(0, .ref x0), (1, .ref x1), (2, .ref x2), (3, .ref x3), (4, .ref x4), (5, .int x5)])
    (kk : ∀ (H : Heap) (locs : List Loc) (ls : Array Slot) (n1 : Nat), n ≤ n1 → g_at (g_A V) V g D cT f1 n1 s H locs → lv_has ls 9 [(0, .ref x0), (1, .ref x1), (2, .ref x2), (3, .ref x3), (4, .ref x4), (5, .int x5)] → W p l e room_1 s m args below meth c H locs (cells + 17) (slots + 3206) Q (F0 m 3637 ls [])) : W p l e room_1 s m args below meth c H locs cells slots Q (F0 m 1705 ls []) := by
  obtain ⟨_, _, hml, hown, hB⟩ := id hC
  unfold p_case_24 at hq
  refine lv_aload_n hx hb dL_law_1705 rfl (lv_at hl 1 rfl) ?_
  refine lv_aload_n hx hb dL_law_1706 rfl (lv_at hl 0 rfl) ?_
  refine lv_iload hx hb dL_law_1707 (lv_at hl 5 rfl) ?_
  refine lv_iconst (v := (1 : Int32)) hx hb dL_law_1709 (by decide) ?_
  refine lv_iadd hx hb dL_law_1710 ?_
  obtain ⟨v1, ev1, hq⟩ := b_s hq
  refine fs_li hx hb hI ev1 dL_law_1711 ?_
  refine lv_aload_n hx hb dL_law_1712 rfl (lv_at hl 0 rfl) ?_
  refine lv_iload hx hb dL_law_1713 (lv_at hl 5 rfl) ?_
  refine lv_iconst (v := (2 : Int32)) hx hb dL_law_1715 (by decide) ?_
  refine lv_iadd hx hb dL_law_1716 ?_
  obtain ⟨v2, ev2, hq⟩ := b_s hq
  refine fs_li hx hb hI ev2 dL_law_1717 ?_
  refine lv_aload hx hb dL_law_1718 (lv_at hl 4 rfl) ?_
  obtain ⟨v3, ev3, hq⟩ := b_s hq
  refine gl_i (g_runSW (As := [.ref x1, .int v1, .int v2, .ref x4]) (rest := []) hC (c_L_meanStickLength l hl0 V g D cT f n x1 v1 v2 x4 v3 ev3) k_L_meanStickLength m_926 rfl rfl ⟨Nat.le_of_ble_eq_true rfl, Nat.le_of_ble_eq_true rfl⟩ hI rfl hl.1 rfl (Nat.le_of_ble_eq_true rfl) dL_law_1720 ⟨(by have := hcap.1; show _ ≤ 601024; omega), (by have := hcap.2; show _ ≤ 7293034; omega)⟩) hI (fun H locs n4 hn4 hI => ?_)
  refine lv_istore (lv' := [(6, .int v3.1), (0, .ref x0), (1, .ref x1), (2, .ref x2), (3, .ref x3), (4, .ref x4), (5, .int x5)]) hx hb dL_law_1723 hl (by decide) rfl (fun ls hl => ?_)
  refine lv_aload_n hx hb dL_law_1725 rfl (lv_at hl 3 rfl) ?_
  refine lv_aload_n hx hb dL_law_1726 rfl (lv_at hl 1 rfl) ?_
  refine lv_iload hx hb dL_law_1727 (lv_at hl 6 rfl) ?_
  refine lv_iconst (v := (1 : Int32)) hx hb dL_law_1729 (by decide) ?_
  refine lv_iadd hx hb dL_law_1730 ?_
  obtain ⟨v5, ev5, hq⟩ := b_s hq
  refine fs_li hx hb hI ev5 dL_law_1731 ?_
  refine lv_aload_n hx hb dL_law_1732 rfl (lv_at hl 1 rfl) ?_
  refine lv_iload hx hb dL_law_1733 (lv_at hl 6 rfl) ?_
  refine lv_iconst (v := (2 : Int32)) hx hb dL_law_1735 (by decide) ?_
  refine lv_iadd hx hb dL_law_1736 ?_
  obtain ⟨v6, ev6, hq⟩ := b_s hq
  refine fs_li hx hb hI ev6 dL_law_1737 ?_
  obtain ⟨v7, ev7, hq⟩ := b_s hq
  refine gw_f (g_runV (As := [.int v5, .int v6]) (rest := []) (ci := 10) hC (c_X8_meanStickLength l V g D cT v3.2 n4 x2 v5 v6 v7 ev7) k_X8_meanStickLength m_1787 rfl rfl ⟨Nat.le_of_ble_eq_true rfl, Nat.le_of_ble_eq_true rfl⟩ hI rfl rfl (h_me_eq ev7).1 rfl hl.1 rfl (Nat.le_of_ble_eq_true rfl) dL_law_1738 ⟨(by have := hcap.1; show _ ≤ 601024; omega), (by have := hcap.2; show _ ≤ 7293034; omega)⟩) hI (fun H locs hI => ?_)
  refine lv_fstore (lv' := [(7, .float v7.1), (6, .int v3.1), (0, .ref x0), (1, .ref x1), (2, .ref x2), (3, .ref x3), (4, .ref x4), (5, .int x5)]) hx hb dL_law_1741 hl (by decide) rfl (fun ls hl => ?_)
  refine lv_aload_n hx hb dL_law_1743 rfl (lv_at hl 4 rfl) ?_
  obtain ⟨v8, ev8, hq⟩ := b_s hq
  refine gr_i (g_runV (As := []) (rest := []) (ci := 10) hC (c_X8_thrown l V g D cT v7.2 n4 x2 v8 ev8) k_X8_thrown m_1610 rfl rfl ⟨Nat.le_of_ble_eq_true rfl, Nat.le_of_ble_eq_true rfl⟩ hI rfl rfl (h_me_eq ev8).1 rfl hl.1 rfl (Nat.le_of_ble_eq_true rfl) dL_law_1744 ⟨(by have := hcap.1; show _ ≤ 601024; omega), (by have := hcap.2; show _ ≤ 7293034; omega)⟩) hI (fun H locs hI => ?_)
  refine lv_iload hx hb dL_law_1747 (lv_at hl 1 rfl) ?_
  refine lv_icmp_eq (tgt := 1754) hx hb dL_law_1749 (by decide) (fun c9 => ?_) (fun c9 => ?_)
  · replace hq := i_t c9 hq
    refine lv_iload hx hb dL_law_1754 (lv_at hl 1 rfl) ?_
    refine lv_if_ne (tgt := 1792) hx hb dL_law_1756 (by decide) (fun c10 => ?_) (fun c10 => ?_)
    · replace hq := i_f c10 hq
      refine lv_goto (tgt := 3637) hx hb dL_law_1792 (by decide) ?_
      obtain rfl := Option.some.inj hq
      refine W.widen (k := cells + 17) (n := slots + 3206) (by omega) (by omega) ?_
      exact kk _ _ _ _ (by omega) hI (lv_sub hl [2, 3, 4, 5, 6, 7] rfl)
    · replace hq := i_t c10 hq
      refine lv_aload hx hb dL_law_1759 (lv_at hl 6 rfl) ?_
      refine lv_iconst (v := (0 : Int32)) hx hb dL_law_1761 (by decide) ?_
      obtain ⟨v11, ev11, hq⟩ := b_s hq
      refine fa_ld hx hb hI ev11 dL_law_1762 ?_
      refine lv_fload hx hb dL_law_1763 (lv_at hl 0 rfl) ?_
      obtain ⟨w12, ew12, hq⟩ := b_s hq
      obtain ⟨rfl, nw12⟩ := h_f2d_eq ew12
      refine lv_f2d hx hb dL_law_1765 nw12 ?_
      refine lv_dcmp hx hb dL_law_1766 ?_
      refine lv_if_eq (tgt := 1792) hx hb dL_law_1767 (by decide) (fun c13 => ?_) (fun c13 => ?_)
      · replace hq := i_t c13 hq
        refine lv_goto (tgt := 3637) hx hb dL_law_1792 (by decide) ?_
        obtain rfl := Option.some.inj hq
        refine W.widen (k := cells + 17) (n := slots + 3206) (by omega) (by omega) ?_
        exact kk _ _ _ _ (by omega) hI (lv_sub hl [2, 3, 4, 5, 6, 7] rfl)
      · replace hq := i_f c13 hq
        refine lv_aload hx hb dL_law_1770 (lv_at hl 6 rfl) ?_
        refine lv_iconst (v := (0 : Int32)) hx hb dL_law_1772 (by decide) ?_
        obtain ⟨v14, ev14, hq⟩ := b_s hq
        refine fa_ld hx hb hI ev14 dL_law_1773 ?_
        refine lv_aload hx hb dL_law_1774 (lv_at hl 6 rfl) ?_
        refine lv_iconst (v := (0 : Int32)) hx hb dL_law_1776 (by decide) ?_
        obtain ⟨v15, ev15, hq⟩ := b_s hq
        refine fa_ld hx hb hI ev15 dL_law_1777 ?_
        refine lv_dcmp hx hb dL_law_1778 ?_
        refine lv_if_eq (tgt := 1790) hx hb dL_law_1779 (by decide) (fun c16 => ?_) (fun c16 => ?_)
        · replace hq := i_t c16 hq
          refine lv_iconst (v := (0 : Int32)) hx hb dL_law_1790 (by decide) ?_
          cases hq
        · replace hq := i_f c16 hq
          refine lv_fload hx hb dL_law_1782 (lv_at hl 0 rfl) ?_
          refine lv_fload hx hb dL_law_1784 (lv_at hl 0 rfl) ?_
          refine lv_fcmp hx hb dL_law_1786 ?_
          refine lv_if_ne (tgt := 1792) hx hb dL_law_1787 (by decide) (fun c17 => ?_) (fun c17 => ?_)
          · replace hq := i_f c17 hq
            refine lv_goto (tgt := 3637) hx hb dL_law_1792 (by decide) ?_
            obtain rfl := Option.some.inj hq
            refine W.widen (k := cells + 17) (n := slots + 3206) (by omega) (by omega) ?_
            exact kk _ _ _ _ (by omega) hI (lv_sub hl [2, 3, 4, 5, 6, 7] rfl)
          · replace hq := i_t c17 hq
            refine lv_iconst (v := (0 : Int32)) hx hb dL_law_1790 (by decide) ?_
            cases hq
  · replace hq := i_f c9 hq
    refine lv_iconst (v := (0 : Int32)) hx hb dL_law_1752 (by decide) ?_
    cases hq

set_option maxHeartbeats 4000000 in
set_option maxRecDepth 100000 in
theorem cs_25 {p : Program} {l : Launch} {e : Env} {s : State} {m : MethodId} {args : Array Value} {below : List Frame} {meth : Method} {c : Code} {V : Nat → Nat} {g : GH} {D : va_G} {cT : Nat → ClassId} (hl0 : l.stackTraces = false) (hx : p.tables.exec = Jvm.exec) (hb : c.code = cL_law) (hC : CallFix p m c cL_law 9 s args g_B RL) {Q : State → Prop} {f : GH} {n : Nat} (x0 x1 x2 x3 x4 : Nat) (x5 : Int32) {f1 : GH} (hq : p_case_25 V g f n x0 x1 x2 x3 x4 x5 = some f1) {H : Heap} {locs : List Loc} {cells slots : Nat} {ls : Array Slot} (hcap : cells + 17 ≤ 601024 ∧ slots + 3206 ≤ 7293034) (hI : g_at (g_A V) V g D cT f n s H locs) (hl : lv_has ls 9 [(0, .ref x0), (1, .ref x1), (2, .ref x2), (3, .ref x3), (4, .ref x4), (5, .int x5)])
    (kk : ∀ (H : Heap) (locs : List Loc) (ls : Array Slot) (n1 : Nat), n ≤ n1 → g_at (g_A V) V g D cT f1 n1 s H locs → lv_has ls 9 [(0, .ref x0), (1, .ref x1), (2, .ref x2), (3, .ref x3), (4, .ref x4), (5, .int x5)] → W p l e room_1 s m args below meth c H locs (cells + 17) (slots + 3206) Q (F0 m 3637 ls [])) : W p l e room_1 s m args below meth c H locs cells slots Q (F0 m 1795 ls []) := by
  obtain ⟨_, _, hml, hown, hB⟩ := id hC
  unfold p_case_25 at hq
  refine lv_aload_n hx hb dL_law_1795 rfl (lv_at hl 1 rfl) ?_
  refine lv_aload_n hx hb dL_law_1796 rfl (lv_at hl 0 rfl) ?_
  refine lv_iload hx hb dL_law_1797 (lv_at hl 5 rfl) ?_
  refine lv_iconst (v := (1 : Int32)) hx hb dL_law_1799 (by decide) ?_
  refine lv_iadd hx hb dL_law_1800 ?_
  obtain ⟨v1, ev1, hq⟩ := b_s hq
  refine fs_li hx hb hI ev1 dL_law_1801 ?_
  refine lv_aload_n hx hb dL_law_1802 rfl (lv_at hl 3 rfl) ?_
  obtain ⟨v2, ev2, hq⟩ := b_s hq
  refine gl_i (g_runSW (As := [.ref x1, .int v1, .ref x3]) (rest := []) hC (c_L_doubledArea l hl0 V g D cT f n x1 v1 x3 v2 ev2) k_L_doubledArea m_933 rfl rfl ⟨Nat.le_of_ble_eq_true rfl, Nat.le_of_ble_eq_true rfl⟩ hI rfl hl.1 rfl (Nat.le_of_ble_eq_true rfl) dL_law_1803 ⟨(by have := hcap.1; show _ ≤ 601024; omega), (by have := hcap.2; show _ ≤ 7293034; omega)⟩) hI (fun H locs n3 hn3 hI => ?_)
  refine lv_istore (lv' := [(6, .int v2.1), (0, .ref x0), (1, .ref x1), (2, .ref x2), (3, .ref x3), (4, .ref x4), (5, .int x5)]) hx hb dL_law_1806 hl (by decide) rfl (fun ls hl => ?_)
  refine lv_aload_n hx hb dL_law_1808 rfl (lv_at hl 3 rfl) ?_
  refine lv_aload_n hx hb dL_law_1809 rfl (lv_at hl 1 rfl) ?_
  refine lv_iload hx hb dL_law_1810 (lv_at hl 6 rfl) ?_
  refine lv_iconst (v := (1 : Int32)) hx hb dL_law_1812 (by decide) ?_
  refine lv_iadd hx hb dL_law_1813 ?_
  obtain ⟨v4, ev4, hq⟩ := b_s hq
  refine fs_li hx hb hI ev4 dL_law_1814 ?_
  obtain ⟨v5, ev5, hq⟩ := b_s hq
  refine gw_i (g_runV (As := [.int v4]) (rest := []) (ci := 10) hC (c_X8_doubledArea l V g D cT v2.2 n3 x2 v4 v5 ev5) k_X8_doubledArea m_1791 rfl rfl ⟨Nat.le_of_ble_eq_true rfl, Nat.le_of_ble_eq_true rfl⟩ hI rfl rfl (h_me_eq ev5).1 rfl hl.1 rfl (Nat.le_of_ble_eq_true rfl) dL_law_1815 ⟨(by have := hcap.1; show _ ≤ 601024; omega), (by have := hcap.2; show _ ≤ 7293034; omega)⟩) hI (fun H locs hI => ?_)
  refine lv_istore (lv' := [(7, .int v5.1), (6, .int v2.1), (0, .ref x0), (1, .ref x1), (2, .ref x2), (3, .ref x3), (4, .ref x4), (5, .int x5)]) hx hb dL_law_1818 hl (by decide) rfl (fun ls hl => ?_)
  refine lv_aload_n hx hb dL_law_1820 rfl (lv_at hl 4 rfl) ?_
  obtain ⟨v6, ev6, hq⟩ := b_s hq
  refine gr_i (g_runV (As := []) (rest := []) (ci := 10) hC (c_X8_thrown l V g D cT v5.2 n3 x2 v6 ev6) k_X8_thrown m_1610 rfl rfl ⟨Nat.le_of_ble_eq_true rfl, Nat.le_of_ble_eq_true rfl⟩ hI rfl rfl (h_me_eq ev6).1 rfl hl.1 rfl (Nat.le_of_ble_eq_true rfl) dL_law_1821 ⟨(by have := hcap.1; show _ ≤ 601024; omega), (by have := hcap.2; show _ ≤ 7293034; omega)⟩) hI (fun H locs hI => ?_)
  refine lv_iload hx hb dL_law_1824 (lv_at hl 1 rfl) ?_
  refine lv_icmp_eq (tgt := 1831) hx hb dL_law_1826 (by decide) (fun c7 => ?_) (fun c7 => ?_)
  · replace hq := i_t c7 hq
    refine lv_iload hx hb dL_law_1831 (lv_at hl 1 rfl) ?_
    refine lv_if_ne (tgt := 1848) hx hb dL_law_1833 (by decide) (fun c8 => ?_) (fun c8 => ?_)
    · replace hq := i_f c8 hq
      refine lv_goto (tgt := 3637) hx hb dL_law_1848 (by decide) ?_
      obtain rfl := Option.some.inj hq
      refine W.widen (k := cells + 17) (n := slots + 3206) (by omega) (by omega) ?_
      exact kk _ _ _ _ (by omega) hI (lv_sub hl [2, 3, 4, 5, 6, 7] rfl)
    · replace hq := i_t c8 hq
      refine lv_aload_n hx hb dL_law_1836 rfl (lv_at hl 5 rfl) ?_
      refine lv_iconst (v := (0 : Int32)) hx hb dL_law_1837 (by decide) ?_
      obtain ⟨v9, ev9, hq⟩ := b_s hq
      refine fa_ll hx hb hI ev9 dL_law_1838 ?_
      refine lv_iload hx hb dL_law_1839 (lv_at hl 0 rfl) ?_
      refine lv_i2l (v := v5.1.toInt64) hx hb dL_law_1841 rfl ?_
      refine lv_lcmpN hx hb dL_law_1842 ?_
      refine lv_if_eq (tgt := 1848) hx hb dL_law_1843 (by decide) (fun c10 => ?_) (fun c10 => ?_)
      · replace hq := i_t c10 hq
        refine lv_goto (tgt := 3637) hx hb dL_law_1848 (by decide) ?_
        obtain rfl := Option.some.inj hq
        refine W.widen (k := cells + 17) (n := slots + 3206) (by omega) (by omega) ?_
        exact kk _ _ _ _ (by omega) hI (lv_sub hl [2, 3, 4, 5, 6, 7] rfl)
      · replace hq := i_f c10 hq
        refine lv_iconst (v := (0 : Int32)) hx hb dL_law_1846 (by decide) ?_
        cases hq
  · replace hq := i_f c7 hq
    refine lv_iconst (v := (0 : Int32)) hx hb dL_law_1829 (by decide) ?_
    cases hq

set_option maxHeartbeats 4000000 in
set_option maxRecDepth 100000 in
theorem cs_26 {p : Program} {l : Launch} {e : Env} {s : State} {m : MethodId} {args : Array Value} {below : List Frame} {meth : Method} {c : Code} {V : Nat → Nat} {g : GH} {D : va_G} {cT : Nat → ClassId} (hl0 : l.stackTraces = false) (hx : p.tables.exec = Jvm.exec) (hb : c.code = cL_law) (hC : CallFix p m c cL_law 9 s args g_B RL) {Q : State → Prop} {f : GH} {n : Nat} (x0 x1 x2 x3 x4 : Nat) (x5 : Int32) {f1 : GH} (hq : p_case_26 V g f n x0 x1 x2 x3 x4 x5 = some f1) {H : Heap} {locs : List Loc} {cells slots : Nat} {ls : Array Slot} (hcap : cells + 17 ≤ 601024 ∧ slots + 3206 ≤ 7293034) (hI : g_at (g_A V) V g D cT f n s H locs) (hl : lv_has ls 9 [(0, .ref x0), (1, .ref x1), (2, .ref x2), (3, .ref x3), (4, .ref x4), (5, .int x5)])
    (kk : ∀ (H : Heap) (locs : List Loc) (ls : Array Slot) (n1 : Nat), n ≤ n1 → g_at (g_A V) V g D cT f1 n1 s H locs → lv_has ls 9 [(0, .ref x0), (1, .ref x1), (2, .ref x2), (3, .ref x3), (4, .ref x4), (5, .int x5)] → W p l e room_1 s m args below meth c H locs (cells + 17) (slots + 3206) Q (F0 m 3637 ls [])) : W p l e room_1 s m args below meth c H locs cells slots Q (F0 m 1851 ls []) := by
  obtain ⟨_, _, hml, hown, hB⟩ := id hC
  unfold p_case_26 at hq
  refine lv_aload_n hx hb dL_law_1851 rfl (lv_at hl 1 rfl) ?_
  refine lv_aload_n hx hb dL_law_1852 rfl (lv_at hl 0 rfl) ?_
  refine lv_iload hx hb dL_law_1853 (lv_at hl 5 rfl) ?_
  refine lv_iconst (v := (1 : Int32)) hx hb dL_law_1855 (by decide) ?_
  refine lv_iadd hx hb dL_law_1856 ?_
  obtain ⟨v1, ev1, hq⟩ := b_s hq
  refine fs_li hx hb hI ev1 dL_law_1857 ?_
  refine lv_aload_n hx hb dL_law_1858 rfl (lv_at hl 3 rfl) ?_
  obtain ⟨v2, ev2, hq⟩ := b_s hq
  refine gl_i (g_runSW (As := [.ref x1, .int v1, .ref x3]) (rest := []) hC (c_L_isCounterclockwise l hl0 V g D cT f n x1 v1 x3 v2 ev2) k_L_isCounterclockwise m_950 rfl rfl ⟨Nat.le_of_ble_eq_true rfl, Nat.le_of_ble_eq_true rfl⟩ hI rfl hl.1 rfl (Nat.le_of_ble_eq_true rfl) dL_law_1859 ⟨(by have := hcap.1; show _ ≤ 601024; omega), (by have := hcap.2; show _ ≤ 7293034; omega)⟩) hI (fun H locs n3 hn3 hI => ?_)
  refine lv_istore (lv' := [(6, .int v2.1), (0, .ref x0), (1, .ref x1), (2, .ref x2), (3, .ref x3), (4, .ref x4), (5, .int x5)]) hx hb dL_law_1862 hl (by decide) rfl (fun ls hl => ?_)
  refine lv_aload_n hx hb dL_law_1864 rfl (lv_at hl 3 rfl) ?_
  refine lv_aload_n hx hb dL_law_1865 rfl (lv_at hl 1 rfl) ?_
  refine lv_iload hx hb dL_law_1866 (lv_at hl 6 rfl) ?_
  refine lv_iconst (v := (1 : Int32)) hx hb dL_law_1868 (by decide) ?_
  refine lv_iadd hx hb dL_law_1869 ?_
  obtain ⟨v4, ev4, hq⟩ := b_s hq
  refine fs_li hx hb hI ev4 dL_law_1870 ?_
  obtain ⟨v5, ev5, hq⟩ := b_s hq
  refine gw_i (g_runV (As := [.int v4]) (rest := []) (ci := 10) hC (c_X8_isCounterclockwise l V g D cT v2.2 n3 x2 v4 v5 ev5) k_X8_isCounterclockwise m_1807 rfl rfl ⟨Nat.le_of_ble_eq_true rfl, Nat.le_of_ble_eq_true rfl⟩ hI rfl rfl (h_me_eq ev5).1 rfl hl.1 rfl (Nat.le_of_ble_eq_true rfl) dL_law_1871 ⟨(by have := hcap.1; show _ ≤ 601024; omega), (by have := hcap.2; show _ ≤ 7293034; omega)⟩) hI (fun H locs hI => ?_)
  refine lv_istore (lv' := [(7, .int v5.1), (6, .int v2.1), (0, .ref x0), (1, .ref x1), (2, .ref x2), (3, .ref x3), (4, .ref x4), (5, .int x5)]) hx hb dL_law_1874 hl (by decide) rfl (fun ls hl => ?_)
  refine lv_aload_n hx hb dL_law_1876 rfl (lv_at hl 4 rfl) ?_
  obtain ⟨v6, ev6, hq⟩ := b_s hq
  refine gr_i (g_runV (As := []) (rest := []) (ci := 10) hC (c_X8_thrown l V g D cT v5.2 n3 x2 v6 ev6) k_X8_thrown m_1610 rfl rfl ⟨Nat.le_of_ble_eq_true rfl, Nat.le_of_ble_eq_true rfl⟩ hI rfl rfl (h_me_eq ev6).1 rfl hl.1 rfl (Nat.le_of_ble_eq_true rfl) dL_law_1877 ⟨(by have := hcap.1; show _ ≤ 601024; omega), (by have := hcap.2; show _ ≤ 7293034; omega)⟩) hI (fun H locs hI => ?_)
  refine lv_iload hx hb dL_law_1880 (lv_at hl 1 rfl) ?_
  refine lv_icmp_eq (tgt := 1887) hx hb dL_law_1882 (by decide) (fun c7 => ?_) (fun c7 => ?_)
  · replace hq := i_t c7 hq
    refine lv_iload hx hb dL_law_1887 (lv_at hl 1 rfl) ?_
    refine lv_if_ne (tgt := 1911) hx hb dL_law_1889 (by decide) (fun c8 => ?_) (fun c8 => ?_)
    · replace hq := i_f c8 hq
      refine lv_goto (tgt := 3637) hx hb dL_law_1911 (by decide) ?_
      obtain rfl := Option.some.inj hq
      refine W.widen (k := cells + 17) (n := slots + 3206) (by omega) (by omega) ?_
      exact kk _ _ _ _ (by omega) hI (lv_sub hl [2, 3, 4, 5, 6, 7] rfl)
    · replace hq := i_t c8 hq
      refine lv_aload_n hx hb dL_law_1892 rfl (lv_at hl 5 rfl) ?_
      refine lv_iconst (v := (0 : Int32)) hx hb dL_law_1893 (by decide) ?_
      obtain ⟨v9, ev9, hq⟩ := b_s hq
      refine fa_ll hx hb hI ev9 dL_law_1894 ?_
      refine lv_iload hx hb dL_law_1895 (lv_at hl 0 rfl) ?_
      refine lv_if_eq (tgt := 1904) hx hb dL_law_1897 (by decide) (fun c10 => ?_) (fun c10 => ?_)
      · replace hq := i_t c10 hq
        refine lv_lconst (v := 0) hx hb dL_law_1904 rfl ?_
        refine lv_lcmpN hx hb dL_law_1905 ?_
        refine lv_if_eq (tgt := 1911) hx hb dL_law_1906 (by decide) (fun c11 => ?_) (fun c11 => ?_)
        · replace hq := i_t c11 hq
          refine lv_goto (tgt := 3637) hx hb dL_law_1911 (by decide) ?_
          obtain rfl := Option.some.inj hq
          refine W.widen (k := cells + 17) (n := slots + 3206) (by omega) (by omega) ?_
          exact kk _ _ _ _ (by omega) hI (lv_sub hl [2, 3, 4, 5, 6, 7] rfl)
        · replace hq := i_f c11 hq
          refine lv_iconst (v := (0 : Int32)) hx hb dL_law_1909 (by decide) ?_
          cases hq
      · replace hq := i_f c10 hq
        refine lv_lconst (v := 1) hx hb dL_law_1900 rfl ?_
        refine lv_goto (tgt := 1905) hx hb dL_law_1901 (by decide) ?_
        refine lv_lcmpN hx hb dL_law_1905 ?_
        refine lv_if_eq (tgt := 1911) hx hb dL_law_1906 (by decide) (fun c12 => ?_) (fun c12 => ?_)
        · replace hq := i_t c12 hq
          refine lv_goto (tgt := 3637) hx hb dL_law_1911 (by decide) ?_
          obtain rfl := Option.some.inj hq
          refine W.widen (k := cells + 17) (n := slots + 3206) (by omega) (by omega) ?_
          exact kk _ _ _ _ (by omega) hI (lv_sub hl [2, 3, 4, 5, 6, 7] rfl)
        · replace hq := i_f c12 hq
          refine lv_iconst (v := (0 : Int32)) hx hb dL_law_1909 (by decide) ?_
          cases hq
  · replace hq := i_f c7 hq
    refine lv_iconst (v := (0 : Int32)) hx hb dL_law_1885 (by decide) ?_
    cases hq

set_option maxHeartbeats 4000000 in
set_option maxRecDepth 100000 in
theorem cs_27 {p : Program} {l : Launch} {e : Env} {s : State} {m : MethodId} {args : Array Value} {below : List Frame} {meth : Method} {c : Code} {V : Nat → Nat} {g : GH} {D : va_G} {cT : Nat → ClassId} (hl0 : l.stackTraces = false) (hx : p.tables.exec = Jvm.exec) (hb : c.code = cL_law) (hC : CallFix p m c cL_law 9 s args g_B RL) {Q : State → Prop} {f : GH} {n : Nat} (x0 x1 x2 x3 x4 : Nat) (x5 : Int32) {f1 : GH} (hq : p_case_27 V g f n x0 x1 x2 x3 x4 x5 = some f1) {H : Heap} {locs : List Loc} {cells slots : Nat} {ls : Array Slot} (hcap : cells + 17 ≤ 601024 ∧ slots + 3206 ≤ 7293034) (hI : g_at (g_A V) V g D cT f n s H locs) (hl : lv_has ls 9 [(0, .ref x0), (1, .ref x1), (2, .ref x2), (3, .ref x3), (4, .ref x4), (5, .int x5)])
    (kk : ∀ (H : Heap) (locs : List Loc) (ls : Array Slot) (n1 : Nat), n ≤ n1 → g_at (g_A V) V g D cT f1 n1 s H locs → lv_has ls 9 [(0, .ref x0), (1, .ref x1), (2, .ref x2), (3, .ref x3), (4, .ref x4), (5, .int x5)] → W p l e room_1 s m args below meth c H locs (cells + 17) (slots + 3206) Q (F0 m 3637 ls [])) : W p l e room_1 s m args below meth c H locs cells slots Q (F0 m 1914 ls []) := by
  obtain ⟨_, _, hml, hown, hB⟩ := id hC
  unfold p_case_27 at hq
  refine lv_aload_n hx hb dL_law_1914 rfl (lv_at hl 1 rfl) ?_
  refine lv_aload_n hx hb dL_law_1915 rfl (lv_at hl 0 rfl) ?_
  refine lv_iload hx hb dL_law_1916 (lv_at hl 5 rfl) ?_
  refine lv_iconst (v := (1 : Int32)) hx hb dL_law_1918 (by decide) ?_
  refine lv_iadd hx hb dL_law_1919 ?_
  obtain ⟨v1, ev1, hq⟩ := b_s hq
  refine fs_li hx hb hI ev1 dL_law_1920 ?_
  refine lv_aload_n hx hb dL_law_1921 rfl (lv_at hl 0 rfl) ?_
  refine lv_iload hx hb dL_law_1922 (lv_at hl 5 rfl) ?_
  refine lv_iconst (v := (2 : Int32)) hx hb dL_law_1924 (by decide) ?_
  refine lv_iadd hx hb dL_law_1925 ?_
  obtain ⟨v2, ev2, hq⟩ := b_s hq
  refine fs_li hx hb hI ev2 dL_law_1926 ?_
  refine lv_aload_n hx hb dL_law_1927 rfl (lv_at hl 0 rfl) ?_
  refine lv_iload hx hb dL_law_1928 (lv_at hl 5 rfl) ?_
  refine lv_iconst (v := (3 : Int32)) hx hb dL_law_1930 (by decide) ?_
  refine lv_iadd hx hb dL_law_1931 ?_
  obtain ⟨v3, ev3, hq⟩ := b_s hq
  refine fs_li hx hb hI ev3 dL_law_1932 ?_
  refine lv_aload_n hx hb dL_law_1933 rfl (lv_at hl 3 rfl) ?_
  obtain ⟨v4, ev4, hq⟩ := b_s hq
  refine gl_i (g_runSW (As := [.ref x1, .int v1, .int v2, .int v3, .ref x3]) (rest := []) hC (c_L_contains l hl0 V g D cT f n x1 v1 v2 v3 x3 v4 ev4) k_L_contains m_957 rfl rfl ⟨Nat.le_of_ble_eq_true rfl, Nat.le_of_ble_eq_true rfl⟩ hI rfl hl.1 rfl (Nat.le_of_ble_eq_true rfl) dL_law_1934 ⟨(by have := hcap.1; show _ ≤ 601024; omega), (by have := hcap.2; show _ ≤ 7293034; omega)⟩) hI (fun H locs n5 hn5 hI => ?_)
  refine lv_istore (lv' := [(6, .int v4.1), (0, .ref x0), (1, .ref x1), (2, .ref x2), (3, .ref x3), (4, .ref x4), (5, .int x5)]) hx hb dL_law_1937 hl (by decide) rfl (fun ls hl => ?_)
  refine lv_aload_n hx hb dL_law_1939 rfl (lv_at hl 3 rfl) ?_
  refine lv_aload_n hx hb dL_law_1940 rfl (lv_at hl 1 rfl) ?_
  refine lv_iload hx hb dL_law_1941 (lv_at hl 6 rfl) ?_
  refine lv_iconst (v := (1 : Int32)) hx hb dL_law_1943 (by decide) ?_
  refine lv_iadd hx hb dL_law_1944 ?_
  obtain ⟨v6, ev6, hq⟩ := b_s hq
  refine fs_li hx hb hI ev6 dL_law_1945 ?_
  refine lv_aload_n hx hb dL_law_1946 rfl (lv_at hl 1 rfl) ?_
  refine lv_iload hx hb dL_law_1947 (lv_at hl 6 rfl) ?_
  refine lv_iconst (v := (2 : Int32)) hx hb dL_law_1949 (by decide) ?_
  refine lv_iadd hx hb dL_law_1950 ?_
  obtain ⟨v7, ev7, hq⟩ := b_s hq
  refine fs_li hx hb hI ev7 dL_law_1951 ?_
  refine lv_aload_n hx hb dL_law_1952 rfl (lv_at hl 1 rfl) ?_
  refine lv_iload hx hb dL_law_1953 (lv_at hl 6 rfl) ?_
  refine lv_iconst (v := (3 : Int32)) hx hb dL_law_1955 (by decide) ?_
  refine lv_iadd hx hb dL_law_1956 ?_
  obtain ⟨v8, ev8, hq⟩ := b_s hq
  refine fs_li hx hb hI ev8 dL_law_1957 ?_
  obtain ⟨v9, ev9, hq⟩ := b_s hq
  refine gw_i (g_runV (As := [.int v6, .int v7, .int v8]) (rest := []) (ci := 10) hC (c_X8_contains l V g D cT v4.2 n5 x2 v6 v7 v8 v9 ev9) k_X8_contains m_1811 rfl rfl ⟨Nat.le_of_ble_eq_true rfl, Nat.le_of_ble_eq_true rfl⟩ hI rfl rfl (h_me_eq ev9).1 rfl hl.1 rfl (Nat.le_of_ble_eq_true rfl) dL_law_1958 ⟨(by have := hcap.1; show _ ≤ 601024; omega), (by have := hcap.2; show _ ≤ 7293034; omega)⟩) hI (fun H locs hI => ?_)
  refine lv_istore (lv' := [(7, .int v9.1), (6, .int v4.1), (0, .ref x0), (1, .ref x1), (2, .ref x2), (3, .ref x3), (4, .ref x4), (5, .int x5)]) hx hb dL_law_1961 hl (by decide) rfl (fun ls hl => ?_)
  refine lv_aload_n hx hb dL_law_1963 rfl (lv_at hl 4 rfl) ?_
  obtain ⟨v10, ev10, hq⟩ := b_s hq
  refine gr_i (g_runV (As := []) (rest := []) (ci := 10) hC (c_X8_thrown l V g D cT v9.2 n5 x2 v10 ev10) k_X8_thrown m_1610 rfl rfl ⟨Nat.le_of_ble_eq_true rfl, Nat.le_of_ble_eq_true rfl⟩ hI rfl rfl (h_me_eq ev10).1 rfl hl.1 rfl (Nat.le_of_ble_eq_true rfl) dL_law_1964 ⟨(by have := hcap.1; show _ ≤ 601024; omega), (by have := hcap.2; show _ ≤ 7293034; omega)⟩) hI (fun H locs hI => ?_)
  refine lv_iload hx hb dL_law_1967 (lv_at hl 1 rfl) ?_
  refine lv_icmp_eq (tgt := 1974) hx hb dL_law_1969 (by decide) (fun c11 => ?_) (fun c11 => ?_)
  · replace hq := i_t c11 hq
    refine lv_iload hx hb dL_law_1974 (lv_at hl 1 rfl) ?_
    refine lv_if_ne (tgt := 1998) hx hb dL_law_1976 (by decide) (fun c12 => ?_) (fun c12 => ?_)
    · replace hq := i_f c12 hq
      refine lv_goto (tgt := 3637) hx hb dL_law_1998 (by decide) ?_
      obtain rfl := Option.some.inj hq
      refine W.widen (k := cells + 17) (n := slots + 3206) (by omega) (by omega) ?_
      exact kk _ _ _ _ (by omega) hI (lv_sub hl [2, 3, 4, 5, 6, 7] rfl)
    · replace hq := i_t c12 hq
      refine lv_aload_n hx hb dL_law_1979 rfl (lv_at hl 5 rfl) ?_
      refine lv_iconst (v := (0 : Int32)) hx hb dL_law_1980 (by decide) ?_
      obtain ⟨v13, ev13, hq⟩ := b_s hq
      refine fa_ll hx hb hI ev13 dL_law_1981 ?_
      refine lv_iload hx hb dL_law_1982 (lv_at hl 0 rfl) ?_
      refine lv_if_eq (tgt := 1991) hx hb dL_law_1984 (by decide) (fun c14 => ?_) (fun c14 => ?_)
      · replace hq := i_t c14 hq
        refine lv_lconst (v := 0) hx hb dL_law_1991 rfl ?_
        refine lv_lcmpN hx hb dL_law_1992 ?_
        refine lv_if_eq (tgt := 1998) hx hb dL_law_1993 (by decide) (fun c15 => ?_) (fun c15 => ?_)
        · replace hq := i_t c15 hq
          refine lv_goto (tgt := 3637) hx hb dL_law_1998 (by decide) ?_
          obtain rfl := Option.some.inj hq
          refine W.widen (k := cells + 17) (n := slots + 3206) (by omega) (by omega) ?_
          exact kk _ _ _ _ (by omega) hI (lv_sub hl [2, 3, 4, 5, 6, 7] rfl)
        · replace hq := i_f c15 hq
          refine lv_iconst (v := (0 : Int32)) hx hb dL_law_1996 (by decide) ?_
          cases hq
      · replace hq := i_f c14 hq
        refine lv_lconst (v := 1) hx hb dL_law_1987 rfl ?_
        refine lv_goto (tgt := 1992) hx hb dL_law_1988 (by decide) ?_
        refine lv_lcmpN hx hb dL_law_1992 ?_
        refine lv_if_eq (tgt := 1998) hx hb dL_law_1993 (by decide) (fun c16 => ?_) (fun c16 => ?_)
        · replace hq := i_t c16 hq
          refine lv_goto (tgt := 3637) hx hb dL_law_1998 (by decide) ?_
          obtain rfl := Option.some.inj hq
          refine W.widen (k := cells + 17) (n := slots + 3206) (by omega) (by omega) ?_
          exact kk _ _ _ _ (by omega) hI (lv_sub hl [2, 3, 4, 5, 6, 7] rfl)
        · replace hq := i_f c16 hq
          refine lv_iconst (v := (0 : Int32)) hx hb dL_law_1996 (by decide) ?_
          cases hq
  · replace hq := i_f c11 hq
    refine lv_iconst (v := (0 : Int32)) hx hb dL_law_1972 (by decide) ?_
    cases hq

set_option maxHeartbeats 4000000 in
set_option maxRecDepth 100000 in
theorem cs_28 {p : Program} {l : Launch} {e : Env} {s : State} {m : MethodId} {args : Array Value} {below : List Frame} {meth : Method} {c : Code} {V : Nat → Nat} {g : GH} {D : va_G} {cT : Nat → ClassId} (hl0 : l.stackTraces = false) (hx : p.tables.exec = Jvm.exec) (hb : c.code = cL_law) (hC : CallFix p m c cL_law 9 s args g_B RL) {Q : State → Prop} {f : GH} {n : Nat} (x0 x1 x2 x3 x4 : Nat) (x5 : Int32) {f1 : GH} (hq : p_case_28 V g f n x0 x1 x2 x3 x4 x5 = some f1) {H : Heap} {locs : List Loc} {cells slots : Nat} {ls : Array Slot} (hcap : cells + 17 ≤ 601024 ∧ slots + 3206 ≤ 7293034) (hI : g_at (g_A V) V g D cT f n s H locs) (hl : lv_has ls 9 [(0, .ref x0), (1, .ref x1), (2, .ref x2), (3, .ref x3), (4, .ref x4), (5, .int x5)])
    (kk : ∀ (H : Heap) (locs : List Loc) (ls : Array Slot) (n1 : Nat), n ≤ n1 → g_at (g_A V) V g D cT f1 n1 s H locs → lv_has ls 9 [(0, .ref x0), (1, .ref x1), (2, .ref x2), (3, .ref x3), (4, .ref x4), (5, .int x5)] → W p l e room_1 s m args below meth c H locs (cells + 17) (slots + 3206) Q (F0 m 3637 ls [])) : W p l e room_1 s m args below meth c H locs cells slots Q (F0 m 2001 ls []) := by
  obtain ⟨_, _, hml, hown, hB⟩ := id hC
  unfold p_case_28 at hq
  refine lv_aload_n hx hb dL_law_2001 rfl (lv_at hl 1 rfl) ?_
  refine lv_aload_n hx hb dL_law_2002 rfl (lv_at hl 0 rfl) ?_
  refine lv_iload hx hb dL_law_2003 (lv_at hl 5 rfl) ?_
  refine lv_iconst (v := (1 : Int32)) hx hb dL_law_2005 (by decide) ?_
  refine lv_iadd hx hb dL_law_2006 ?_
  obtain ⟨v1, ev1, hq⟩ := b_s hq
  refine fs_li hx hb hI ev1 dL_law_2007 ?_
  refine lv_aload_n hx hb dL_law_2008 rfl (lv_at hl 0 rfl) ?_
  refine lv_iload hx hb dL_law_2009 (lv_at hl 5 rfl) ?_
  refine lv_iconst (v := (2 : Int32)) hx hb dL_law_2011 (by decide) ?_
  refine lv_iadd hx hb dL_law_2012 ?_
  obtain ⟨v2, ev2, hq⟩ := b_s hq
  refine fs_li hx hb hI ev2 dL_law_2013 ?_
  refine lv_aload_n hx hb dL_law_2014 rfl (lv_at hl 3 rfl) ?_
  obtain ⟨v3, ev3, hq⟩ := b_s hq
  refine gl_i (g_runSW (As := [.ref x1, .int v1, .int v2, .ref x3]) (rest := []) hC (c_L_encloses l hl0 V g D cT f n x1 v1 v2 x3 v3 ev3) k_L_encloses m_983 rfl rfl ⟨Nat.le_of_ble_eq_true rfl, Nat.le_of_ble_eq_true rfl⟩ hI rfl hl.1 rfl (Nat.le_of_ble_eq_true rfl) dL_law_2015 ⟨(by have := hcap.1; show _ ≤ 601024; omega), (by have := hcap.2; show _ ≤ 7293034; omega)⟩) hI (fun H locs n4 hn4 hI => ?_)
  refine lv_istore (lv' := [(6, .int v3.1), (0, .ref x0), (1, .ref x1), (2, .ref x2), (3, .ref x3), (4, .ref x4), (5, .int x5)]) hx hb dL_law_2018 hl (by decide) rfl (fun ls hl => ?_)
  refine lv_aload_n hx hb dL_law_2020 rfl (lv_at hl 3 rfl) ?_
  refine lv_aload_n hx hb dL_law_2021 rfl (lv_at hl 1 rfl) ?_
  refine lv_iload hx hb dL_law_2022 (lv_at hl 6 rfl) ?_
  refine lv_iconst (v := (1 : Int32)) hx hb dL_law_2024 (by decide) ?_
  refine lv_iadd hx hb dL_law_2025 ?_
  obtain ⟨v5, ev5, hq⟩ := b_s hq
  refine fs_li hx hb hI ev5 dL_law_2026 ?_
  refine lv_aload_n hx hb dL_law_2027 rfl (lv_at hl 1 rfl) ?_
  refine lv_iload hx hb dL_law_2028 (lv_at hl 6 rfl) ?_
  refine lv_iconst (v := (2 : Int32)) hx hb dL_law_2030 (by decide) ?_
  refine lv_iadd hx hb dL_law_2031 ?_
  obtain ⟨v6, ev6, hq⟩ := b_s hq
  refine fs_li hx hb hI ev6 dL_law_2032 ?_
  obtain ⟨v7, ev7, hq⟩ := b_s hq
  refine gw_i (g_runV (As := [.int v5, .int v6]) (rest := []) (ci := 10) hC (c_X8_encloses l V g D cT v3.2 n4 x2 v5 v6 v7 ev7) k_X8_encloses m_1837 rfl rfl ⟨Nat.le_of_ble_eq_true rfl, Nat.le_of_ble_eq_true rfl⟩ hI rfl rfl (h_me_eq ev7).1 rfl hl.1 rfl (Nat.le_of_ble_eq_true rfl) dL_law_2033 ⟨(by have := hcap.1; show _ ≤ 601024; omega), (by have := hcap.2; show _ ≤ 7293034; omega)⟩) hI (fun H locs hI => ?_)
  refine lv_istore (lv' := [(7, .int v7.1), (6, .int v3.1), (0, .ref x0), (1, .ref x1), (2, .ref x2), (3, .ref x3), (4, .ref x4), (5, .int x5)]) hx hb dL_law_2036 hl (by decide) rfl (fun ls hl => ?_)
  refine lv_aload_n hx hb dL_law_2038 rfl (lv_at hl 4 rfl) ?_
  obtain ⟨v8, ev8, hq⟩ := b_s hq
  refine gr_i (g_runV (As := []) (rest := []) (ci := 10) hC (c_X8_thrown l V g D cT v7.2 n4 x2 v8 ev8) k_X8_thrown m_1610 rfl rfl ⟨Nat.le_of_ble_eq_true rfl, Nat.le_of_ble_eq_true rfl⟩ hI rfl rfl (h_me_eq ev8).1 rfl hl.1 rfl (Nat.le_of_ble_eq_true rfl) dL_law_2039 ⟨(by have := hcap.1; show _ ≤ 601024; omega), (by have := hcap.2; show _ ≤ 7293034; omega)⟩) hI (fun H locs hI => ?_)
  refine lv_iload hx hb dL_law_2042 (lv_at hl 1 rfl) ?_
  refine lv_icmp_eq (tgt := 2049) hx hb dL_law_2044 (by decide) (fun c9 => ?_) (fun c9 => ?_)
  · replace hq := i_t c9 hq
    refine lv_iload hx hb dL_law_2049 (lv_at hl 1 rfl) ?_
    refine lv_if_ne (tgt := 2073) hx hb dL_law_2051 (by decide) (fun c10 => ?_) (fun c10 => ?_)
    · replace hq := i_f c10 hq
      refine lv_goto (tgt := 3637) hx hb dL_law_2073 (by decide) ?_
      obtain rfl := Option.some.inj hq
      refine W.widen (k := cells + 17) (n := slots + 3206) (by omega) (by omega) ?_
      exact kk _ _ _ _ (by omega) hI (lv_sub hl [2, 3, 4, 5, 6, 7] rfl)
    · replace hq := i_t c10 hq
      refine lv_aload_n hx hb dL_law_2054 rfl (lv_at hl 5 rfl) ?_
      refine lv_iconst (v := (0 : Int32)) hx hb dL_law_2055 (by decide) ?_
      obtain ⟨v11, ev11, hq⟩ := b_s hq
      refine fa_ll hx hb hI ev11 dL_law_2056 ?_
      refine lv_iload hx hb dL_law_2057 (lv_at hl 0 rfl) ?_
      refine lv_if_eq (tgt := 2066) hx hb dL_law_2059 (by decide) (fun c12 => ?_) (fun c12 => ?_)
      · replace hq := i_t c12 hq
        refine lv_lconst (v := 0) hx hb dL_law_2066 rfl ?_
        refine lv_lcmpN hx hb dL_law_2067 ?_
        refine lv_if_eq (tgt := 2073) hx hb dL_law_2068 (by decide) (fun c13 => ?_) (fun c13 => ?_)
        · replace hq := i_t c13 hq
          refine lv_goto (tgt := 3637) hx hb dL_law_2073 (by decide) ?_
          obtain rfl := Option.some.inj hq
          refine W.widen (k := cells + 17) (n := slots + 3206) (by omega) (by omega) ?_
          exact kk _ _ _ _ (by omega) hI (lv_sub hl [2, 3, 4, 5, 6, 7] rfl)
        · replace hq := i_f c13 hq
          refine lv_iconst (v := (0 : Int32)) hx hb dL_law_2071 (by decide) ?_
          cases hq
      · replace hq := i_f c12 hq
        refine lv_lconst (v := 1) hx hb dL_law_2062 rfl ?_
        refine lv_goto (tgt := 2067) hx hb dL_law_2063 (by decide) ?_
        refine lv_lcmpN hx hb dL_law_2067 ?_
        refine lv_if_eq (tgt := 2073) hx hb dL_law_2068 (by decide) (fun c14 => ?_) (fun c14 => ?_)
        · replace hq := i_t c14 hq
          refine lv_goto (tgt := 3637) hx hb dL_law_2073 (by decide) ?_
          obtain rfl := Option.some.inj hq
          refine W.widen (k := cells + 17) (n := slots + 3206) (by omega) (by omega) ?_
          exact kk _ _ _ _ (by omega) hI (lv_sub hl [2, 3, 4, 5, 6, 7] rfl)
        · replace hq := i_f c14 hq
          refine lv_iconst (v := (0 : Int32)) hx hb dL_law_2071 (by decide) ?_
          cases hq
  · replace hq := i_f c9 hq
    refine lv_iconst (v := (0 : Int32)) hx hb dL_law_2047 (by decide) ?_
    cases hq

set_option maxHeartbeats 4000000 in
set_option maxRecDepth 100000 in
theorem cs_29 {p : Program} {l : Launch} {e : Env} {s : State} {m : MethodId} {args : Array Value} {below : List Frame} {meth : Method} {c : Code} {V : Nat → Nat} {g : GH} {D : va_G} {cT : Nat → ClassId} (hl0 : l.stackTraces = false) (hx : p.tables.exec = Jvm.exec) (hb : c.code = cL_law) (hC : CallFix p m c cL_law 9 s args g_B RL) {Q : State → Prop} {f : GH} {n : Nat} (x0 x1 x2 x3 x4 : Nat) (x5 : Int32) {f1 : GH} (hq : p_case_29 V g f n x0 x1 x2 x3 x4 x5 = some f1) {H : Heap} {locs : List Loc} {cells slots : Nat} {ls : Array Slot} (hcap : cells + 17 ≤ 601024 ∧ slots + 3206 ≤ 7293034) (hI : g_at (g_A V) V g D cT f n s H locs) (hl : lv_has ls 9 [(0, .ref x0), (1, .ref x1), (2, .ref x2), (3, .ref x3), (4, .ref x4), (5, .int x5)])
    (kk : ∀ (H : Heap) (locs : List Loc) (ls : Array Slot) (n1 : Nat), n ≤ n1 → g_at (g_A V) V g D cT f1 n1 s H locs → lv_has ls 9 [(0, .ref x0), (1, .ref x1), (2, .ref x2), (3, .ref x3), (4, .ref x4), (5, .int x5)] → W p l e room_1 s m args below meth c H locs (cells + 17) (slots + 3206) Q (F0 m 3637 ls [])) : W p l e room_1 s m args below meth c H locs cells slots Q (F0 m 2076 ls []) := by
  obtain ⟨_, _, hml, hown, hB⟩ := id hC
  unfold p_case_29 at hq
  refine lv_aload_n hx hb dL_law_2076 rfl (lv_at hl 1 rfl) ?_
  refine lv_aload_n hx hb dL_law_2077 rfl (lv_at hl 0 rfl) ?_
  refine lv_iload hx hb dL_law_2078 (lv_at hl 5 rfl) ?_
  refine lv_iconst (v := (1 : Int32)) hx hb dL_law_2080 (by decide) ?_
  refine lv_iadd hx hb dL_law_2081 ?_
  obtain ⟨v1, ev1, hq⟩ := b_s hq
  refine fs_li hx hb hI ev1 dL_law_2082 ?_
  refine lv_aload_n hx hb dL_law_2083 rfl (lv_at hl 3 rfl) ?_
  obtain ⟨v2, ev2, hq⟩ := b_s hq
  refine gl_i (g_runSW (As := [.ref x1, .int v1, .ref x3]) (rest := []) hC (c_L_innermostIslandAround l hl0 V g D cT f n x1 v1 x3 v2 ev2) k_L_innermostIslandAround m_995 rfl rfl ⟨Nat.le_of_ble_eq_true rfl, Nat.le_of_ble_eq_true rfl⟩ hI rfl hl.1 rfl (Nat.le_of_ble_eq_true rfl) dL_law_2084 ⟨(by have := hcap.1; show _ ≤ 601024; omega), (by have := hcap.2; show _ ≤ 7293034; omega)⟩) hI (fun H locs n3 hn3 hI => ?_)
  refine lv_istore (lv' := [(6, .int v2.1), (0, .ref x0), (1, .ref x1), (2, .ref x2), (3, .ref x3), (4, .ref x4), (5, .int x5)]) hx hb dL_law_2087 hl (by decide) rfl (fun ls hl => ?_)
  refine lv_aload_n hx hb dL_law_2089 rfl (lv_at hl 3 rfl) ?_
  refine lv_aload_n hx hb dL_law_2090 rfl (lv_at hl 1 rfl) ?_
  refine lv_iload hx hb dL_law_2091 (lv_at hl 6 rfl) ?_
  refine lv_iconst (v := (1 : Int32)) hx hb dL_law_2093 (by decide) ?_
  refine lv_iadd hx hb dL_law_2094 ?_
  obtain ⟨v4, ev4, hq⟩ := b_s hq
  refine fs_li hx hb hI ev4 dL_law_2095 ?_
  obtain ⟨v5, ev5, hq⟩ := b_s hq
  refine gw_i (g_runV (As := [.int v4]) (rest := []) (ci := 10) hC (c_X8_innermostIslandAround l V g D cT v2.2 n3 x2 v4 v5 ev5) k_X8_innermostIslandAround m_1845 rfl rfl ⟨Nat.le_of_ble_eq_true rfl, Nat.le_of_ble_eq_true rfl⟩ hI rfl rfl (h_me_eq ev5).1 rfl hl.1 rfl (Nat.le_of_ble_eq_true rfl) dL_law_2096 ⟨(by have := hcap.1; show _ ≤ 601024; omega), (by have := hcap.2; show _ ≤ 7293034; omega)⟩) hI (fun H locs hI => ?_)
  refine lv_istore (lv' := [(7, .int v5.1), (6, .int v2.1), (0, .ref x0), (1, .ref x1), (2, .ref x2), (3, .ref x3), (4, .ref x4), (5, .int x5)]) hx hb dL_law_2099 hl (by decide) rfl (fun ls hl => ?_)
  refine lv_aload_n hx hb dL_law_2101 rfl (lv_at hl 4 rfl) ?_
  obtain ⟨v6, ev6, hq⟩ := b_s hq
  refine gr_i (g_runV (As := []) (rest := []) (ci := 10) hC (c_X8_thrown l V g D cT v5.2 n3 x2 v6 ev6) k_X8_thrown m_1610 rfl rfl ⟨Nat.le_of_ble_eq_true rfl, Nat.le_of_ble_eq_true rfl⟩ hI rfl rfl (h_me_eq ev6).1 rfl hl.1 rfl (Nat.le_of_ble_eq_true rfl) dL_law_2102 ⟨(by have := hcap.1; show _ ≤ 601024; omega), (by have := hcap.2; show _ ≤ 7293034; omega)⟩) hI (fun H locs hI => ?_)
  refine lv_iload hx hb dL_law_2105 (lv_at hl 1 rfl) ?_
  refine lv_icmp_eq (tgt := 2112) hx hb dL_law_2107 (by decide) (fun c7 => ?_) (fun c7 => ?_)
  · replace hq := i_t c7 hq
    refine lv_iload hx hb dL_law_2112 (lv_at hl 1 rfl) ?_
    refine lv_if_ne (tgt := 2129) hx hb dL_law_2114 (by decide) (fun c8 => ?_) (fun c8 => ?_)
    · replace hq := i_f c8 hq
      refine lv_goto (tgt := 3637) hx hb dL_law_2129 (by decide) ?_
      obtain rfl := Option.some.inj hq
      refine W.widen (k := cells + 17) (n := slots + 3206) (by omega) (by omega) ?_
      exact kk _ _ _ _ (by omega) hI (lv_sub hl [2, 3, 4, 5, 6, 7] rfl)
    · replace hq := i_t c8 hq
      refine lv_aload_n hx hb dL_law_2117 rfl (lv_at hl 5 rfl) ?_
      refine lv_iconst (v := (0 : Int32)) hx hb dL_law_2118 (by decide) ?_
      obtain ⟨v9, ev9, hq⟩ := b_s hq
      refine fa_ll hx hb hI ev9 dL_law_2119 ?_
      refine lv_iload hx hb dL_law_2120 (lv_at hl 0 rfl) ?_
      refine lv_i2l (v := v5.1.toInt64) hx hb dL_law_2122 rfl ?_
      refine lv_lcmpN hx hb dL_law_2123 ?_
      refine lv_if_eq (tgt := 2129) hx hb dL_law_2124 (by decide) (fun c10 => ?_) (fun c10 => ?_)
      · replace hq := i_t c10 hq
        refine lv_goto (tgt := 3637) hx hb dL_law_2129 (by decide) ?_
        obtain rfl := Option.some.inj hq
        refine W.widen (k := cells + 17) (n := slots + 3206) (by omega) (by omega) ?_
        exact kk _ _ _ _ (by omega) hI (lv_sub hl [2, 3, 4, 5, 6, 7] rfl)
      · replace hq := i_f c10 hq
        refine lv_iconst (v := (0 : Int32)) hx hb dL_law_2127 (by decide) ?_
        cases hq
  · replace hq := i_f c7 hq
    refine lv_iconst (v := (0 : Int32)) hx hb dL_law_2110 (by decide) ?_
    cases hq

set_option maxHeartbeats 4000000 in
set_option maxRecDepth 100000 in
theorem cs_30 {p : Program} {l : Launch} {e : Env} {s : State} {m : MethodId} {args : Array Value} {below : List Frame} {meth : Method} {c : Code} {V : Nat → Nat} {g : GH} {D : va_G} {cT : Nat → ClassId} (hl0 : l.stackTraces = false) (hx : p.tables.exec = Jvm.exec) (hb : c.code = cL_law) (hC : CallFix p m c cL_law 9 s args g_B RL) {Q : State → Prop} {f : GH} {n : Nat} (x0 x1 x2 x3 x4 : Nat) (x5 : Int32) {f1 : GH} (hq : p_case_30 V g f n x0 x1 x2 x3 x4 x5 = some f1) {H : Heap} {locs : List Loc} {cells slots : Nat} {ls : Array Slot} (hcap : cells + 17 ≤ 601024 ∧ slots + 3206 ≤ 7293034) (hI : g_at (g_A V) V g D cT f n s H locs) (hl : lv_has ls 9 [(0, .ref x0), (1, .ref x1), (2, .ref x2), (3, .ref x3), (4, .ref x4), (5, .int x5)])
    (kk : ∀ (H : Heap) (locs : List Loc) (ls : Array Slot) (n1 : Nat), n ≤ n1 → g_at (g_A V) V g D cT f1 n1 s H locs → lv_has ls 9 [(0, .ref x0), (1, .ref x1), (2, .ref x2), (3, .ref x3), (4, .ref x4), (5, .int x5)] → W p l e room_1 s m args below meth c H locs (cells + 17) (slots + 3206) Q (F0 m 3637 ls [])) : W p l e room_1 s m args below meth c H locs cells slots Q (F0 m 2132 ls []) := by
  obtain ⟨_, _, hml, hown, hB⟩ := id hC
  unfold p_case_30 at hq
  refine lv_aload_n hx hb dL_law_2132 rfl (lv_at hl 1 rfl) ?_
  refine lv_aload_n hx hb dL_law_2133 rfl (lv_at hl 0 rfl) ?_
  refine lv_iload hx hb dL_law_2134 (lv_at hl 5 rfl) ?_
  refine lv_iconst (v := (1 : Int32)) hx hb dL_law_2136 (by decide) ?_
  refine lv_iadd hx hb dL_law_2137 ?_
  obtain ⟨v1, ev1, hq⟩ := b_s hq
  refine fs_li hx hb hI ev1 dL_law_2138 ?_
  refine lv_aload_n hx hb dL_law_2139 rfl (lv_at hl 3 rfl) ?_
  obtain ⟨v2, ev2, hq⟩ := b_s hq
  refine gl_i (g_runSW (As := [.ref x1, .int v1, .ref x3]) (rest := []) hC (c_L_ringDepth l hl0 V g D cT f n x1 v1 x3 v2 ev2) k_L_ringDepth m_1007 rfl rfl ⟨Nat.le_of_ble_eq_true rfl, Nat.le_of_ble_eq_true rfl⟩ hI rfl hl.1 rfl (Nat.le_of_ble_eq_true rfl) dL_law_2140 ⟨(by have := hcap.1; show _ ≤ 601024; omega), (by have := hcap.2; show _ ≤ 7293034; omega)⟩) hI (fun H locs n3 hn3 hI => ?_)
  refine lv_istore (lv' := [(6, .int v2.1), (0, .ref x0), (1, .ref x1), (2, .ref x2), (3, .ref x3), (4, .ref x4), (5, .int x5)]) hx hb dL_law_2143 hl (by decide) rfl (fun ls hl => ?_)
  refine lv_aload_n hx hb dL_law_2145 rfl (lv_at hl 3 rfl) ?_
  refine lv_aload_n hx hb dL_law_2146 rfl (lv_at hl 1 rfl) ?_
  refine lv_iload hx hb dL_law_2147 (lv_at hl 6 rfl) ?_
  refine lv_iconst (v := (1 : Int32)) hx hb dL_law_2149 (by decide) ?_
  refine lv_iadd hx hb dL_law_2150 ?_
  obtain ⟨v4, ev4, hq⟩ := b_s hq
  refine fs_li hx hb hI ev4 dL_law_2151 ?_
  obtain ⟨v5, ev5, hq⟩ := b_s hq
  refine gw_i (g_runV (As := [.int v4]) (rest := []) (ci := 10) hC (c_X8_ringDepth l V g D cT v2.2 n3 x2 v4 v5 ev5) k_X8_ringDepth m_1849 rfl rfl ⟨Nat.le_of_ble_eq_true rfl, Nat.le_of_ble_eq_true rfl⟩ hI rfl rfl (h_me_eq ev5).1 rfl hl.1 rfl (Nat.le_of_ble_eq_true rfl) dL_law_2152 ⟨(by have := hcap.1; show _ ≤ 601024; omega), (by have := hcap.2; show _ ≤ 7293034; omega)⟩) hI (fun H locs hI => ?_)
  refine lv_istore (lv' := [(7, .int v5.1), (6, .int v2.1), (0, .ref x0), (1, .ref x1), (2, .ref x2), (3, .ref x3), (4, .ref x4), (5, .int x5)]) hx hb dL_law_2155 hl (by decide) rfl (fun ls hl => ?_)
  refine lv_aload_n hx hb dL_law_2157 rfl (lv_at hl 4 rfl) ?_
  obtain ⟨v6, ev6, hq⟩ := b_s hq
  refine gr_i (g_runV (As := []) (rest := []) (ci := 10) hC (c_X8_thrown l V g D cT v5.2 n3 x2 v6 ev6) k_X8_thrown m_1610 rfl rfl ⟨Nat.le_of_ble_eq_true rfl, Nat.le_of_ble_eq_true rfl⟩ hI rfl rfl (h_me_eq ev6).1 rfl hl.1 rfl (Nat.le_of_ble_eq_true rfl) dL_law_2158 ⟨(by have := hcap.1; show _ ≤ 601024; omega), (by have := hcap.2; show _ ≤ 7293034; omega)⟩) hI (fun H locs hI => ?_)
  refine lv_iload hx hb dL_law_2161 (lv_at hl 1 rfl) ?_
  refine lv_icmp_eq (tgt := 2168) hx hb dL_law_2163 (by decide) (fun c7 => ?_) (fun c7 => ?_)
  · replace hq := i_t c7 hq
    refine lv_iload hx hb dL_law_2168 (lv_at hl 1 rfl) ?_
    refine lv_if_ne (tgt := 2185) hx hb dL_law_2170 (by decide) (fun c8 => ?_) (fun c8 => ?_)
    · replace hq := i_f c8 hq
      refine lv_goto (tgt := 3637) hx hb dL_law_2185 (by decide) ?_
      obtain rfl := Option.some.inj hq
      refine W.widen (k := cells + 17) (n := slots + 3206) (by omega) (by omega) ?_
      exact kk _ _ _ _ (by omega) hI (lv_sub hl [2, 3, 4, 5, 6, 7] rfl)
    · replace hq := i_t c8 hq
      refine lv_aload_n hx hb dL_law_2173 rfl (lv_at hl 5 rfl) ?_
      refine lv_iconst (v := (0 : Int32)) hx hb dL_law_2174 (by decide) ?_
      obtain ⟨v9, ev9, hq⟩ := b_s hq
      refine fa_ll hx hb hI ev9 dL_law_2175 ?_
      refine lv_iload hx hb dL_law_2176 (lv_at hl 0 rfl) ?_
      refine lv_i2l (v := v5.1.toInt64) hx hb dL_law_2178 rfl ?_
      refine lv_lcmpN hx hb dL_law_2179 ?_
      refine lv_if_eq (tgt := 2185) hx hb dL_law_2180 (by decide) (fun c10 => ?_) (fun c10 => ?_)
      · replace hq := i_t c10 hq
        refine lv_goto (tgt := 3637) hx hb dL_law_2185 (by decide) ?_
        obtain rfl := Option.some.inj hq
        refine W.widen (k := cells + 17) (n := slots + 3206) (by omega) (by omega) ?_
        exact kk _ _ _ _ (by omega) hI (lv_sub hl [2, 3, 4, 5, 6, 7] rfl)
      · replace hq := i_f c10 hq
        refine lv_iconst (v := (0 : Int32)) hx hb dL_law_2183 (by decide) ?_
        cases hq
  · replace hq := i_f c7 hq
    refine lv_iconst (v := (0 : Int32)) hx hb dL_law_2166 (by decide) ?_
    cases hq

set_option maxHeartbeats 4000000 in
set_option maxRecDepth 100000 in
theorem cs_31 {p : Program} {l : Launch} {e : Env} {s : State} {m : MethodId} {args : Array Value} {below : List Frame} {meth : Method} {c : Code} {V : Nat → Nat} {g : GH} {D : va_G} {cT : Nat → ClassId} (hl0 : l.stackTraces = false) (hx : p.tables.exec = Jvm.exec) (hb : c.code = cL_law) (hC : CallFix p m c cL_law 9 s args g_B RL) {Q : State → Prop} {f : GH} {n : Nat} (x0 x1 x2 x3 x4 : Nat) (x5 : Int32) {f1 : GH} (hq : p_case_31 V g f n x0 x1 x2 x3 x4 x5 = some f1) {H : Heap} {locs : List Loc} {cells slots : Nat} {ls : Array Slot} (hcap : cells + 17 ≤ 601024 ∧ slots + 3206 ≤ 7293034) (hI : g_at (g_A V) V g D cT f n s H locs) (hl : lv_has ls 9 [(0, .ref x0), (1, .ref x1), (2, .ref x2), (3, .ref x3), (4, .ref x4), (5, .int x5)])
    (kk : ∀ (H : Heap) (locs : List Loc) (ls : Array Slot) (n1 : Nat), n ≤ n1 → g_at (g_A V) V g D cT f1 n1 s H locs → lv_has ls 9 [(0, .ref x0), (1, .ref x1), (2, .ref x2), (3, .ref x3), (4, .ref x4), (5, .int x5)] → W p l e room_1 s m args below meth c H locs (cells + 17) (slots + 3206) Q (F0 m 3637 ls [])) : W p l e room_1 s m args below meth c H locs cells slots Q (F0 m 2188 ls []) := by
  obtain ⟨_, _, hml, hown, hB⟩ := id hC
  unfold p_case_31 at hq
  refine lv_aload_n hx hb dL_law_2188 rfl (lv_at hl 1 rfl) ?_
  refine lv_aload_n hx hb dL_law_2189 rfl (lv_at hl 0 rfl) ?_
  refine lv_iload hx hb dL_law_2190 (lv_at hl 5 rfl) ?_
  refine lv_iconst (v := (1 : Int32)) hx hb dL_law_2192 (by decide) ?_
  refine lv_iadd hx hb dL_law_2193 ?_
  obtain ⟨v1, ev1, hq⟩ := b_s hq
  refine fs_li hx hb hI ev1 dL_law_2194 ?_
  refine lv_aload_n hx hb dL_law_2195 rfl (lv_at hl 3 rfl) ?_
  obtain ⟨v2, ev2, hq⟩ := b_s hq
  refine gl_i (g_runSW (As := [.ref x1, .int v1, .ref x3]) (rest := []) hC (c_L_boxWidth l hl0 V g D cT f n x1 v1 x3 v2 ev2) k_L_boxWidth m_1014 rfl rfl ⟨Nat.le_of_ble_eq_true rfl, Nat.le_of_ble_eq_true rfl⟩ hI rfl hl.1 rfl (Nat.le_of_ble_eq_true rfl) dL_law_2196 ⟨(by have := hcap.1; show _ ≤ 601024; omega), (by have := hcap.2; show _ ≤ 7293034; omega)⟩) hI (fun H locs n3 hn3 hI => ?_)
  refine lv_istore (lv' := [(6, .int v2.1), (0, .ref x0), (1, .ref x1), (2, .ref x2), (3, .ref x3), (4, .ref x4), (5, .int x5)]) hx hb dL_law_2199 hl (by decide) rfl (fun ls hl => ?_)
  refine lv_aload_n hx hb dL_law_2201 rfl (lv_at hl 3 rfl) ?_
  refine lv_aload_n hx hb dL_law_2202 rfl (lv_at hl 1 rfl) ?_
  refine lv_iload hx hb dL_law_2203 (lv_at hl 6 rfl) ?_
  refine lv_iconst (v := (1 : Int32)) hx hb dL_law_2205 (by decide) ?_
  refine lv_iadd hx hb dL_law_2206 ?_
  obtain ⟨v4, ev4, hq⟩ := b_s hq
  refine fs_li hx hb hI ev4 dL_law_2207 ?_
  obtain ⟨v5, ev5, hq⟩ := b_s hq
  refine gw_i (g_runV (As := [.int v4]) (rest := []) (ci := 10) hC (c_X8_boxWidth l V g D cT v2.2 n3 x2 v4 v5 ev5) k_X8_boxWidth m_1853 rfl rfl ⟨Nat.le_of_ble_eq_true rfl, Nat.le_of_ble_eq_true rfl⟩ hI rfl rfl (h_me_eq ev5).1 rfl hl.1 rfl (Nat.le_of_ble_eq_true rfl) dL_law_2208 ⟨(by have := hcap.1; show _ ≤ 601024; omega), (by have := hcap.2; show _ ≤ 7293034; omega)⟩) hI (fun H locs hI => ?_)
  refine lv_istore (lv' := [(7, .int v5.1), (6, .int v2.1), (0, .ref x0), (1, .ref x1), (2, .ref x2), (3, .ref x3), (4, .ref x4), (5, .int x5)]) hx hb dL_law_2211 hl (by decide) rfl (fun ls hl => ?_)
  refine lv_aload_n hx hb dL_law_2213 rfl (lv_at hl 4 rfl) ?_
  obtain ⟨v6, ev6, hq⟩ := b_s hq
  refine gr_i (g_runV (As := []) (rest := []) (ci := 10) hC (c_X8_thrown l V g D cT v5.2 n3 x2 v6 ev6) k_X8_thrown m_1610 rfl rfl ⟨Nat.le_of_ble_eq_true rfl, Nat.le_of_ble_eq_true rfl⟩ hI rfl rfl (h_me_eq ev6).1 rfl hl.1 rfl (Nat.le_of_ble_eq_true rfl) dL_law_2214 ⟨(by have := hcap.1; show _ ≤ 601024; omega), (by have := hcap.2; show _ ≤ 7293034; omega)⟩) hI (fun H locs hI => ?_)
  refine lv_iload hx hb dL_law_2217 (lv_at hl 1 rfl) ?_
  refine lv_icmp_eq (tgt := 2224) hx hb dL_law_2219 (by decide) (fun c7 => ?_) (fun c7 => ?_)
  · replace hq := i_t c7 hq
    refine lv_iload hx hb dL_law_2224 (lv_at hl 1 rfl) ?_
    refine lv_if_ne (tgt := 2241) hx hb dL_law_2226 (by decide) (fun c8 => ?_) (fun c8 => ?_)
    · replace hq := i_f c8 hq
      refine lv_goto (tgt := 3637) hx hb dL_law_2241 (by decide) ?_
      obtain rfl := Option.some.inj hq
      refine W.widen (k := cells + 17) (n := slots + 3206) (by omega) (by omega) ?_
      exact kk _ _ _ _ (by omega) hI (lv_sub hl [2, 3, 4, 5, 6, 7] rfl)
    · replace hq := i_t c8 hq
      refine lv_aload_n hx hb dL_law_2229 rfl (lv_at hl 5 rfl) ?_
      refine lv_iconst (v := (0 : Int32)) hx hb dL_law_2230 (by decide) ?_
      obtain ⟨v9, ev9, hq⟩ := b_s hq
      refine fa_ll hx hb hI ev9 dL_law_2231 ?_
      refine lv_iload hx hb dL_law_2232 (lv_at hl 0 rfl) ?_
      refine lv_i2l (v := v5.1.toInt64) hx hb dL_law_2234 rfl ?_
      refine lv_lcmpN hx hb dL_law_2235 ?_
      refine lv_if_eq (tgt := 2241) hx hb dL_law_2236 (by decide) (fun c10 => ?_) (fun c10 => ?_)
      · replace hq := i_t c10 hq
        refine lv_goto (tgt := 3637) hx hb dL_law_2241 (by decide) ?_
        obtain rfl := Option.some.inj hq
        refine W.widen (k := cells + 17) (n := slots + 3206) (by omega) (by omega) ?_
        exact kk _ _ _ _ (by omega) hI (lv_sub hl [2, 3, 4, 5, 6, 7] rfl)
      · replace hq := i_f c10 hq
        refine lv_iconst (v := (0 : Int32)) hx hb dL_law_2239 (by decide) ?_
        cases hq
  · replace hq := i_f c7 hq
    refine lv_iconst (v := (0 : Int32)) hx hb dL_law_2222 (by decide) ?_
    cases hq


set_option maxHeartbeats 4000000 in
set_option maxRecDepth 100000 in
theorem cs_32 {p : Program} {l : Launch} {e : Env} {s : State} {m : MethodId} {args : Array Value} {below : List Frame} {meth : Method} {c : Code} {V : Nat → Nat} {g : GH} {D : va_G} {cT : Nat → ClassId} (hl0 : l.stackTraces = false) (hx : p.tables.exec = Jvm.exec) (hb : c.code = cL_law) (hC : CallFix p m c cL_law 9 s args g_B RL) {Q : State → Prop} {f : GH} {n : Nat} (x0 x1 x2 x3 x4 : Nat) (x5 : Int32) {f1 : GH} (hq : p_case_32 V g f n x0 x1 x2 x3 x4 x5 = some f1) {H : Heap} {locs : List Loc} {cells slots : Nat} {ls : Array Slot} (hcap : cells + 17 ≤ 601024 ∧ slots + 3206 ≤ 7293034) (hI : g_at (g_A V) V g D cT f n s H locs) (hl : lv_has ls 9 [(0, .ref x0), (1, .ref x1), (2, .ref x2), (3, .ref x3), (4, .ref x4), (5, .int x5)])
    (kk : ∀ (H : Heap) (locs : List Loc) (ls : Array Slot) (n1 : Nat), n ≤ n1 → g_at (g_A V) V g D cT f1 n1 s H locs → lv_has ls 9 [(0, .ref x0), (1, .ref x1), (2, .ref x2), (3, .ref x3), (4, .ref x4), (5, .int x5)] → W p l e room_1 s m args below meth c H locs (cells + 17) (slots + 3206) Q (F0 m 3637 ls [])) : W p l e room_1 s m args below meth c H locs cells slots Q (F0 m 2244 ls []) := by
  obtain ⟨_, _, hml, hown, hB⟩ := id hC
  unfold p_case_32 at hq
  refine lv_aload_n hx hb dL_law_2244 rfl (lv_at hl 1 rfl) ?_
  refine lv_aload_n hx hb dL_law_2245 rfl (lv_at hl 0 rfl) ?_
  refine lv_iload hx hb dL_law_2246 (lv_at hl 5 rfl) ?_
  refine lv_iconst (v := (1 : Int32)) hx hb dL_law_2248 (by decide) ?_
  refine lv_iadd hx hb dL_law_2249 ?_
  obtain ⟨v1, ev1, hq⟩ := b_s hq
  refine fs_li hx hb hI ev1 dL_law_2250 ?_
  refine lv_aload_n hx hb dL_law_2251 rfl (lv_at hl 3 rfl) ?_
  obtain ⟨v2, ev2, hq⟩ := b_s hq
  refine gl_i (g_runSW (As := [.ref x1, .int v1, .ref x3]) (rest := []) hC (c_L_boxHeight l hl0 V g D cT f n x1 v1 x3 v2 ev2) k_L_boxHeight m_1026 rfl rfl ⟨Nat.le_of_ble_eq_true rfl, Nat.le_of_ble_eq_true rfl⟩ hI rfl hl.1 rfl (Nat.le_of_ble_eq_true rfl) dL_law_2252 ⟨(by have := hcap.1; show _ ≤ 601024; omega), (by have := hcap.2; show _ ≤ 7293034; omega)⟩) hI (fun H locs n3 hn3 hI => ?_)
  refine lv_istore (lv' := [(6, .int v2.1), (0, .ref x0), (1, .ref x1), (2, .ref x2), (3, .ref x3), (4, .ref x4), (5, .int x5)]) hx hb dL_law_2255 hl (by decide) rfl (fun ls hl => ?_)
  refine lv_aload_n hx hb dL_law_2257 rfl (lv_at hl 3 rfl) ?_
  refine lv_aload_n hx hb dL_law_2258 rfl (lv_at hl 1 rfl) ?_
  refine lv_iload hx hb dL_law_2259 (lv_at hl 6 rfl) ?_
  refine lv_iconst (v := (1 : Int32)) hx hb dL_law_2261 (by decide) ?_
  refine lv_iadd hx hb dL_law_2262 ?_
  obtain ⟨v4, ev4, hq⟩ := b_s hq
  refine fs_li hx hb hI ev4 dL_law_2263 ?_
  obtain ⟨v5, ev5, hq⟩ := b_s hq
  refine gw_i (g_runV (As := [.int v4]) (rest := []) (ci := 10) hC (c_X8_boxHeight l V g D cT v2.2 n3 x2 v4 v5 ev5) k_X8_boxHeight m_1861 rfl rfl ⟨Nat.le_of_ble_eq_true rfl, Nat.le_of_ble_eq_true rfl⟩ hI rfl rfl (h_me_eq ev5).1 rfl hl.1 rfl (Nat.le_of_ble_eq_true rfl) dL_law_2264 ⟨(by have := hcap.1; show _ ≤ 601024; omega), (by have := hcap.2; show _ ≤ 7293034; omega)⟩) hI (fun H locs hI => ?_)
  refine lv_istore (lv' := [(7, .int v5.1), (6, .int v2.1), (0, .ref x0), (1, .ref x1), (2, .ref x2), (3, .ref x3), (4, .ref x4), (5, .int x5)]) hx hb dL_law_2267 hl (by decide) rfl (fun ls hl => ?_)
  refine lv_aload_n hx hb dL_law_2269 rfl (lv_at hl 4 rfl) ?_
  obtain ⟨v6, ev6, hq⟩ := b_s hq
  refine gr_i (g_runV (As := []) (rest := []) (ci := 10) hC (c_X8_thrown l V g D cT v5.2 n3 x2 v6 ev6) k_X8_thrown m_1610 rfl rfl ⟨Nat.le_of_ble_eq_true rfl, Nat.le_of_ble_eq_true rfl⟩ hI rfl rfl (h_me_eq ev6).1 rfl hl.1 rfl (Nat.le_of_ble_eq_true rfl) dL_law_2270 ⟨(by have := hcap.1; show _ ≤ 601024; omega), (by have := hcap.2; show _ ≤ 7293034; omega)⟩) hI (fun H locs hI => ?_)
  refine lv_iload hx hb dL_law_2273 (lv_at hl 1 rfl) ?_
  refine lv_icmp_eq (tgt := 2280) hx hb dL_law_2275 (by decide) (fun c7 => ?_) (fun c7 => ?_)
  · replace hq := i_t c7 hq
    refine lv_iload hx hb dL_law_2280 (lv_at hl 1 rfl) ?_
    refine lv_if_ne (tgt := 2297) hx hb dL_law_2282 (by decide) (fun c8 => ?_) (fun c8 => ?_)
    · replace hq := i_f c8 hq
      refine lv_goto (tgt := 3637) hx hb dL_law_2297 (by decide) ?_
      obtain rfl := Option.some.inj hq
      refine W.widen (k := cells + 17) (n := slots + 3206) (by omega) (by omega) ?_
      exact kk _ _ _ _ (by omega) hI (lv_sub hl [2, 3, 4, 5, 6, 7] rfl)
    · replace hq := i_t c8 hq
      refine lv_aload_n hx hb dL_law_2285 rfl (lv_at hl 5 rfl) ?_
      refine lv_iconst (v := (0 : Int32)) hx hb dL_law_2286 (by decide) ?_
      obtain ⟨v9, ev9, hq⟩ := b_s hq
      refine fa_ll hx hb hI ev9 dL_law_2287 ?_
      refine lv_iload hx hb dL_law_2288 (lv_at hl 0 rfl) ?_
      refine lv_i2l (v := v5.1.toInt64) hx hb dL_law_2290 rfl ?_
      refine lv_lcmpN hx hb dL_law_2291 ?_
      refine lv_if_eq (tgt := 2297) hx hb dL_law_2292 (by decide) (fun c10 => ?_) (fun c10 => ?_)
      · replace hq := i_t c10 hq
        refine lv_goto (tgt := 3637) hx hb dL_law_2297 (by decide) ?_
        obtain rfl := Option.some.inj hq
        refine W.widen (k := cells + 17) (n := slots + 3206) (by omega) (by omega) ?_
        exact kk _ _ _ _ (by omega) hI (lv_sub hl [2, 3, 4, 5, 6, 7] rfl)
      · replace hq := i_f c10 hq
        refine lv_iconst (v := (0 : Int32)) hx hb dL_law_2295 (by decide) ?_
        cases hq
  · replace hq := i_f c7 hq
    refine lv_iconst (v := (0 : Int32)) hx hb dL_law_2278 (by decide) ?_
    cases hq

set_option maxHeartbeats 4000000 in
set_option maxRecDepth 100000 in
theorem cs_33 {p : Program} {l : Launch} {e : Env} {s : State} {m : MethodId} {args : Array Value} {below : List Frame} {meth : Method} {c : Code} {V : Nat → Nat} {g : GH} {D : va_G} {cT : Nat → ClassId} (hl0 : l.stackTraces = false) (hx : p.tables.exec = Jvm.exec) (hb : c.code = cL_law) (hC : CallFix p m c cL_law 9 s args g_B RL) {Q : State → Prop} {f : GH} {n : Nat} (x0 x1 x2 x3 x4 : Nat) (x5 : Int32) {f1 : GH} (hq : p_case_33 V g f n x0 x1 x2 x3 x4 x5 = some f1) {H : Heap} {locs : List Loc} {cells slots : Nat} {ls : Array Slot} (hcap : cells + 17 ≤ 601024 ∧ slots + 3206 ≤ 7293034) (hI : g_at (g_A V) V g D cT f n s H locs) (hl : lv_has ls 9 [(0, .ref x0), (1, .ref x1), (2, .ref x2), (3, .ref x3), (4, .ref x4), (5, .int x5)])
    (kk : ∀ (H : Heap) (locs : List Loc) (ls : Array Slot) (n1 : Nat), n ≤ n1 → g_at (g_A V) V g D cT f1 n1 s H locs → lv_has ls 9 [(0, .ref x0), (1, .ref x1), (2, .ref x2), (3, .ref x3), (4, .ref x4), (5, .int x5)] → W p l e room_1 s m args below meth c H locs (cells + 17) (slots + 3206) Q (F0 m 3637 ls [])) : W p l e room_1 s m args below meth c H locs cells slots Q (F0 m 2300 ls []) := by
  obtain ⟨_, _, hml, hown, hB⟩ := id hC
  unfold p_case_33 at hq
  refine lv_aload_n hx hb dL_law_2300 rfl (lv_at hl 1 rfl) ?_
  refine lv_aload_n hx hb dL_law_2301 rfl (lv_at hl 0 rfl) ?_
  refine lv_iload hx hb dL_law_2302 (lv_at hl 5 rfl) ?_
  refine lv_iconst (v := (1 : Int32)) hx hb dL_law_2304 (by decide) ?_
  refine lv_iadd hx hb dL_law_2305 ?_
  obtain ⟨v1, ev1, hq⟩ := b_s hq
  refine fs_li hx hb hI ev1 dL_law_2306 ?_
  refine lv_aload_n hx hb dL_law_2307 rfl (lv_at hl 0 rfl) ?_
  refine lv_iload hx hb dL_law_2308 (lv_at hl 5 rfl) ?_
  refine lv_iconst (v := (2 : Int32)) hx hb dL_law_2310 (by decide) ?_
  refine lv_iadd hx hb dL_law_2311 ?_
  obtain ⟨v2, ev2, hq⟩ := b_s hq
  refine fs_li hx hb hI ev2 dL_law_2312 ?_
  refine lv_aload_n hx hb dL_law_2313 rfl (lv_at hl 3 rfl) ?_
  obtain ⟨v3, ev3, hq⟩ := b_s hq
  refine gl_i (g_runSW (As := [.ref x1, .int v1, .int v2, .ref x3]) (rest := []) hC (c_L_foldObstacle l hl0 V g D cT f n x1 v1 v2 x3 v3 ev3) k_L_foldObstacle m_1033 rfl rfl ⟨Nat.le_of_ble_eq_true rfl, Nat.le_of_ble_eq_true rfl⟩ hI rfl hl.1 rfl (Nat.le_of_ble_eq_true rfl) dL_law_2314 ⟨(by have := hcap.1; show _ ≤ 601024; omega), (by have := hcap.2; show _ ≤ 7293034; omega)⟩) hI (fun H locs n4 hn4 hI => ?_)
  refine lv_istore (lv' := [(6, .int v3.1), (0, .ref x0), (1, .ref x1), (2, .ref x2), (3, .ref x3), (4, .ref x4), (5, .int x5)]) hx hb dL_law_2317 hl (by decide) rfl (fun ls hl => ?_)
  refine lv_aload_n hx hb dL_law_2319 rfl (lv_at hl 3 rfl) ?_
  refine lv_aload_n hx hb dL_law_2320 rfl (lv_at hl 1 rfl) ?_
  refine lv_iload hx hb dL_law_2321 (lv_at hl 6 rfl) ?_
  refine lv_iconst (v := (1 : Int32)) hx hb dL_law_2323 (by decide) ?_
  refine lv_iadd hx hb dL_law_2324 ?_
  obtain ⟨v5, ev5, hq⟩ := b_s hq
  refine fs_li hx hb hI ev5 dL_law_2325 ?_
  refine lv_aload_n hx hb dL_law_2326 rfl (lv_at hl 1 rfl) ?_
  refine lv_iload hx hb dL_law_2327 (lv_at hl 6 rfl) ?_
  refine lv_iconst (v := (2 : Int32)) hx hb dL_law_2329 (by decide) ?_
  refine lv_iadd hx hb dL_law_2330 ?_
  obtain ⟨v6, ev6, hq⟩ := b_s hq
  refine fs_li hx hb hI ev6 dL_law_2331 ?_
  obtain ⟨v7, ev7, hq⟩ := b_s hq
  refine gw_i (g_runV (As := [.int v5, .int v6]) (rest := []) (ci := 10) hC (c_X8_foldObstacle l V g D cT v3.2 n4 x2 v5 v6 v7 ev7) k_X8_foldObstacle m_1865 rfl rfl ⟨Nat.le_of_ble_eq_true rfl, Nat.le_of_ble_eq_true rfl⟩ hI rfl rfl (h_me_eq ev7).1 rfl hl.1 rfl (Nat.le_of_ble_eq_true rfl) dL_law_2332 ⟨(by have := hcap.1; show _ ≤ 601024; omega), (by have := hcap.2; show _ ≤ 7293034; omega)⟩) hI (fun H locs hI => ?_)
  refine lv_istore (lv' := [(7, .int v7.1), (6, .int v3.1), (0, .ref x0), (1, .ref x1), (2, .ref x2), (3, .ref x3), (4, .ref x4), (5, .int x5)]) hx hb dL_law_2335 hl (by decide) rfl (fun ls hl => ?_)
  refine lv_aload_n hx hb dL_law_2337 rfl (lv_at hl 4 rfl) ?_
  obtain ⟨v8, ev8, hq⟩ := b_s hq
  refine gr_i (g_runV (As := []) (rest := []) (ci := 10) hC (c_X8_thrown l V g D cT v7.2 n4 x2 v8 ev8) k_X8_thrown m_1610 rfl rfl ⟨Nat.le_of_ble_eq_true rfl, Nat.le_of_ble_eq_true rfl⟩ hI rfl rfl (h_me_eq ev8).1 rfl hl.1 rfl (Nat.le_of_ble_eq_true rfl) dL_law_2338 ⟨(by have := hcap.1; show _ ≤ 601024; omega), (by have := hcap.2; show _ ≤ 7293034; omega)⟩) hI (fun H locs hI => ?_)
  refine lv_iload hx hb dL_law_2341 (lv_at hl 1 rfl) ?_
  refine lv_icmp_eq (tgt := 2348) hx hb dL_law_2343 (by decide) (fun c9 => ?_) (fun c9 => ?_)
  · replace hq := i_t c9 hq
    refine lv_iload hx hb dL_law_2348 (lv_at hl 1 rfl) ?_
    refine lv_if_ne (tgt := 2365) hx hb dL_law_2350 (by decide) (fun c10 => ?_) (fun c10 => ?_)
    · replace hq := i_f c10 hq
      refine lv_goto (tgt := 3637) hx hb dL_law_2365 (by decide) ?_
      obtain rfl := Option.some.inj hq
      refine W.widen (k := cells + 17) (n := slots + 3206) (by omega) (by omega) ?_
      exact kk _ _ _ _ (by omega) hI (lv_sub hl [2, 3, 4, 5, 6, 7] rfl)
    · replace hq := i_t c10 hq
      refine lv_aload_n hx hb dL_law_2353 rfl (lv_at hl 5 rfl) ?_
      refine lv_iconst (v := (0 : Int32)) hx hb dL_law_2354 (by decide) ?_
      obtain ⟨v11, ev11, hq⟩ := b_s hq
      refine fa_ll hx hb hI ev11 dL_law_2355 ?_
      refine lv_iload hx hb dL_law_2356 (lv_at hl 0 rfl) ?_
      refine lv_i2l (v := v7.1.toInt64) hx hb dL_law_2358 rfl ?_
      refine lv_lcmpN hx hb dL_law_2359 ?_
      refine lv_if_eq (tgt := 2365) hx hb dL_law_2360 (by decide) (fun c12 => ?_) (fun c12 => ?_)
      · replace hq := i_t c12 hq
        refine lv_goto (tgt := 3637) hx hb dL_law_2365 (by decide) ?_
        obtain rfl := Option.some.inj hq
        refine W.widen (k := cells + 17) (n := slots + 3206) (by omega) (by omega) ?_
        exact kk _ _ _ _ (by omega) hI (lv_sub hl [2, 3, 4, 5, 6, 7] rfl)
      · replace hq := i_f c12 hq
        refine lv_iconst (v := (0 : Int32)) hx hb dL_law_2363 (by decide) ?_
        cases hq
  · replace hq := i_f c9 hq
    refine lv_iconst (v := (0 : Int32)) hx hb dL_law_2346 (by decide) ?_
    cases hq

set_option maxHeartbeats 4000000 in
set_option maxRecDepth 100000 in
theorem cs_34 {p : Program} {l : Launch} {e : Env} {s : State} {m : MethodId} {args : Array Value} {below : List Frame} {meth : Method} {c : Code} {V : Nat → Nat} {g : GH} {D : va_G} {cT : Nat → ClassId} (hl0 : l.stackTraces = false) (hx : p.tables.exec = Jvm.exec) (hb : c.code = cL_law) (hC : CallFix p m c cL_law 9 s args g_B RL) {Q : State → Prop} {f : GH} {n : Nat} (x0 x1 x2 x3 x4 : Nat) (x5 : Int32) {f1 : GH} (hq : p_case_34 V g f n x0 x1 x2 x3 x4 x5 = some f1) {H : Heap} {locs : List Loc} {cells slots : Nat} {ls : Array Slot} (hcap : cells + 17 ≤ 601024 ∧ slots + 3206 ≤ 7293034) (hI : g_at (g_A V) V g D cT f n s H locs) (hl : lv_has ls 9 [(0, .ref x0), (1, .ref x1), (2, .ref x2), (3, .ref x3), (4, .ref x4), (5, .int x5)])
    (kk : ∀ (H : Heap) (locs : List Loc) (ls : Array Slot) (n1 : Nat), n ≤ n1 → g_at (g_A V) V g D cT f1 n1 s H locs → lv_has ls 9 [(0, .ref x0), (1, .ref x1), (2, .ref x2), (3, .ref x3), (4, .ref x4), (5, .int x5)] → W p l e room_1 s m args below meth c H locs (cells + 17) (slots + 3206) Q (F0 m 3637 ls [])) : W p l e room_1 s m args below meth c H locs cells slots Q (F0 m 2368 ls []) := by
  obtain ⟨_, _, hml, hown, hB⟩ := id hC
  unfold p_case_34 at hq
  refine lv_aload_n hx hb dL_law_2368 rfl (lv_at hl 1 rfl) ?_
  refine lv_aload_n hx hb dL_law_2369 rfl (lv_at hl 0 rfl) ?_
  refine lv_iload hx hb dL_law_2370 (lv_at hl 5 rfl) ?_
  refine lv_iconst (v := (1 : Int32)) hx hb dL_law_2372 (by decide) ?_
  refine lv_iadd hx hb dL_law_2373 ?_
  obtain ⟨v1, ev1, hq⟩ := b_s hq
  refine fs_li hx hb hI ev1 dL_law_2374 ?_
  refine lv_aload_n hx hb dL_law_2375 rfl (lv_at hl 0 rfl) ?_
  refine lv_iload hx hb dL_law_2376 (lv_at hl 5 rfl) ?_
  refine lv_iconst (v := (2 : Int32)) hx hb dL_law_2378 (by decide) ?_
  refine lv_iadd hx hb dL_law_2379 ?_
  obtain ⟨v2, ev2, hq⟩ := b_s hq
  refine fs_li hx hb hI ev2 dL_law_2380 ?_
  refine lv_aload_n hx hb dL_law_2381 rfl (lv_at hl 0 rfl) ?_
  refine lv_iload hx hb dL_law_2382 (lv_at hl 5 rfl) ?_
  refine lv_iconst (v := (3 : Int32)) hx hb dL_law_2384 (by decide) ?_
  refine lv_iadd hx hb dL_law_2385 ?_
  obtain ⟨v3, ev3, hq⟩ := b_s hq
  refine fs_li hx hb hI ev3 dL_law_2386 ?_
  refine lv_aload_n hx hb dL_law_2387 rfl (lv_at hl 3 rfl) ?_
  obtain ⟨v4, ev4, hq⟩ := b_s hq
  refine gl_i (g_runSW (As := [.ref x1, .int v1, .int v2, .int v3, .ref x3]) (rest := []) hC (c_L_lengthAfterFold l hl0 V g D cT f n x1 v1 v2 v3 x3 v4 ev4) k_L_lengthAfterFold m_1041 rfl rfl ⟨Nat.le_of_ble_eq_true rfl, Nat.le_of_ble_eq_true rfl⟩ hI rfl hl.1 rfl (Nat.le_of_ble_eq_true rfl) dL_law_2388 ⟨(by have := hcap.1; show _ ≤ 601024; omega), (by have := hcap.2; show _ ≤ 7293034; omega)⟩) hI (fun H locs n5 hn5 hI => ?_)
  refine lv_istore (lv' := [(6, .int v4.1), (0, .ref x0), (1, .ref x1), (2, .ref x2), (3, .ref x3), (4, .ref x4), (5, .int x5)]) hx hb dL_law_2391 hl (by decide) rfl (fun ls hl => ?_)
  refine lv_aload_n hx hb dL_law_2393 rfl (lv_at hl 3 rfl) ?_
  refine lv_aload_n hx hb dL_law_2394 rfl (lv_at hl 1 rfl) ?_
  refine lv_iload hx hb dL_law_2395 (lv_at hl 6 rfl) ?_
  refine lv_iconst (v := (1 : Int32)) hx hb dL_law_2397 (by decide) ?_
  refine lv_iadd hx hb dL_law_2398 ?_
  obtain ⟨v6, ev6, hq⟩ := b_s hq
  refine fs_li hx hb hI ev6 dL_law_2399 ?_
  refine lv_aload_n hx hb dL_law_2400 rfl (lv_at hl 1 rfl) ?_
  refine lv_iload hx hb dL_law_2401 (lv_at hl 6 rfl) ?_
  refine lv_iconst (v := (2 : Int32)) hx hb dL_law_2403 (by decide) ?_
  refine lv_iadd hx hb dL_law_2404 ?_
  obtain ⟨v7, ev7, hq⟩ := b_s hq
  refine fs_li hx hb hI ev7 dL_law_2405 ?_
  refine lv_aload_n hx hb dL_law_2406 rfl (lv_at hl 1 rfl) ?_
  refine lv_iload hx hb dL_law_2407 (lv_at hl 6 rfl) ?_
  refine lv_iconst (v := (3 : Int32)) hx hb dL_law_2409 (by decide) ?_
  refine lv_iadd hx hb dL_law_2410 ?_
  obtain ⟨v8, ev8, hq⟩ := b_s hq
  refine fs_li hx hb hI ev8 dL_law_2411 ?_
  obtain ⟨v9, ev9, hq⟩ := b_s hq
  refine gw_i (g_runV (As := [.int v6, .int v7, .int v8]) (rest := []) (ci := 10) hC (c_X8_lengthAfterFold l V g D cT v4.2 n5 x2 v6 v7 v8 v9 ev9) k_X8_lengthAfterFold m_1888 rfl rfl ⟨Nat.le_of_ble_eq_true rfl, Nat.le_of_ble_eq_true rfl⟩ hI rfl rfl (h_me_eq ev9).1 rfl hl.1 rfl (Nat.le_of_ble_eq_true rfl) dL_law_2412 ⟨(by have := hcap.1; show _ ≤ 601024; omega), (by have := hcap.2; show _ ≤ 7293034; omega)⟩) hI (fun H locs hI => ?_)
  refine lv_istore (lv' := [(7, .int v9.1), (6, .int v4.1), (0, .ref x0), (1, .ref x1), (2, .ref x2), (3, .ref x3), (4, .ref x4), (5, .int x5)]) hx hb dL_law_2415 hl (by decide) rfl (fun ls hl => ?_)
  refine lv_aload_n hx hb dL_law_2417 rfl (lv_at hl 4 rfl) ?_
  obtain ⟨v10, ev10, hq⟩ := b_s hq
  refine gr_i (g_runV (As := []) (rest := []) (ci := 10) hC (c_X8_thrown l V g D cT v9.2 n5 x2 v10 ev10) k_X8_thrown m_1610 rfl rfl ⟨Nat.le_of_ble_eq_true rfl, Nat.le_of_ble_eq_true rfl⟩ hI rfl rfl (h_me_eq ev10).1 rfl hl.1 rfl (Nat.le_of_ble_eq_true rfl) dL_law_2418 ⟨(by have := hcap.1; show _ ≤ 601024; omega), (by have := hcap.2; show _ ≤ 7293034; omega)⟩) hI (fun H locs hI => ?_)
  refine lv_iload hx hb dL_law_2421 (lv_at hl 1 rfl) ?_
  refine lv_icmp_eq (tgt := 2428) hx hb dL_law_2423 (by decide) (fun c11 => ?_) (fun c11 => ?_)
  · replace hq := i_t c11 hq
    refine lv_iload hx hb dL_law_2428 (lv_at hl 1 rfl) ?_
    refine lv_if_ne (tgt := 2445) hx hb dL_law_2430 (by decide) (fun c12 => ?_) (fun c12 => ?_)
    · replace hq := i_f c12 hq
      refine lv_goto (tgt := 3637) hx hb dL_law_2445 (by decide) ?_
      obtain rfl := Option.some.inj hq
      refine W.widen (k := cells + 17) (n := slots + 3206) (by omega) (by omega) ?_
      exact kk _ _ _ _ (by omega) hI (lv_sub hl [2, 3, 4, 5, 6, 7] rfl)
    · replace hq := i_t c12 hq
      refine lv_aload_n hx hb dL_law_2433 rfl (lv_at hl 5 rfl) ?_
      refine lv_iconst (v := (0 : Int32)) hx hb dL_law_2434 (by decide) ?_
      obtain ⟨v13, ev13, hq⟩ := b_s hq
      refine fa_ll hx hb hI ev13 dL_law_2435 ?_
      refine lv_iload hx hb dL_law_2436 (lv_at hl 0 rfl) ?_
      refine lv_i2l (v := v9.1.toInt64) hx hb dL_law_2438 rfl ?_
      refine lv_lcmpN hx hb dL_law_2439 ?_
      refine lv_if_eq (tgt := 2445) hx hb dL_law_2440 (by decide) (fun c14 => ?_) (fun c14 => ?_)
      · replace hq := i_t c14 hq
        refine lv_goto (tgt := 3637) hx hb dL_law_2445 (by decide) ?_
        obtain rfl := Option.some.inj hq
        refine W.widen (k := cells + 17) (n := slots + 3206) (by omega) (by omega) ?_
        exact kk _ _ _ _ (by omega) hI (lv_sub hl [2, 3, 4, 5, 6, 7] rfl)
      · replace hq := i_f c14 hq
        refine lv_iconst (v := (0 : Int32)) hx hb dL_law_2443 (by decide) ?_
        cases hq
  · replace hq := i_f c11 hq
    refine lv_iconst (v := (0 : Int32)) hx hb dL_law_2426 (by decide) ?_
    cases hq

set_option maxHeartbeats 4000000 in
set_option maxRecDepth 100000 in
theorem cs_35 {p : Program} {l : Launch} {e : Env} {s : State} {m : MethodId} {args : Array Value} {below : List Frame} {meth : Method} {c : Code} {V : Nat → Nat} {g : GH} {D : va_G} {cT : Nat → ClassId} (hl0 : l.stackTraces = false) (hx : p.tables.exec = Jvm.exec) (hb : c.code = cL_law) (hC : CallFix p m c cL_law 9 s args g_B RL) {Q : State → Prop} {f : GH} {n : Nat} (x0 x1 x2 x3 x4 : Nat) (x5 : Int32) {f1 : GH} (hq : p_case_35 V g f n x0 x1 x2 x3 x4 x5 = some f1) {H : Heap} {locs : List Loc} {cells slots : Nat} {ls : Array Slot} (hcap : cells + 17 ≤ 601024 ∧ slots + 3206 ≤ 7293034) (hI : g_at (g_A V) V g D cT f n s H locs) (hl : lv_has ls 9 [(0, .ref x0), (1, .ref x1), (2, .ref x2), (3, .ref x3), (4, .ref x4), (5, .int x5)])
    (kk : ∀ (H : Heap) (locs : List Loc) (ls : Array Slot) (n1 : Nat), n ≤ n1 → g_at (g_A V) V g D cT f1 n1 s H locs → lv_has ls 9 [(0, .ref x0), (1, .ref x1), (2, .ref x2), (3, .ref x3), (4, .ref x4), (5, .int x5)] → W p l e room_1 s m args below meth c H locs (cells + 17) (slots + 3206) Q (F0 m 3637 ls [])) : W p l e room_1 s m args below meth c H locs cells slots Q (F0 m 2448 ls []) := by
  obtain ⟨_, _, hml, hown, hB⟩ := id hC
  unfold p_case_35 at hq
  refine lv_aload_n hx hb dL_law_2448 rfl (lv_at hl 1 rfl) ?_
  refine lv_aload_n hx hb dL_law_2449 rfl (lv_at hl 0 rfl) ?_
  refine lv_iload hx hb dL_law_2450 (lv_at hl 5 rfl) ?_
  refine lv_iconst (v := (1 : Int32)) hx hb dL_law_2452 (by decide) ?_
  refine lv_iadd hx hb dL_law_2453 ?_
  obtain ⟨v1, ev1, hq⟩ := b_s hq
  refine fs_li hx hb hI ev1 dL_law_2454 ?_
  refine lv_aload_n hx hb dL_law_2455 rfl (lv_at hl 0 rfl) ?_
  refine lv_iload hx hb dL_law_2456 (lv_at hl 5 rfl) ?_
  refine lv_iconst (v := (2 : Int32)) hx hb dL_law_2458 (by decide) ?_
  refine lv_iadd hx hb dL_law_2459 ?_
  obtain ⟨v2, ev2, hq⟩ := b_s hq
  refine fs_li hx hb hI ev2 dL_law_2460 ?_
  refine lv_aload_n hx hb dL_law_2461 rfl (lv_at hl 3 rfl) ?_
  obtain ⟨v3, ev3, hq⟩ := b_s hq
  refine gl_i (g_runSW (As := [.ref x1, .int v1, .int v2, .ref x3]) (rest := []) hC (c_L_lengthWithoutPoint l hl0 V g D cT f n x1 v1 v2 x3 v3 ev3) k_L_lengthWithoutPoint m_1050 rfl rfl ⟨Nat.le_of_ble_eq_true rfl, Nat.le_of_ble_eq_true rfl⟩ hI rfl hl.1 rfl (Nat.le_of_ble_eq_true rfl) dL_law_2462 ⟨(by have := hcap.1; show _ ≤ 601024; omega), (by have := hcap.2; show _ ≤ 7293034; omega)⟩) hI (fun H locs n4 hn4 hI => ?_)
  refine lv_istore (lv' := [(6, .int v3.1), (0, .ref x0), (1, .ref x1), (2, .ref x2), (3, .ref x3), (4, .ref x4), (5, .int x5)]) hx hb dL_law_2465 hl (by decide) rfl (fun ls hl => ?_)
  refine lv_aload_n hx hb dL_law_2467 rfl (lv_at hl 3 rfl) ?_
  refine lv_aload_n hx hb dL_law_2468 rfl (lv_at hl 1 rfl) ?_
  refine lv_iload hx hb dL_law_2469 (lv_at hl 6 rfl) ?_
  refine lv_iconst (v := (1 : Int32)) hx hb dL_law_2471 (by decide) ?_
  refine lv_iadd hx hb dL_law_2472 ?_
  obtain ⟨v5, ev5, hq⟩ := b_s hq
  refine fs_li hx hb hI ev5 dL_law_2473 ?_
  refine lv_aload_n hx hb dL_law_2474 rfl (lv_at hl 1 rfl) ?_
  refine lv_iload hx hb dL_law_2475 (lv_at hl 6 rfl) ?_
  refine lv_iconst (v := (2 : Int32)) hx hb dL_law_2477 (by decide) ?_
  refine lv_iadd hx hb dL_law_2478 ?_
  obtain ⟨v6, ev6, hq⟩ := b_s hq
  refine fs_li hx hb hI ev6 dL_law_2479 ?_
  obtain ⟨v7, ev7, hq⟩ := b_s hq
  refine gw_i (g_runV (As := [.int v5, .int v6]) (rest := []) (ci := 10) hC (c_X8_lengthWithoutPoint l V g D cT v3.2 n4 x2 v5 v6 v7 ev7) k_X8_lengthWithoutPoint m_1892 rfl rfl ⟨Nat.le_of_ble_eq_true rfl, Nat.le_of_ble_eq_true rfl⟩ hI rfl rfl (h_me_eq ev7).1 rfl hl.1 rfl (Nat.le_of_ble_eq_true rfl) dL_law_2480 ⟨(by have := hcap.1; show _ ≤ 601024; omega), (by have := hcap.2; show _ ≤ 7293034; omega)⟩) hI (fun H locs hI => ?_)
  refine lv_istore (lv' := [(7, .int v7.1), (6, .int v3.1), (0, .ref x0), (1, .ref x1), (2, .ref x2), (3, .ref x3), (4, .ref x4), (5, .int x5)]) hx hb dL_law_2483 hl (by decide) rfl (fun ls hl => ?_)
  refine lv_aload_n hx hb dL_law_2485 rfl (lv_at hl 4 rfl) ?_
  obtain ⟨v8, ev8, hq⟩ := b_s hq
  refine gr_i (g_runV (As := []) (rest := []) (ci := 10) hC (c_X8_thrown l V g D cT v7.2 n4 x2 v8 ev8) k_X8_thrown m_1610 rfl rfl ⟨Nat.le_of_ble_eq_true rfl, Nat.le_of_ble_eq_true rfl⟩ hI rfl rfl (h_me_eq ev8).1 rfl hl.1 rfl (Nat.le_of_ble_eq_true rfl) dL_law_2486 ⟨(by have := hcap.1; show _ ≤ 601024; omega), (by have := hcap.2; show _ ≤ 7293034; omega)⟩) hI (fun H locs hI => ?_)
  refine lv_iload hx hb dL_law_2489 (lv_at hl 1 rfl) ?_
  refine lv_icmp_eq (tgt := 2496) hx hb dL_law_2491 (by decide) (fun c9 => ?_) (fun c9 => ?_)
  · replace hq := i_t c9 hq
    refine lv_iload hx hb dL_law_2496 (lv_at hl 1 rfl) ?_
    refine lv_if_ne (tgt := 2513) hx hb dL_law_2498 (by decide) (fun c10 => ?_) (fun c10 => ?_)
    · replace hq := i_f c10 hq
      refine lv_goto (tgt := 3637) hx hb dL_law_2513 (by decide) ?_
      obtain rfl := Option.some.inj hq
      refine W.widen (k := cells + 17) (n := slots + 3206) (by omega) (by omega) ?_
      exact kk _ _ _ _ (by omega) hI (lv_sub hl [2, 3, 4, 5, 6, 7] rfl)
    · replace hq := i_t c10 hq
      refine lv_aload_n hx hb dL_law_2501 rfl (lv_at hl 5 rfl) ?_
      refine lv_iconst (v := (0 : Int32)) hx hb dL_law_2502 (by decide) ?_
      obtain ⟨v11, ev11, hq⟩ := b_s hq
      refine fa_ll hx hb hI ev11 dL_law_2503 ?_
      refine lv_iload hx hb dL_law_2504 (lv_at hl 0 rfl) ?_
      refine lv_i2l (v := v7.1.toInt64) hx hb dL_law_2506 rfl ?_
      refine lv_lcmpN hx hb dL_law_2507 ?_
      refine lv_if_eq (tgt := 2513) hx hb dL_law_2508 (by decide) (fun c12 => ?_) (fun c12 => ?_)
      · replace hq := i_t c12 hq
        refine lv_goto (tgt := 3637) hx hb dL_law_2513 (by decide) ?_
        obtain rfl := Option.some.inj hq
        refine W.widen (k := cells + 17) (n := slots + 3206) (by omega) (by omega) ?_
        exact kk _ _ _ _ (by omega) hI (lv_sub hl [2, 3, 4, 5, 6, 7] rfl)
      · replace hq := i_f c12 hq
        refine lv_iconst (v := (0 : Int32)) hx hb dL_law_2511 (by decide) ?_
        cases hq
  · replace hq := i_f c9 hq
    refine lv_iconst (v := (0 : Int32)) hx hb dL_law_2494 (by decide) ?_
    cases hq

set_option maxHeartbeats 4000000 in
set_option maxRecDepth 100000 in
theorem cs_36 {p : Program} {l : Launch} {e : Env} {s : State} {m : MethodId} {args : Array Value} {below : List Frame} {meth : Method} {c : Code} {V : Nat → Nat} {g : GH} {D : va_G} {cT : Nat → ClassId} (hl0 : l.stackTraces = false) (hx : p.tables.exec = Jvm.exec) (hb : c.code = cL_law) (hC : CallFix p m c cL_law 9 s args g_B RL) {Q : State → Prop} {f : GH} {n : Nat} (x0 x1 x2 x3 x4 : Nat) (x5 : Int32) {f1 : GH} (hq : p_case_36 V g f n x0 x1 x2 x3 x4 x5 = some f1) {H : Heap} {locs : List Loc} {cells slots : Nat} {ls : Array Slot} (hcap : cells + 17 ≤ 601024 ∧ slots + 3206 ≤ 7293034) (hI : g_at (g_A V) V g D cT f n s H locs) (hl : lv_has ls 9 [(0, .ref x0), (1, .ref x1), (2, .ref x2), (3, .ref x3), (4, .ref x4), (5, .int x5)])
    (kk : ∀ (H : Heap) (locs : List Loc) (ls : Array Slot) (n1 : Nat), n ≤ n1 → g_at (g_A V) V g D cT f1 n1 s H locs → lv_has ls 9 [(0, .ref x0), (1, .ref x1), (2, .ref x2), (3, .ref x3), (4, .ref x4), (5, .int x5)] → W p l e room_1 s m args below meth c H locs (cells + 17) (slots + 3206) Q (F0 m 3637 ls [])) : W p l e room_1 s m args below meth c H locs cells slots Q (F0 m 2516 ls []) := by
  obtain ⟨_, _, hml, hown, hB⟩ := id hC
  unfold p_case_36 at hq
  refine lv_aload_n hx hb dL_law_2516 rfl (lv_at hl 1 rfl) ?_
  refine lv_aload_n hx hb dL_law_2517 rfl (lv_at hl 0 rfl) ?_
  refine lv_iload hx hb dL_law_2518 (lv_at hl 5 rfl) ?_
  refine lv_iconst (v := (1 : Int32)) hx hb dL_law_2520 (by decide) ?_
  refine lv_iadd hx hb dL_law_2521 ?_
  obtain ⟨v1, ev1, hq⟩ := b_s hq
  refine fs_li hx hb hI ev1 dL_law_2522 ?_
  refine lv_aload_n hx hb dL_law_2523 rfl (lv_at hl 3 rfl) ?_
  obtain ⟨v2, ev2, hq⟩ := b_s hq
  refine gl_i (g_runSW (As := [.ref x1, .int v1, .ref x3]) (rest := []) hC (c_L_leastImportantPoint l hl0 V g D cT f n x1 v1 x3 v2 ev2) k_L_leastImportantPoint m_1062 rfl rfl ⟨Nat.le_of_ble_eq_true rfl, Nat.le_of_ble_eq_true rfl⟩ hI rfl hl.1 rfl (Nat.le_of_ble_eq_true rfl) dL_law_2524 ⟨(by have := hcap.1; show _ ≤ 601024; omega), (by have := hcap.2; show _ ≤ 7293034; omega)⟩) hI (fun H locs n3 hn3 hI => ?_)
  refine lv_istore (lv' := [(6, .int v2.1), (0, .ref x0), (1, .ref x1), (2, .ref x2), (3, .ref x3), (4, .ref x4), (5, .int x5)]) hx hb dL_law_2527 hl (by decide) rfl (fun ls hl => ?_)
  refine lv_aload_n hx hb dL_law_2529 rfl (lv_at hl 3 rfl) ?_
  refine lv_aload_n hx hb dL_law_2530 rfl (lv_at hl 1 rfl) ?_
  refine lv_iload hx hb dL_law_2531 (lv_at hl 6 rfl) ?_
  refine lv_iconst (v := (1 : Int32)) hx hb dL_law_2533 (by decide) ?_
  refine lv_iadd hx hb dL_law_2534 ?_
  obtain ⟨v4, ev4, hq⟩ := b_s hq
  refine fs_li hx hb hI ev4 dL_law_2535 ?_
  obtain ⟨v5, ev5, hq⟩ := b_s hq
  refine gw_i (g_runV (As := [.int v4]) (rest := []) (ci := 10) hC (c_X8_leastImportantPoint l V g D cT v2.2 n3 x2 v4 v5 ev5) k_X8_leastImportantPoint m_1912 rfl rfl ⟨Nat.le_of_ble_eq_true rfl, Nat.le_of_ble_eq_true rfl⟩ hI rfl rfl (h_me_eq ev5).1 rfl hl.1 rfl (Nat.le_of_ble_eq_true rfl) dL_law_2536 ⟨(by have := hcap.1; show _ ≤ 601024; omega), (by have := hcap.2; show _ ≤ 7293034; omega)⟩) hI (fun H locs hI => ?_)
  refine lv_istore (lv' := [(7, .int v5.1), (6, .int v2.1), (0, .ref x0), (1, .ref x1), (2, .ref x2), (3, .ref x3), (4, .ref x4), (5, .int x5)]) hx hb dL_law_2539 hl (by decide) rfl (fun ls hl => ?_)
  refine lv_aload_n hx hb dL_law_2541 rfl (lv_at hl 4 rfl) ?_
  obtain ⟨v6, ev6, hq⟩ := b_s hq
  refine gr_i (g_runV (As := []) (rest := []) (ci := 10) hC (c_X8_thrown l V g D cT v5.2 n3 x2 v6 ev6) k_X8_thrown m_1610 rfl rfl ⟨Nat.le_of_ble_eq_true rfl, Nat.le_of_ble_eq_true rfl⟩ hI rfl rfl (h_me_eq ev6).1 rfl hl.1 rfl (Nat.le_of_ble_eq_true rfl) dL_law_2542 ⟨(by have := hcap.1; show _ ≤ 601024; omega), (by have := hcap.2; show _ ≤ 7293034; omega)⟩) hI (fun H locs hI => ?_)
  refine lv_iload hx hb dL_law_2545 (lv_at hl 1 rfl) ?_
  refine lv_icmp_eq (tgt := 2552) hx hb dL_law_2547 (by decide) (fun c7 => ?_) (fun c7 => ?_)
  · replace hq := i_t c7 hq
    refine lv_iload hx hb dL_law_2552 (lv_at hl 1 rfl) ?_
    refine lv_if_ne (tgt := 2569) hx hb dL_law_2554 (by decide) (fun c8 => ?_) (fun c8 => ?_)
    · replace hq := i_f c8 hq
      refine lv_goto (tgt := 3637) hx hb dL_law_2569 (by decide) ?_
      obtain rfl := Option.some.inj hq
      refine W.widen (k := cells + 17) (n := slots + 3206) (by omega) (by omega) ?_
      exact kk _ _ _ _ (by omega) hI (lv_sub hl [2, 3, 4, 5, 6, 7] rfl)
    · replace hq := i_t c8 hq
      refine lv_aload_n hx hb dL_law_2557 rfl (lv_at hl 5 rfl) ?_
      refine lv_iconst (v := (0 : Int32)) hx hb dL_law_2558 (by decide) ?_
      obtain ⟨v9, ev9, hq⟩ := b_s hq
      refine fa_ll hx hb hI ev9 dL_law_2559 ?_
      refine lv_iload hx hb dL_law_2560 (lv_at hl 0 rfl) ?_
      refine lv_i2l (v := v5.1.toInt64) hx hb dL_law_2562 rfl ?_
      refine lv_lcmpN hx hb dL_law_2563 ?_
      refine lv_if_eq (tgt := 2569) hx hb dL_law_2564 (by decide) (fun c10 => ?_) (fun c10 => ?_)
      · replace hq := i_t c10 hq
        refine lv_goto (tgt := 3637) hx hb dL_law_2569 (by decide) ?_
        obtain rfl := Option.some.inj hq
        refine W.widen (k := cells + 17) (n := slots + 3206) (by omega) (by omega) ?_
        exact kk _ _ _ _ (by omega) hI (lv_sub hl [2, 3, 4, 5, 6, 7] rfl)
      · replace hq := i_f c10 hq
        refine lv_iconst (v := (0 : Int32)) hx hb dL_law_2567 (by decide) ?_
        cases hq
  · replace hq := i_f c7 hq
    refine lv_iconst (v := (0 : Int32)) hx hb dL_law_2550 (by decide) ?_
    cases hq

set_option maxHeartbeats 4000000 in
set_option maxRecDepth 100000 in
theorem cs_37 {p : Program} {l : Launch} {e : Env} {s : State} {m : MethodId} {args : Array Value} {below : List Frame} {meth : Method} {c : Code} {V : Nat → Nat} {g : GH} {D : va_G} {cT : Nat → ClassId} (hl0 : l.stackTraces = false) (hx : p.tables.exec = Jvm.exec) (hb : c.code = cL_law) (hC : CallFix p m c cL_law 9 s args g_B RL) {Q : State → Prop} {f : GH} {n : Nat} (x0 x1 x2 x3 x4 : Nat) (x5 : Int32) {f1 : GH} (hq : p_case_37 V g f n x0 x1 x2 x3 x4 x5 = some f1) {H : Heap} {locs : List Loc} {cells slots : Nat} {ls : Array Slot} (hcap : cells + 17 ≤ 601024 ∧ slots + 3206 ≤ 7293034) (hI : g_at (g_A V) V g D cT f n s H locs) (hl : lv_has ls 9 [(0, .ref x0), (1, .ref x1), (2, .ref x2), (3, .ref x3), (4, .ref x4), (5, .int x5)])
    (kk : ∀ (H : Heap) (locs : List Loc) (ls : Array Slot) (n1 : Nat), n ≤ n1 → g_at (g_A V) V g D cT f1 n1 s H locs → lv_has ls 9 [(0, .ref x0), (1, .ref x1), (2, .ref x2), (3, .ref x3), (4, .ref x4), (5, .int x5)] → W p l e room_1 s m args below meth c H locs (cells + 17) (slots + 3206) Q (F0 m 3637 ls [])) : W p l e room_1 s m args below meth c H locs cells slots Q (F0 m 2572 ls []) := by
  obtain ⟨_, _, hml, hown, hB⟩ := id hC
  unfold p_case_37 at hq
  refine lv_aload_n hx hb dL_law_2572 rfl (lv_at hl 1 rfl) ?_
  refine lv_aload_n hx hb dL_law_2573 rfl (lv_at hl 0 rfl) ?_
  refine lv_iload hx hb dL_law_2574 (lv_at hl 5 rfl) ?_
  refine lv_iconst (v := (1 : Int32)) hx hb dL_law_2576 (by decide) ?_
  refine lv_iadd hx hb dL_law_2577 ?_
  obtain ⟨v1, ev1, hq⟩ := b_s hq
  refine fs_li hx hb hI ev1 dL_law_2578 ?_
  refine lv_aload_n hx hb dL_law_2579 rfl (lv_at hl 0 rfl) ?_
  refine lv_iload hx hb dL_law_2580 (lv_at hl 5 rfl) ?_
  refine lv_iconst (v := (2 : Int32)) hx hb dL_law_2582 (by decide) ?_
  refine lv_iadd hx hb dL_law_2583 ?_
  obtain ⟨v2, ev2, hq⟩ := b_s hq
  refine fs_li hx hb hI ev2 dL_law_2584 ?_
  refine lv_aload_n hx hb dL_law_2585 rfl (lv_at hl 3 rfl) ?_
  obtain ⟨v3, ev3, hq⟩ := b_s hq
  refine gl_i (g_runSW (As := [.ref x1, .int v1, .int v2, .ref x3]) (rest := []) hC (c_L_lengthInOtherMetric l hl0 V g D cT f n x1 v1 v2 x3 v3 ev3) k_L_lengthInOtherMetric m_1069 rfl rfl ⟨Nat.le_of_ble_eq_true rfl, Nat.le_of_ble_eq_true rfl⟩ hI rfl hl.1 rfl (Nat.le_of_ble_eq_true rfl) dL_law_2586 ⟨(by have := hcap.1; show _ ≤ 601024; omega), (by have := hcap.2; show _ ≤ 7293034; omega)⟩) hI (fun H locs n4 hn4 hI => ?_)
  refine lv_istore (lv' := [(6, .int v3.1), (0, .ref x0), (1, .ref x1), (2, .ref x2), (3, .ref x3), (4, .ref x4), (5, .int x5)]) hx hb dL_law_2589 hl (by decide) rfl (fun ls hl => ?_)
  refine lv_aload_n hx hb dL_law_2591 rfl (lv_at hl 3 rfl) ?_
  refine lv_aload_n hx hb dL_law_2592 rfl (lv_at hl 1 rfl) ?_
  refine lv_iload hx hb dL_law_2593 (lv_at hl 6 rfl) ?_
  refine lv_iconst (v := (1 : Int32)) hx hb dL_law_2595 (by decide) ?_
  refine lv_iadd hx hb dL_law_2596 ?_
  obtain ⟨v5, ev5, hq⟩ := b_s hq
  refine fs_li hx hb hI ev5 dL_law_2597 ?_
  refine lv_aload_n hx hb dL_law_2598 rfl (lv_at hl 1 rfl) ?_
  refine lv_iload hx hb dL_law_2599 (lv_at hl 6 rfl) ?_
  refine lv_iconst (v := (2 : Int32)) hx hb dL_law_2601 (by decide) ?_
  refine lv_iadd hx hb dL_law_2602 ?_
  obtain ⟨v6, ev6, hq⟩ := b_s hq
  refine fs_li hx hb hI ev6 dL_law_2603 ?_
  obtain ⟨v7, ev7, hq⟩ := b_s hq
  refine gw_i (g_runV (As := [.int v5, .int v6]) (rest := []) (ci := 10) hC (c_X8_lengthInOtherMetric l V g D cT v3.2 n4 x2 v5 v6 v7 ev7) k_X8_lengthInOtherMetric m_1916 rfl rfl ⟨Nat.le_of_ble_eq_true rfl, Nat.le_of_ble_eq_true rfl⟩ hI rfl rfl (h_me_eq ev7).1 rfl hl.1 rfl (Nat.le_of_ble_eq_true rfl) dL_law_2604 ⟨(by have := hcap.1; show _ ≤ 601024; omega), (by have := hcap.2; show _ ≤ 7293034; omega)⟩) hI (fun H locs hI => ?_)
  refine lv_istore (lv' := [(7, .int v7.1), (6, .int v3.1), (0, .ref x0), (1, .ref x1), (2, .ref x2), (3, .ref x3), (4, .ref x4), (5, .int x5)]) hx hb dL_law_2607 hl (by decide) rfl (fun ls hl => ?_)
  refine lv_aload_n hx hb dL_law_2609 rfl (lv_at hl 4 rfl) ?_
  obtain ⟨v8, ev8, hq⟩ := b_s hq
  refine gr_i (g_runV (As := []) (rest := []) (ci := 10) hC (c_X8_thrown l V g D cT v7.2 n4 x2 v8 ev8) k_X8_thrown m_1610 rfl rfl ⟨Nat.le_of_ble_eq_true rfl, Nat.le_of_ble_eq_true rfl⟩ hI rfl rfl (h_me_eq ev8).1 rfl hl.1 rfl (Nat.le_of_ble_eq_true rfl) dL_law_2610 ⟨(by have := hcap.1; show _ ≤ 601024; omega), (by have := hcap.2; show _ ≤ 7293034; omega)⟩) hI (fun H locs hI => ?_)
  refine lv_iload hx hb dL_law_2613 (lv_at hl 1 rfl) ?_
  refine lv_icmp_eq (tgt := 2620) hx hb dL_law_2615 (by decide) (fun c9 => ?_) (fun c9 => ?_)
  · replace hq := i_t c9 hq
    refine lv_iload hx hb dL_law_2620 (lv_at hl 1 rfl) ?_
    refine lv_if_ne (tgt := 2637) hx hb dL_law_2622 (by decide) (fun c10 => ?_) (fun c10 => ?_)
    · replace hq := i_f c10 hq
      refine lv_goto (tgt := 3637) hx hb dL_law_2637 (by decide) ?_
      obtain rfl := Option.some.inj hq
      refine W.widen (k := cells + 17) (n := slots + 3206) (by omega) (by omega) ?_
      exact kk _ _ _ _ (by omega) hI (lv_sub hl [2, 3, 4, 5, 6, 7] rfl)
    · replace hq := i_t c10 hq
      refine lv_aload_n hx hb dL_law_2625 rfl (lv_at hl 5 rfl) ?_
      refine lv_iconst (v := (0 : Int32)) hx hb dL_law_2626 (by decide) ?_
      obtain ⟨v11, ev11, hq⟩ := b_s hq
      refine fa_ll hx hb hI ev11 dL_law_2627 ?_
      refine lv_iload hx hb dL_law_2628 (lv_at hl 0 rfl) ?_
      refine lv_i2l (v := v7.1.toInt64) hx hb dL_law_2630 rfl ?_
      refine lv_lcmpN hx hb dL_law_2631 ?_
      refine lv_if_eq (tgt := 2637) hx hb dL_law_2632 (by decide) (fun c12 => ?_) (fun c12 => ?_)
      · replace hq := i_t c12 hq
        refine lv_goto (tgt := 3637) hx hb dL_law_2637 (by decide) ?_
        obtain rfl := Option.some.inj hq
        refine W.widen (k := cells + 17) (n := slots + 3206) (by omega) (by omega) ?_
        exact kk _ _ _ _ (by omega) hI (lv_sub hl [2, 3, 4, 5, 6, 7] rfl)
      · replace hq := i_f c12 hq
        refine lv_iconst (v := (0 : Int32)) hx hb dL_law_2635 (by decide) ?_
        cases hq
  · replace hq := i_f c9 hq
    refine lv_iconst (v := (0 : Int32)) hx hb dL_law_2618 (by decide) ?_
    cases hq

set_option maxHeartbeats 4000000 in
set_option maxRecDepth 100000 in
theorem cs_38 {p : Program} {l : Launch} {e : Env} {s : State} {m : MethodId} {args : Array Value} {below : List Frame} {meth : Method} {c : Code} {V : Nat → Nat} {g : GH} {D : va_G} {cT : Nat → ClassId} (hl0 : l.stackTraces = false) (hx : p.tables.exec = Jvm.exec) (hb : c.code = cL_law) (hC : CallFix p m c cL_law 9 s args g_B RL) {Q : State → Prop} {f : GH} {n : Nat} (x0 x1 x2 x3 x4 : Nat) (x5 : Int32) {f1 : GH} (hq : p_case_38 V g f n x0 x1 x2 x3 x4 x5 = some f1) {H : Heap} {locs : List Loc} {cells slots : Nat} {ls : Array Slot} (hcap : cells + 17 ≤ 601024 ∧ slots + 3206 ≤ 7293034) (hI : g_at (g_A V) V g D cT f n s H locs) (hl : lv_has ls 9 [(0, .ref x0), (1, .ref x1), (2, .ref x2), (3, .ref x3), (4, .ref x4), (5, .int x5)])
    (kk : ∀ (H : Heap) (locs : List Loc) (ls : Array Slot) (n1 : Nat), n ≤ n1 → g_at (g_A V) V g D cT f1 n1 s H locs → lv_has ls 9 [(0, .ref x0), (1, .ref x1), (2, .ref x2), (3, .ref x3), (4, .ref x4), (5, .int x5)] → W p l e room_1 s m args below meth c H locs (cells + 17) (slots + 3206) Q (F0 m 3637 ls [])) : W p l e room_1 s m args below meth c H locs cells slots Q (F0 m 2640 ls []) := by
  obtain ⟨_, _, hml, hown, hB⟩ := id hC
  unfold p_case_38 at hq
  refine lv_aload_n hx hb dL_law_2640 rfl (lv_at hl 1 rfl) ?_
  obtain ⟨v1, ev1, hq⟩ := b_s hq
  refine gr_i (g_runV (As := []) (rest := []) (ci := 9) hC (c_X7_loadedPoints l V g D cT f n x1 v1 ev1) k_X7_loadedPoints m_329 rfl rfl ⟨Nat.le_of_ble_eq_true rfl, Nat.le_of_ble_eq_true rfl⟩ hI rfl rfl (h_me_eq ev1).1 rfl hl.1 rfl (Nat.le_of_ble_eq_true rfl) dL_law_2641 ⟨(by have := hcap.1; show _ ≤ 601024; omega), (by have := hcap.2; show _ ≤ 7293034; omega)⟩) hI (fun H locs hI => ?_)
  refine lv_aload_n hx hb dL_law_2644 rfl (lv_at hl 2 rfl) ?_
  obtain ⟨v2, ev2, hq⟩ := b_s hq
  refine gw_i (g_runV (As := []) (rest := [.int v1]) (ci := 10) hC (c_X8_loadedPoints l V g D cT f n x2 v2 ev2) k_X8_loadedPoints m_1920 rfl rfl ⟨Nat.le_of_ble_eq_true rfl, Nat.le_of_ble_eq_true rfl⟩ hI rfl rfl (h_me_eq ev2).1 rfl hl.1 rfl (Nat.le_of_ble_eq_true rfl) dL_law_2645 ⟨(by have := hcap.1; show _ ≤ 601024; omega), (by have := hcap.2; show _ ≤ 7293034; omega)⟩) hI (fun H locs hI => ?_)
  refine lv_icmp_eq (tgt := 3637) hx hb dL_law_2648 (by decide) (fun c3 => ?_) (fun c3 => ?_)
  · replace hq := i_t c3 hq
    obtain rfl := Option.some.inj hq
    refine W.widen (k := cells + 17) (n := slots + 3206) (by omega) (by omega) ?_
    exact kk _ _ _ _ (by omega) hI (lv_sub hl [0, 1, 2, 3, 4, 5] rfl)
  · replace hq := i_f c3 hq
    refine lv_iconst (v := (0 : Int32)) hx hb dL_law_2651 (by decide) ?_
    cases hq

set_option maxHeartbeats 4000000 in
set_option maxRecDepth 100000 in
theorem cs_39 {p : Program} {l : Launch} {e : Env} {s : State} {m : MethodId} {args : Array Value} {below : List Frame} {meth : Method} {c : Code} {V : Nat → Nat} {g : GH} {D : va_G} {cT : Nat → ClassId} (hl0 : l.stackTraces = false) (hx : p.tables.exec = Jvm.exec) (hb : c.code = cL_law) (hC : CallFix p m c cL_law 9 s args g_B RL) {Q : State → Prop} {f : GH} {n : Nat} (x0 x1 x2 x3 x4 : Nat) (x5 : Int32) {f1 : GH} (hq : p_case_39 V g f n x0 x1 x2 x3 x4 x5 = some f1) {H : Heap} {locs : List Loc} {cells slots : Nat} {ls : Array Slot} (hcap : cells + 17 ≤ 601024 ∧ slots + 3206 ≤ 7293034) (hI : g_at (g_A V) V g D cT f n s H locs) (hl : lv_has ls 9 [(0, .ref x0), (1, .ref x1), (2, .ref x2), (3, .ref x3), (4, .ref x4), (5, .int x5)])
    (kk : ∀ (H : Heap) (locs : List Loc) (ls : Array Slot) (n1 : Nat), n ≤ n1 → g_at (g_A V) V g D cT f1 n1 s H locs → lv_has ls 9 [(0, .ref x0), (1, .ref x1), (2, .ref x2), (3, .ref x3), (4, .ref x4), (5, .int x5)] → W p l e room_1 s m args below meth c H locs (cells + 17) (slots + 3206) Q (F0 m 3637 ls [])) : W p l e room_1 s m args below meth c H locs cells slots Q (F0 m 2653 ls []) := by
  obtain ⟨_, _, hml, hown, hB⟩ := id hC
  unfold p_case_39 at hq
  refine lv_aload_n hx hb dL_law_2653 rfl (lv_at hl 1 rfl) ?_
  obtain ⟨v1, ev1, hq⟩ := b_s hq
  refine gr_i (g_runV (As := []) (rest := []) (ci := 9) hC (c_X7_addedPoints l V g D cT f n x1 v1 ev1) k_X7_addedPoints m_333 rfl rfl ⟨Nat.le_of_ble_eq_true rfl, Nat.le_of_ble_eq_true rfl⟩ hI rfl rfl (h_me_eq ev1).1 rfl hl.1 rfl (Nat.le_of_ble_eq_true rfl) dL_law_2654 ⟨(by have := hcap.1; show _ ≤ 601024; omega), (by have := hcap.2; show _ ≤ 7293034; omega)⟩) hI (fun H locs hI => ?_)
  refine lv_aload_n hx hb dL_law_2657 rfl (lv_at hl 2 rfl) ?_
  obtain ⟨v2, ev2, hq⟩ := b_s hq
  refine gw_i (g_runV (As := []) (rest := [.int v1]) (ci := 10) hC (c_X8_addedPoints l V g D cT f n x2 v2 ev2) k_X8_addedPoints m_1924 rfl rfl ⟨Nat.le_of_ble_eq_true rfl, Nat.le_of_ble_eq_true rfl⟩ hI rfl rfl (h_me_eq ev2).1 rfl hl.1 rfl (Nat.le_of_ble_eq_true rfl) dL_law_2658 ⟨(by have := hcap.1; show _ ≤ 601024; omega), (by have := hcap.2; show _ ≤ 7293034; omega)⟩) hI (fun H locs hI => ?_)
  refine lv_icmp_eq (tgt := 3637) hx hb dL_law_2661 (by decide) (fun c3 => ?_) (fun c3 => ?_)
  · replace hq := i_t c3 hq
    obtain rfl := Option.some.inj hq
    refine W.widen (k := cells + 17) (n := slots + 3206) (by omega) (by omega) ?_
    exact kk _ _ _ _ (by omega) hI (lv_sub hl [0, 1, 2, 3, 4, 5] rfl)
  · replace hq := i_f c3 hq
    refine lv_iconst (v := (0 : Int32)) hx hb dL_law_2664 (by decide) ?_
    cases hq

set_option maxHeartbeats 4000000 in
set_option maxRecDepth 100000 in
theorem cs_40 {p : Program} {l : Launch} {e : Env} {s : State} {m : MethodId} {args : Array Value} {below : List Frame} {meth : Method} {c : Code} {V : Nat → Nat} {g : GH} {D : va_G} {cT : Nat → ClassId} (hl0 : l.stackTraces = false) (hx : p.tables.exec = Jvm.exec) (hb : c.code = cL_law) (hC : CallFix p m c cL_law 9 s args g_B RL) {Q : State → Prop} {f : GH} {n : Nat} (x0 x1 x2 x3 x4 : Nat) (x5 : Int32) {f1 : GH} (hq : p_case_40 V g f n x0 x1 x2 x3 x4 x5 = some f1) {H : Heap} {locs : List Loc} {cells slots : Nat} {ls : Array Slot} (hcap : cells + 17 ≤ 601024 ∧ slots + 3206 ≤ 7293034) (hI : g_at (g_A V) V g D cT f n s H locs) (hl : lv_has ls 9 [(0, .ref x0), (1, .ref x1), (2, .ref x2), (3, .ref x3), (4, .ref x4), (5, .int x5)])
    (kk : ∀ (H : Heap) (locs : List Loc) (ls : Array Slot) (n1 : Nat), n ≤ n1 → g_at (g_A V) V g D cT f1 n1 s H locs → lv_has ls 9 [(0, .ref x0), (1, .ref x1), (2, .ref x2), (3, .ref x3), (4, .ref x4), (5, .int x5)] → W p l e room_1 s m args below meth c H locs (cells + 17) (slots + 3206) Q (F0 m 3637 ls [])) : W p l e room_1 s m args below meth c H locs cells slots Q (F0 m 2666 ls []) := by
  obtain ⟨_, _, hml, hown, hB⟩ := id hC
  unfold p_case_40 at hq
  refine lv_aload_n hx hb dL_law_2666 rfl (lv_at hl 1 rfl) ?_
  obtain ⟨v1, ev1, hq⟩ := b_s hq
  refine gr_i (g_runV (As := []) (rest := []) (ci := 9) hC (c_X7_removedPoints l V g D cT f n x1 v1 ev1) k_X7_removedPoints m_337 rfl rfl ⟨Nat.le_of_ble_eq_true rfl, Nat.le_of_ble_eq_true rfl⟩ hI rfl rfl (h_me_eq ev1).1 rfl hl.1 rfl (Nat.le_of_ble_eq_true rfl) dL_law_2667 ⟨(by have := hcap.1; show _ ≤ 601024; omega), (by have := hcap.2; show _ ≤ 7293034; omega)⟩) hI (fun H locs hI => ?_)
  refine lv_aload_n hx hb dL_law_2670 rfl (lv_at hl 2 rfl) ?_
  obtain ⟨v2, ev2, hq⟩ := b_s hq
  refine gw_i (g_runV (As := []) (rest := [.int v1]) (ci := 10) hC (c_X8_removedPoints l V g D cT f n x2 v2 ev2) k_X8_removedPoints m_1928 rfl rfl ⟨Nat.le_of_ble_eq_true rfl, Nat.le_of_ble_eq_true rfl⟩ hI rfl rfl (h_me_eq ev2).1 rfl hl.1 rfl (Nat.le_of_ble_eq_true rfl) dL_law_2671 ⟨(by have := hcap.1; show _ ≤ 601024; omega), (by have := hcap.2; show _ ≤ 7293034; omega)⟩) hI (fun H locs hI => ?_)
  refine lv_icmp_eq (tgt := 3637) hx hb dL_law_2674 (by decide) (fun c3 => ?_) (fun c3 => ?_)
  · replace hq := i_t c3 hq
    obtain rfl := Option.some.inj hq
    refine W.widen (k := cells + 17) (n := slots + 3206) (by omega) (by omega) ?_
    exact kk _ _ _ _ (by omega) hI (lv_sub hl [0, 1, 2, 3, 4, 5] rfl)
  · replace hq := i_f c3 hq
    refine lv_iconst (v := (0 : Int32)) hx hb dL_law_2677 (by decide) ?_
    cases hq

set_option maxHeartbeats 4000000 in
set_option maxRecDepth 100000 in
theorem cs_41 {p : Program} {l : Launch} {e : Env} {s : State} {m : MethodId} {args : Array Value} {below : List Frame} {meth : Method} {c : Code} {V : Nat → Nat} {g : GH} {D : va_G} {cT : Nat → ClassId} (hl0 : l.stackTraces = false) (hx : p.tables.exec = Jvm.exec) (hb : c.code = cL_law) (hC : CallFix p m c cL_law 9 s args g_B RL) {Q : State → Prop} {f : GH} {n : Nat} (x0 x1 x2 x3 x4 : Nat) (x5 : Int32) {f1 : GH} (hq : p_case_41 V g f n x0 x1 x2 x3 x4 x5 = some f1) {H : Heap} {locs : List Loc} {cells slots : Nat} {ls : Array Slot} (hcap : cells + 17 ≤ 601024 ∧ slots + 3206 ≤ 7293034) (hI : g_at (g_A V) V g D cT f n s H locs) (hl : lv_has ls 9 [(0, .ref x0), (1, .ref x1), (2, .ref x2), (3, .ref x3), (4, .ref x4), (5, .int x5)])
    (kk : ∀ (H : Heap) (locs : List Loc) (ls : Array Slot) (n1 : Nat), n ≤ n1 → g_at (g_A V) V g D cT f1 n1 s H locs → lv_has ls 9 [(0, .ref x0), (1, .ref x1), (2, .ref x2), (3, .ref x3), (4, .ref x4), (5, .int x5)] → W p l e room_1 s m args below meth c H locs (cells + 17) (slots + 3206) Q (F0 m 3637 ls [])) : W p l e room_1 s m args below meth c H locs cells slots Q (F0 m 2679 ls []) := by
  obtain ⟨_, _, hml, hown, hB⟩ := id hC
  unfold p_case_41 at hq
  refine lv_aload_n hx hb dL_law_2679 rfl (lv_at hl 1 rfl) ?_
  obtain ⟨v1, ev1, hq⟩ := b_s hq
  refine gr_i (g_runV (As := []) (rest := []) (ci := 9) hC (c_X7_ledgerGap l V g D cT f n x1 v1 ev1) k_X7_ledgerGap m_341 rfl rfl ⟨Nat.le_of_ble_eq_true rfl, Nat.le_of_ble_eq_true rfl⟩ hI rfl rfl (h_me_eq ev1).1 rfl hl.1 rfl (Nat.le_of_ble_eq_true rfl) dL_law_2680 ⟨(by have := hcap.1; show _ ≤ 601024; omega), (by have := hcap.2; show _ ≤ 7293034; omega)⟩) hI (fun H locs hI => ?_)
  refine lv_aload_n hx hb dL_law_2683 rfl (lv_at hl 2 rfl) ?_
  obtain ⟨v2, ev2, hq⟩ := b_s hq
  refine gw_i (g_runV (As := []) (rest := [.int v1]) (ci := 10) hC (c_X8_ledgerGap l V g D cT f n x2 v2 ev2) k_X8_ledgerGap m_1932 rfl rfl ⟨Nat.le_of_ble_eq_true rfl, Nat.le_of_ble_eq_true rfl⟩ hI rfl rfl (h_me_eq ev2).1 rfl hl.1 rfl (Nat.le_of_ble_eq_true rfl) dL_law_2684 ⟨(by have := hcap.1; show _ ≤ 601024; omega), (by have := hcap.2; show _ ≤ 7293034; omega)⟩) hI (fun H locs hI => ?_)
  refine lv_icmp_eq (tgt := 3637) hx hb dL_law_2687 (by decide) (fun c3 => ?_) (fun c3 => ?_)
  · replace hq := i_t c3 hq
    obtain rfl := Option.some.inj hq
    refine W.widen (k := cells + 17) (n := slots + 3206) (by omega) (by omega) ?_
    exact kk _ _ _ _ (by omega) hI (lv_sub hl [0, 1, 2, 3, 4, 5] rfl)
  · replace hq := i_f c3 hq
    refine lv_iconst (v := (0 : Int32)) hx hb dL_law_2690 (by decide) ?_
    cases hq

set_option maxHeartbeats 4000000 in
set_option maxRecDepth 100000 in
theorem cs_42 {p : Program} {l : Launch} {e : Env} {s : State} {m : MethodId} {args : Array Value} {below : List Frame} {meth : Method} {c : Code} {V : Nat → Nat} {g : GH} {D : va_G} {cT : Nat → ClassId} (hl0 : l.stackTraces = false) (hx : p.tables.exec = Jvm.exec) (hb : c.code = cL_law) (hC : CallFix p m c cL_law 9 s args g_B RL) {Q : State → Prop} {f : GH} {n : Nat} (x0 x1 x2 x3 x4 : Nat) (x5 : Int32) {f1 : GH} (hq : p_case_42 V g f n x0 x1 x2 x3 x4 x5 = some f1) {H : Heap} {locs : List Loc} {cells slots : Nat} {ls : Array Slot} (hcap : cells + 17 ≤ 601024 ∧ slots + 3206 ≤ 7293034) (hI : g_at (g_A V) V g D cT f n s H locs) (hl : lv_has ls 9 [(0, .ref x0), (1, .ref x1), (2, .ref x2), (3, .ref x3), (4, .ref x4), (5, .int x5)])
    (kk : ∀ (H : Heap) (locs : List Loc) (ls : Array Slot) (n1 : Nat), n ≤ n1 → g_at (g_A V) V g D cT f1 n1 s H locs → lv_has ls 9 [(0, .ref x0), (1, .ref x1), (2, .ref x2), (3, .ref x3), (4, .ref x4), (5, .int x5)] → W p l e room_1 s m args below meth c H locs (cells + 17) (slots + 3206) Q (F0 m 3637 ls [])) : W p l e room_1 s m args below meth c H locs cells slots Q (F0 m 2692 ls []) := by
  obtain ⟨_, _, hml, hown, hB⟩ := id hC
  unfold p_case_42 at hq
  refine lv_aload_n hx hb dL_law_2692 rfl (lv_at hl 1 rfl) ?_
  refine lv_aload_n hx hb dL_law_2693 rfl (lv_at hl 0 rfl) ?_
  refine lv_iload hx hb dL_law_2694 (lv_at hl 5 rfl) ?_
  refine lv_iconst (v := (1 : Int32)) hx hb dL_law_2696 (by decide) ?_
  refine lv_iadd hx hb dL_law_2697 ?_
  obtain ⟨v1, ev1, hq⟩ := b_s hq
  refine fs_li hx hb hI ev1 dL_law_2698 ?_
  refine lv_aload_n hx hb dL_law_2699 rfl (lv_at hl 3 rfl) ?_
  obtain ⟨v2, ev2, hq⟩ := b_s hq
  refine gl_i (g_runSW (As := [.ref x1, .int v1, .ref x3]) (rest := []) hC (c_L_addCoast l hl0 V g D cT f n x1 v1 x3 v2 ev2) k_L_addCoast m_1076 rfl rfl ⟨Nat.le_of_ble_eq_true rfl, Nat.le_of_ble_eq_true rfl⟩ hI rfl hl.1 rfl (Nat.le_of_ble_eq_true rfl) dL_law_2700 ⟨(by have := hcap.1; show _ ≤ 601024; omega), (by have := hcap.2; show _ ≤ 7293034; omega)⟩) hI (fun H locs n3 hn3 hI => ?_)
  refine lv_istore (lv' := [(6, .int v2.1), (0, .ref x0), (1, .ref x1), (2, .ref x2), (3, .ref x3), (4, .ref x4), (5, .int x5)]) hx hb dL_law_2703 hl (by decide) rfl (fun ls hl => ?_)
  refine lv_aload_n hx hb dL_law_2705 rfl (lv_at hl 3 rfl) ?_
  refine lv_aload_n hx hb dL_law_2706 rfl (lv_at hl 1 rfl) ?_
  refine lv_iload hx hb dL_law_2707 (lv_at hl 6 rfl) ?_
  refine lv_iconst (v := (1 : Int32)) hx hb dL_law_2709 (by decide) ?_
  refine lv_iadd hx hb dL_law_2710 ?_
  obtain ⟨v4, ev4, hq⟩ := b_s hq
  refine fs_li hx hb hI ev4 dL_law_2711 ?_
  obtain ⟨v5, ev5, hq⟩ := b_s hq
  refine gw_i (g_runV (As := [.int v4]) (rest := []) (ci := 10) hC (c_X8_addCoast l V g D cT v2.2 n3 x2 v4 v5 ev5) k_X8_addCoast m_2176 rfl rfl ⟨Nat.le_of_ble_eq_true rfl, Nat.le_of_ble_eq_true rfl⟩ hI rfl rfl (h_me_eq ev5).1 rfl hl.1 rfl (Nat.le_of_ble_eq_true rfl) dL_law_2712 ⟨(by have := hcap.1; show _ ≤ 601024; omega), (by have := hcap.2; show _ ≤ 7293034; omega)⟩) hI (fun H locs hI => ?_)
  refine lv_istore (lv' := [(7, .int v5.1), (6, .int v2.1), (0, .ref x0), (1, .ref x1), (2, .ref x2), (3, .ref x3), (4, .ref x4), (5, .int x5)]) hx hb dL_law_2715 hl (by decide) rfl (fun ls hl => ?_)
  refine lv_aload_n hx hb dL_law_2717 rfl (lv_at hl 4 rfl) ?_
  obtain ⟨v6, ev6, hq⟩ := b_s hq
  refine gr_i (g_runV (As := []) (rest := []) (ci := 10) hC (c_X8_thrown l V g D cT v5.2 n3 x2 v6 ev6) k_X8_thrown m_1610 rfl rfl ⟨Nat.le_of_ble_eq_true rfl, Nat.le_of_ble_eq_true rfl⟩ hI rfl rfl (h_me_eq ev6).1 rfl hl.1 rfl (Nat.le_of_ble_eq_true rfl) dL_law_2718 ⟨(by have := hcap.1; show _ ≤ 601024; omega), (by have := hcap.2; show _ ≤ 7293034; omega)⟩) hI (fun H locs hI => ?_)
  refine lv_iload hx hb dL_law_2721 (lv_at hl 1 rfl) ?_
  refine lv_icmp_eq (tgt := 2728) hx hb dL_law_2723 (by decide) (fun c7 => ?_) (fun c7 => ?_)
  · replace hq := i_t c7 hq
    refine lv_iload hx hb dL_law_2728 (lv_at hl 1 rfl) ?_
    refine lv_if_ne (tgt := 2745) hx hb dL_law_2730 (by decide) (fun c8 => ?_) (fun c8 => ?_)
    · replace hq := i_f c8 hq
      refine lv_goto (tgt := 3637) hx hb dL_law_2745 (by decide) ?_
      obtain rfl := Option.some.inj hq
      refine W.widen (k := cells + 17) (n := slots + 3206) (by omega) (by omega) ?_
      exact kk _ _ _ _ (by omega) hI (lv_sub hl [2, 3, 4, 5, 6, 7] rfl)
    · replace hq := i_t c8 hq
      refine lv_aload_n hx hb dL_law_2733 rfl (lv_at hl 5 rfl) ?_
      refine lv_iconst (v := (0 : Int32)) hx hb dL_law_2734 (by decide) ?_
      obtain ⟨v9, ev9, hq⟩ := b_s hq
      refine fa_ll hx hb hI ev9 dL_law_2735 ?_
      refine lv_iload hx hb dL_law_2736 (lv_at hl 0 rfl) ?_
      refine lv_i2l (v := v5.1.toInt64) hx hb dL_law_2738 rfl ?_
      refine lv_lcmpN hx hb dL_law_2739 ?_
      refine lv_if_eq (tgt := 2745) hx hb dL_law_2740 (by decide) (fun c10 => ?_) (fun c10 => ?_)
      · replace hq := i_t c10 hq
        refine lv_goto (tgt := 3637) hx hb dL_law_2745 (by decide) ?_
        obtain rfl := Option.some.inj hq
        refine W.widen (k := cells + 17) (n := slots + 3206) (by omega) (by omega) ?_
        exact kk _ _ _ _ (by omega) hI (lv_sub hl [2, 3, 4, 5, 6, 7] rfl)
      · replace hq := i_f c10 hq
        refine lv_iconst (v := (0 : Int32)) hx hb dL_law_2743 (by decide) ?_
        cases hq
  · replace hq := i_f c7 hq
    refine lv_iconst (v := (0 : Int32)) hx hb dL_law_2726 (by decide) ?_
    cases hq

set_option maxHeartbeats 4000000 in
set_option maxRecDepth 100000 in
theorem cs_43 {p : Program} {l : Launch} {e : Env} {s : State} {m : MethodId} {args : Array Value} {below : List Frame} {meth : Method} {c : Code} {V : Nat → Nat} {g : GH} {D : va_G} {cT : Nat → ClassId} (hl0 : l.stackTraces = false) (hx : p.tables.exec = Jvm.exec) (hb : c.code = cL_law) (hC : CallFix p m c cL_law 9 s args g_B RL) {Q : State → Prop} {f : GH} {n : Nat} (x0 x1 x2 x3 x4 : Nat) (x5 : Int32) {f1 : GH} (hq : p_case_43 V g f n x0 x1 x2 x3 x4 x5 = some f1) {H : Heap} {locs : List Loc} {cells slots : Nat} {ls : Array Slot} (hcap : cells + 17 ≤ 601024 ∧ slots + 3206 ≤ 7293034) (hI : g_at (g_A V) V g D cT f n s H locs) (hl : lv_has ls 9 [(0, .ref x0), (1, .ref x1), (2, .ref x2), (3, .ref x3), (4, .ref x4), (5, .int x5)])
    (kk : ∀ (H : Heap) (locs : List Loc) (ls : Array Slot) (n1 : Nat), n ≤ n1 → g_at (g_A V) V g D cT f1 n1 s H locs → lv_has ls 9 [(0, .ref x0), (1, .ref x1), (2, .ref x2), (3, .ref x3), (4, .ref x4), (5, .int x5)] → W p l e room_1 s m args below meth c H locs (cells + 17) (slots + 3206) Q (F0 m 3637 ls [])) : W p l e room_1 s m args below meth c H locs cells slots Q (F0 m 2748 ls []) := by
  obtain ⟨_, _, hml, hown, hB⟩ := id hC
  unfold p_case_43 at hq
  refine lv_aload_n hx hb dL_law_2748 rfl (lv_at hl 1 rfl) ?_
  refine lv_aload_n hx hb dL_law_2749 rfl (lv_at hl 0 rfl) ?_
  refine lv_iload hx hb dL_law_2750 (lv_at hl 5 rfl) ?_
  refine lv_iconst (v := (1 : Int32)) hx hb dL_law_2752 (by decide) ?_
  refine lv_iadd hx hb dL_law_2753 ?_
  obtain ⟨v1, ev1, hq⟩ := b_s hq
  refine fs_li hx hb hI ev1 dL_law_2754 ?_
  refine lv_aload_n hx hb dL_law_2755 rfl (lv_at hl 3 rfl) ?_
  obtain ⟨v2, ev2, hq⟩ := b_s hq
  refine gl_i (g_runSW (As := [.ref x1, .int v1, .ref x3]) (rest := []) hC (c_L_removeCoast l hl0 V g D cT f n x1 v1 x3 v2 ev2) k_L_removeCoast m_1089 rfl rfl ⟨Nat.le_of_ble_eq_true rfl, Nat.le_of_ble_eq_true rfl⟩ hI rfl hl.1 rfl (Nat.le_of_ble_eq_true rfl) dL_law_2756 ⟨(by have := hcap.1; show _ ≤ 601024; omega), (by have := hcap.2; show _ ≤ 7293034; omega)⟩) hI (fun H locs n3 hn3 hI => ?_)
  refine lv_istore (lv' := [(6, .int v2.1), (0, .ref x0), (1, .ref x1), (2, .ref x2), (3, .ref x3), (4, .ref x4), (5, .int x5)]) hx hb dL_law_2759 hl (by decide) rfl (fun ls hl => ?_)
  refine lv_aload_n hx hb dL_law_2761 rfl (lv_at hl 3 rfl) ?_
  refine lv_aload_n hx hb dL_law_2762 rfl (lv_at hl 1 rfl) ?_
  refine lv_iload hx hb dL_law_2763 (lv_at hl 6 rfl) ?_
  refine lv_iconst (v := (1 : Int32)) hx hb dL_law_2765 (by decide) ?_
  refine lv_iadd hx hb dL_law_2766 ?_
  obtain ⟨v4, ev4, hq⟩ := b_s hq
  refine fs_li hx hb hI ev4 dL_law_2767 ?_
  obtain ⟨v5, ev5, hq⟩ := b_s hq
  refine gw_i (g_runV (As := [.int v4]) (rest := []) (ci := 10) hC (c_X8_removeCoast l V g D cT v2.2 n3 x2 v4 v5 ev5) k_X8_removeCoast m_1936 rfl rfl ⟨Nat.le_of_ble_eq_true rfl, Nat.le_of_ble_eq_true rfl⟩ hI rfl rfl (h_me_eq ev5).1 rfl hl.1 rfl (Nat.le_of_ble_eq_true rfl) dL_law_2768 ⟨(by have := hcap.1; show _ ≤ 601024; omega), (by have := hcap.2; show _ ≤ 7293034; omega)⟩) hI (fun H locs hI => ?_)
  refine lv_istore (lv' := [(7, .int v5.1), (6, .int v2.1), (0, .ref x0), (1, .ref x1), (2, .ref x2), (3, .ref x3), (4, .ref x4), (5, .int x5)]) hx hb dL_law_2771 hl (by decide) rfl (fun ls hl => ?_)
  refine lv_aload_n hx hb dL_law_2773 rfl (lv_at hl 4 rfl) ?_
  obtain ⟨v6, ev6, hq⟩ := b_s hq
  refine gr_i (g_runV (As := []) (rest := []) (ci := 10) hC (c_X8_thrown l V g D cT v5.2 n3 x2 v6 ev6) k_X8_thrown m_1610 rfl rfl ⟨Nat.le_of_ble_eq_true rfl, Nat.le_of_ble_eq_true rfl⟩ hI rfl rfl (h_me_eq ev6).1 rfl hl.1 rfl (Nat.le_of_ble_eq_true rfl) dL_law_2774 ⟨(by have := hcap.1; show _ ≤ 601024; omega), (by have := hcap.2; show _ ≤ 7293034; omega)⟩) hI (fun H locs hI => ?_)
  refine lv_iload hx hb dL_law_2777 (lv_at hl 1 rfl) ?_
  refine lv_icmp_eq (tgt := 2784) hx hb dL_law_2779 (by decide) (fun c7 => ?_) (fun c7 => ?_)
  · replace hq := i_t c7 hq
    refine lv_iload hx hb dL_law_2784 (lv_at hl 1 rfl) ?_
    refine lv_if_ne (tgt := 2801) hx hb dL_law_2786 (by decide) (fun c8 => ?_) (fun c8 => ?_)
    · replace hq := i_f c8 hq
      refine lv_goto (tgt := 3637) hx hb dL_law_2801 (by decide) ?_
      obtain rfl := Option.some.inj hq
      refine W.widen (k := cells + 17) (n := slots + 3206) (by omega) (by omega) ?_
      exact kk _ _ _ _ (by omega) hI (lv_sub hl [2, 3, 4, 5, 6, 7] rfl)
    · replace hq := i_t c8 hq
      refine lv_aload_n hx hb dL_law_2789 rfl (lv_at hl 5 rfl) ?_
      refine lv_iconst (v := (0 : Int32)) hx hb dL_law_2790 (by decide) ?_
      obtain ⟨v9, ev9, hq⟩ := b_s hq
      refine fa_ll hx hb hI ev9 dL_law_2791 ?_
      refine lv_iload hx hb dL_law_2792 (lv_at hl 0 rfl) ?_
      refine lv_i2l (v := v5.1.toInt64) hx hb dL_law_2794 rfl ?_
      refine lv_lcmpN hx hb dL_law_2795 ?_
      refine lv_if_eq (tgt := 2801) hx hb dL_law_2796 (by decide) (fun c10 => ?_) (fun c10 => ?_)
      · replace hq := i_t c10 hq
        refine lv_goto (tgt := 3637) hx hb dL_law_2801 (by decide) ?_
        obtain rfl := Option.some.inj hq
        refine W.widen (k := cells + 17) (n := slots + 3206) (by omega) (by omega) ?_
        exact kk _ _ _ _ (by omega) hI (lv_sub hl [2, 3, 4, 5, 6, 7] rfl)
      · replace hq := i_f c10 hq
        refine lv_iconst (v := (0 : Int32)) hx hb dL_law_2799 (by decide) ?_
        cases hq
  · replace hq := i_f c7 hq
    refine lv_iconst (v := (0 : Int32)) hx hb dL_law_2782 (by decide) ?_
    cases hq

set_option maxHeartbeats 4000000 in
set_option maxRecDepth 100000 in
theorem cs_44 {p : Program} {l : Launch} {e : Env} {s : State} {m : MethodId} {args : Array Value} {below : List Frame} {meth : Method} {c : Code} {V : Nat → Nat} {g : GH} {D : va_G} {cT : Nat → ClassId} (hl0 : l.stackTraces = false) (hx : p.tables.exec = Jvm.exec) (hb : c.code = cL_law) (hC : CallFix p m c cL_law 9 s args g_B RL) {Q : State → Prop} {f : GH} {n : Nat} (x0 x1 x2 x3 x4 : Nat) (x5 : Int32) {f1 : GH} (hq : p_case_44 V g f n x0 x1 x2 x3 x4 x5 = some f1) {H : Heap} {locs : List Loc} {cells slots : Nat} {ls : Array Slot} (hcap : cells + 17 ≤ 601024 ∧ slots + 3206 ≤ 7293034) (hI : g_at (g_A V) V g D cT f n s H locs) (hl : lv_has ls 9 [(0, .ref x0), (1, .ref x1), (2, .ref x2), (3, .ref x3), (4, .ref x4), (5, .int x5)])
    (kk : ∀ (H : Heap) (locs : List Loc) (ls : Array Slot) (n1 : Nat), n ≤ n1 → g_at (g_A V) V g D cT f1 n1 s H locs → lv_has ls 9 [(0, .ref x0), (1, .ref x1), (2, .ref x2), (3, .ref x3), (4, .ref x4), (5, .int x5)] → W p l e room_1 s m args below meth c H locs (cells + 17) (slots + 3206) Q (F0 m 3637 ls [])) : W p l e room_1 s m args below meth c H locs cells slots Q (F0 m 2804 ls []) := by
  obtain ⟨_, _, hml, hown, hB⟩ := id hC
  unfold p_case_44 at hq
  refine lv_aload_n hx hb dL_law_2804 rfl (lv_at hl 1 rfl) ?_
  refine lv_aload_n hx hb dL_law_2805 rfl (lv_at hl 0 rfl) ?_
  refine lv_iload hx hb dL_law_2806 (lv_at hl 5 rfl) ?_
  refine lv_iconst (v := (1 : Int32)) hx hb dL_law_2808 (by decide) ?_
  refine lv_iadd hx hb dL_law_2809 ?_
  obtain ⟨v1, ev1, hq⟩ := b_s hq
  refine fs_li hx hb hI ev1 dL_law_2810 ?_
  refine lv_aload_n hx hb dL_law_2811 rfl (lv_at hl 0 rfl) ?_
  refine lv_iload hx hb dL_law_2812 (lv_at hl 5 rfl) ?_
  refine lv_iconst (v := (2 : Int32)) hx hb dL_law_2814 (by decide) ?_
  refine lv_iadd hx hb dL_law_2815 ?_
  obtain ⟨v2, ev2, hq⟩ := b_s hq
  refine fs_li hx hb hI ev2 dL_law_2816 ?_
  refine lv_aload_n hx hb dL_law_2817 rfl (lv_at hl 3 rfl) ?_
  obtain ⟨v3, ev3, hq⟩ := b_s hq
  refine gl_i (g_runSW (As := [.ref x1, .int v1, .int v2, .ref x3]) (rest := []) hC (c_L_fold l hl0 V g D cT f n x1 v1 v2 x3 v3 ev3) k_L_fold m_1098 rfl rfl ⟨Nat.le_of_ble_eq_true rfl, Nat.le_of_ble_eq_true rfl⟩ hI rfl hl.1 rfl (Nat.le_of_ble_eq_true rfl) dL_law_2818 ⟨(by have := hcap.1; show _ ≤ 601024; omega), (by have := hcap.2; show _ ≤ 7293034; omega)⟩) hI (fun H locs n4 hn4 hI => ?_)
  refine lv_istore (lv' := [(6, .int v3.1), (0, .ref x0), (1, .ref x1), (2, .ref x2), (3, .ref x3), (4, .ref x4), (5, .int x5)]) hx hb dL_law_2821 hl (by decide) rfl (fun ls hl => ?_)
  refine lv_aload_n hx hb dL_law_2823 rfl (lv_at hl 3 rfl) ?_
  refine lv_aload_n hx hb dL_law_2824 rfl (lv_at hl 1 rfl) ?_
  refine lv_iload hx hb dL_law_2825 (lv_at hl 6 rfl) ?_
  refine lv_iconst (v := (1 : Int32)) hx hb dL_law_2827 (by decide) ?_
  refine lv_iadd hx hb dL_law_2828 ?_
  obtain ⟨v5, ev5, hq⟩ := b_s hq
  refine fs_li hx hb hI ev5 dL_law_2829 ?_
  refine lv_aload_n hx hb dL_law_2830 rfl (lv_at hl 1 rfl) ?_
  refine lv_iload hx hb dL_law_2831 (lv_at hl 6 rfl) ?_
  refine lv_iconst (v := (2 : Int32)) hx hb dL_law_2833 (by decide) ?_
  refine lv_iadd hx hb dL_law_2834 ?_
  obtain ⟨v6, ev6, hq⟩ := b_s hq
  refine fs_li hx hb hI ev6 dL_law_2835 ?_
  obtain ⟨v7, ev7, hq⟩ := b_s hq
  refine gw_i (g_runV (As := [.int v5, .int v6]) (rest := []) (ci := 10) hC (c_X8_fold l V g D cT v3.2 n4 x2 v5 v6 v7 ev7) k_X8_fold m_1959 rfl rfl ⟨Nat.le_of_ble_eq_true rfl, Nat.le_of_ble_eq_true rfl⟩ hI rfl rfl (h_me_eq ev7).1 rfl hl.1 rfl (Nat.le_of_ble_eq_true rfl) dL_law_2836 ⟨(by have := hcap.1; show _ ≤ 601024; omega), (by have := hcap.2; show _ ≤ 7293034; omega)⟩) hI (fun H locs hI => ?_)
  refine lv_istore (lv' := [(7, .int v7.1), (6, .int v3.1), (0, .ref x0), (1, .ref x1), (2, .ref x2), (3, .ref x3), (4, .ref x4), (5, .int x5)]) hx hb dL_law_2839 hl (by decide) rfl (fun ls hl => ?_)
  refine lv_aload_n hx hb dL_law_2841 rfl (lv_at hl 4 rfl) ?_
  obtain ⟨v8, ev8, hq⟩ := b_s hq
  refine gr_i (g_runV (As := []) (rest := []) (ci := 10) hC (c_X8_thrown l V g D cT v7.2 n4 x2 v8 ev8) k_X8_thrown m_1610 rfl rfl ⟨Nat.le_of_ble_eq_true rfl, Nat.le_of_ble_eq_true rfl⟩ hI rfl rfl (h_me_eq ev8).1 rfl hl.1 rfl (Nat.le_of_ble_eq_true rfl) dL_law_2842 ⟨(by have := hcap.1; show _ ≤ 601024; omega), (by have := hcap.2; show _ ≤ 7293034; omega)⟩) hI (fun H locs hI => ?_)
  refine lv_iload hx hb dL_law_2845 (lv_at hl 1 rfl) ?_
  refine lv_icmp_eq (tgt := 2852) hx hb dL_law_2847 (by decide) (fun c9 => ?_) (fun c9 => ?_)
  · replace hq := i_t c9 hq
    refine lv_iload hx hb dL_law_2852 (lv_at hl 1 rfl) ?_
    refine lv_if_ne (tgt := 2869) hx hb dL_law_2854 (by decide) (fun c10 => ?_) (fun c10 => ?_)
    · replace hq := i_f c10 hq
      refine lv_goto (tgt := 3637) hx hb dL_law_2869 (by decide) ?_
      obtain rfl := Option.some.inj hq
      refine W.widen (k := cells + 17) (n := slots + 3206) (by omega) (by omega) ?_
      exact kk _ _ _ _ (by omega) hI (lv_sub hl [2, 3, 4, 5, 6, 7] rfl)
    · replace hq := i_t c10 hq
      refine lv_aload_n hx hb dL_law_2857 rfl (lv_at hl 5 rfl) ?_
      refine lv_iconst (v := (0 : Int32)) hx hb dL_law_2858 (by decide) ?_
      obtain ⟨v11, ev11, hq⟩ := b_s hq
      refine fa_ll hx hb hI ev11 dL_law_2859 ?_
      refine lv_iload hx hb dL_law_2860 (lv_at hl 0 rfl) ?_
      refine lv_i2l (v := v7.1.toInt64) hx hb dL_law_2862 rfl ?_
      refine lv_lcmpN hx hb dL_law_2863 ?_
      refine lv_if_eq (tgt := 2869) hx hb dL_law_2864 (by decide) (fun c12 => ?_) (fun c12 => ?_)
      · replace hq := i_t c12 hq
        refine lv_goto (tgt := 3637) hx hb dL_law_2869 (by decide) ?_
        obtain rfl := Option.some.inj hq
        refine W.widen (k := cells + 17) (n := slots + 3206) (by omega) (by omega) ?_
        exact kk _ _ _ _ (by omega) hI (lv_sub hl [2, 3, 4, 5, 6, 7] rfl)
      · replace hq := i_f c12 hq
        refine lv_iconst (v := (0 : Int32)) hx hb dL_law_2867 (by decide) ?_
        cases hq
  · replace hq := i_f c9 hq
    refine lv_iconst (v := (0 : Int32)) hx hb dL_law_2850 (by decide) ?_
    cases hq

set_option maxHeartbeats 4000000 in
set_option maxRecDepth 100000 in
theorem cs_45 {p : Program} {l : Launch} {e : Env} {s : State} {m : MethodId} {args : Array Value} {below : List Frame} {meth : Method} {c : Code} {V : Nat → Nat} {g : GH} {D : va_G} {cT : Nat → ClassId} (hl0 : l.stackTraces = false) (hx : p.tables.exec = Jvm.exec) (hb : c.code = cL_law) (hC : CallFix p m c cL_law 9 s args g_B RL) {Q : State → Prop} {f : GH} {n : Nat} (x0 x1 x2 x3 x4 : Nat) (x5 : Int32) {f1 : GH} (hq : p_case_45 V g f n x0 x1 x2 x3 x4 x5 = some f1) {H : Heap} {locs : List Loc} {cells slots : Nat} {ls : Array Slot} (hcap : cells + 17 ≤ 601024 ∧ slots + 3206 ≤ 7293034) (hI : g_at (g_A V) V g D cT f n s H locs) (hl : lv_has ls 9 [(0, .ref x0), (1, .ref x1), (2, .ref x2), (3, .ref x3), (4, .ref x4), (5, .int x5)])
    (kk : ∀ (H : Heap) (locs : List Loc) (ls : Array Slot) (n1 : Nat), n ≤ n1 → g_at (g_A V) V g D cT f1 n1 s H locs → lv_has ls 9 [(0, .ref x0), (1, .ref x1), (2, .ref x2), (3, .ref x3), (4, .ref x4), (5, .int x5)] → W p l e room_1 s m args below meth c H locs (cells + 17) (slots + 3206) Q (F0 m 3637 ls [])) : W p l e room_1 s m args below meth c H locs cells slots Q (F0 m 2872 ls []) := by
  obtain ⟨_, _, hml, hown, hB⟩ := id hC
  unfold p_case_45 at hq
  refine lv_aload_n hx hb dL_law_2872 rfl (lv_at hl 1 rfl) ?_
  refine lv_aload_n hx hb dL_law_2873 rfl (lv_at hl 0 rfl) ?_
  refine lv_iload hx hb dL_law_2874 (lv_at hl 5 rfl) ?_
  refine lv_iconst (v := (1 : Int32)) hx hb dL_law_2876 (by decide) ?_
  refine lv_iadd hx hb dL_law_2877 ?_
  obtain ⟨v1, ev1, hq⟩ := b_s hq
  refine fs_li hx hb hI ev1 dL_law_2878 ?_
  refine lv_aload_n hx hb dL_law_2879 rfl (lv_at hl 3 rfl) ?_
  obtain ⟨v2, ev2, hq⟩ := b_s hq
  refine gl_i (g_runSW (As := [.ref x1, .int v1, .ref x3]) (rest := []) hC (c_L_unfold l hl0 V g D cT f n x1 v1 x3 v2 ev2) k_L_unfold m_1107 rfl rfl ⟨Nat.le_of_ble_eq_true rfl, Nat.le_of_ble_eq_true rfl⟩ hI rfl hl.1 rfl (Nat.le_of_ble_eq_true rfl) dL_law_2880 ⟨(by have := hcap.1; show _ ≤ 601024; omega), (by have := hcap.2; show _ ≤ 7293034; omega)⟩) hI (fun H locs n3 hn3 hI => ?_)
  refine lv_istore (lv' := [(6, .int v2.1), (0, .ref x0), (1, .ref x1), (2, .ref x2), (3, .ref x3), (4, .ref x4), (5, .int x5)]) hx hb dL_law_2883 hl (by decide) rfl (fun ls hl => ?_)
  refine lv_aload_n hx hb dL_law_2885 rfl (lv_at hl 3 rfl) ?_
  refine lv_aload_n hx hb dL_law_2886 rfl (lv_at hl 1 rfl) ?_
  refine lv_iload hx hb dL_law_2887 (lv_at hl 6 rfl) ?_
  refine lv_iconst (v := (1 : Int32)) hx hb dL_law_2889 (by decide) ?_
  refine lv_iadd hx hb dL_law_2890 ?_
  obtain ⟨v4, ev4, hq⟩ := b_s hq
  refine fs_li hx hb hI ev4 dL_law_2891 ?_
  obtain ⟨v5, ev5, hq⟩ := b_s hq
  refine gw_i (g_runV (As := [.int v4]) (rest := []) (ci := 10) hC (c_X8_unfold l V g D cT v2.2 n3 x2 v4 v5 ev5) k_X8_unfold m_1967 rfl rfl ⟨Nat.le_of_ble_eq_true rfl, Nat.le_of_ble_eq_true rfl⟩ hI rfl rfl (h_me_eq ev5).1 rfl hl.1 rfl (Nat.le_of_ble_eq_true rfl) dL_law_2892 ⟨(by have := hcap.1; show _ ≤ 601024; omega), (by have := hcap.2; show _ ≤ 7293034; omega)⟩) hI (fun H locs hI => ?_)
  refine lv_istore (lv' := [(7, .int v5.1), (6, .int v2.1), (0, .ref x0), (1, .ref x1), (2, .ref x2), (3, .ref x3), (4, .ref x4), (5, .int x5)]) hx hb dL_law_2895 hl (by decide) rfl (fun ls hl => ?_)
  refine lv_aload_n hx hb dL_law_2897 rfl (lv_at hl 4 rfl) ?_
  obtain ⟨v6, ev6, hq⟩ := b_s hq
  refine gr_i (g_runV (As := []) (rest := []) (ci := 10) hC (c_X8_thrown l V g D cT v5.2 n3 x2 v6 ev6) k_X8_thrown m_1610 rfl rfl ⟨Nat.le_of_ble_eq_true rfl, Nat.le_of_ble_eq_true rfl⟩ hI rfl rfl (h_me_eq ev6).1 rfl hl.1 rfl (Nat.le_of_ble_eq_true rfl) dL_law_2898 ⟨(by have := hcap.1; show _ ≤ 601024; omega), (by have := hcap.2; show _ ≤ 7293034; omega)⟩) hI (fun H locs hI => ?_)
  refine lv_iload hx hb dL_law_2901 (lv_at hl 1 rfl) ?_
  refine lv_icmp_eq (tgt := 2908) hx hb dL_law_2903 (by decide) (fun c7 => ?_) (fun c7 => ?_)
  · replace hq := i_t c7 hq
    refine lv_iload hx hb dL_law_2908 (lv_at hl 1 rfl) ?_
    refine lv_if_ne (tgt := 2925) hx hb dL_law_2910 (by decide) (fun c8 => ?_) (fun c8 => ?_)
    · replace hq := i_f c8 hq
      refine lv_goto (tgt := 3637) hx hb dL_law_2925 (by decide) ?_
      obtain rfl := Option.some.inj hq
      refine W.widen (k := cells + 17) (n := slots + 3206) (by omega) (by omega) ?_
      exact kk _ _ _ _ (by omega) hI (lv_sub hl [2, 3, 4, 5, 6, 7] rfl)
    · replace hq := i_t c8 hq
      refine lv_aload_n hx hb dL_law_2913 rfl (lv_at hl 5 rfl) ?_
      refine lv_iconst (v := (0 : Int32)) hx hb dL_law_2914 (by decide) ?_
      obtain ⟨v9, ev9, hq⟩ := b_s hq
      refine fa_ll hx hb hI ev9 dL_law_2915 ?_
      refine lv_iload hx hb dL_law_2916 (lv_at hl 0 rfl) ?_
      refine lv_i2l (v := v5.1.toInt64) hx hb dL_law_2918 rfl ?_
      refine lv_lcmpN hx hb dL_law_2919 ?_
      refine lv_if_eq (tgt := 2925) hx hb dL_law_2920 (by decide) (fun c10 => ?_) (fun c10 => ?_)
      · replace hq := i_t c10 hq
        refine lv_goto (tgt := 3637) hx hb dL_law_2925 (by decide) ?_
        obtain rfl := Option.some.inj hq
        refine W.widen (k := cells + 17) (n := slots + 3206) (by omega) (by omega) ?_
        exact kk _ _ _ _ (by omega) hI (lv_sub hl [2, 3, 4, 5, 6, 7] rfl)
      · replace hq := i_f c10 hq
        refine lv_iconst (v := (0 : Int32)) hx hb dL_law_2923 (by decide) ?_
        cases hq
  · replace hq := i_f c7 hq
    refine lv_iconst (v := (0 : Int32)) hx hb dL_law_2906 (by decide) ?_
    cases hq

set_option maxHeartbeats 4000000 in
set_option maxRecDepth 100000 in
theorem cs_46 {p : Program} {l : Launch} {e : Env} {s : State} {m : MethodId} {args : Array Value} {below : List Frame} {meth : Method} {c : Code} {V : Nat → Nat} {g : GH} {D : va_G} {cT : Nat → ClassId} (hl0 : l.stackTraces = false) (hx : p.tables.exec = Jvm.exec) (hb : c.code = cL_law) (hC : CallFix p m c cL_law 9 s args g_B RL) {Q : State → Prop} {f : GH} {n : Nat} (x0 x1 x2 x3 x4 : Nat) (x5 : Int32) {f1 : GH} (hq : p_case_46 V g f n x0 x1 x2 x3 x4 x5 = some f1) {H : Heap} {locs : List Loc} {cells slots : Nat} {ls : Array Slot} (hcap : cells + 17 ≤ 601024 ∧ slots + 3206 ≤ 7293034) (hI : g_at (g_A V) V g D cT f n s H locs) (hl : lv_has ls 9 [(0, .ref x0), (1, .ref x1), (2, .ref x2), (3, .ref x3), (4, .ref x4), (5, .int x5)])
    (kk : ∀ (H : Heap) (locs : List Loc) (ls : Array Slot) (n1 : Nat), n ≤ n1 → g_at (g_A V) V g D cT f1 n1 s H locs → lv_has ls 9 [(0, .ref x0), (1, .ref x1), (2, .ref x2), (3, .ref x3), (4, .ref x4), (5, .int x5)] → W p l e room_1 s m args below meth c H locs (cells + 17) (slots + 3206) Q (F0 m 3637 ls [])) : W p l e room_1 s m args below meth c H locs cells slots Q (F0 m 2928 ls []) := by
  obtain ⟨_, _, hml, hown, hB⟩ := id hC
  unfold p_case_46 at hq
  refine lv_aload_n hx hb dL_law_2928 rfl (lv_at hl 1 rfl) ?_
  refine lv_aload_n hx hb dL_law_2929 rfl (lv_at hl 0 rfl) ?_
  refine lv_iload hx hb dL_law_2930 (lv_at hl 5 rfl) ?_
  refine lv_iconst (v := (1 : Int32)) hx hb dL_law_2932 (by decide) ?_
  refine lv_iadd hx hb dL_law_2933 ?_
  obtain ⟨v1, ev1, hq⟩ := b_s hq
  refine fs_li hx hb hI ev1 dL_law_2934 ?_
  refine lv_aload_n hx hb dL_law_2935 rfl (lv_at hl 0 rfl) ?_
  refine lv_iload hx hb dL_law_2936 (lv_at hl 5 rfl) ?_
  refine lv_iconst (v := (2 : Int32)) hx hb dL_law_2938 (by decide) ?_
  refine lv_iadd hx hb dL_law_2939 ?_
  obtain ⟨v2, ev2, hq⟩ := b_s hq
  refine fs_li hx hb hI ev2 dL_law_2940 ?_
  refine lv_aload_n hx hb dL_law_2941 rfl (lv_at hl 0 rfl) ?_
  refine lv_iload hx hb dL_law_2942 (lv_at hl 5 rfl) ?_
  refine lv_iconst (v := (3 : Int32)) hx hb dL_law_2944 (by decide) ?_
  refine lv_iadd hx hb dL_law_2945 ?_
  obtain ⟨v3, ev3, hq⟩ := b_s hq
  refine fs_li hx hb hI ev3 dL_law_2946 ?_
  refine lv_aload_n hx hb dL_law_2947 rfl (lv_at hl 0 rfl) ?_
  refine lv_iload hx hb dL_law_2948 (lv_at hl 5 rfl) ?_
  refine lv_iconst (v := (4 : Int32)) hx hb dL_law_2950 (by decide) ?_
  refine lv_iadd hx hb dL_law_2951 ?_
  obtain ⟨v4, ev4, hq⟩ := b_s hq
  refine fs_li hx hb hI ev4 dL_law_2952 ?_
  refine lv_aload_n hx hb dL_law_2953 rfl (lv_at hl 3 rfl) ?_
  obtain ⟨v5, ev5, hq⟩ := b_s hq
  refine gl_i (g_runSW (As := [.ref x1, .int v1, .int v2, .int v3, .int v4, .ref x3]) (rest := []) hC (c_L_movePoint l hl0 V g D cT f n x1 v1 v2 v3 v4 x3 v5 ev5) k_L_movePoint m_1116 rfl rfl ⟨Nat.le_of_ble_eq_true rfl, Nat.le_of_ble_eq_true rfl⟩ hI rfl hl.1 rfl (Nat.le_of_ble_eq_true rfl) dL_law_2954 ⟨(by have := hcap.1; show _ ≤ 601024; omega), (by have := hcap.2; show _ ≤ 7293034; omega)⟩) hI (fun H locs n6 hn6 hI => ?_)
  refine lv_istore (lv' := [(6, .int v5.1), (0, .ref x0), (1, .ref x1), (2, .ref x2), (3, .ref x3), (4, .ref x4), (5, .int x5)]) hx hb dL_law_2957 hl (by decide) rfl (fun ls hl => ?_)
  refine lv_aload_n hx hb dL_law_2959 rfl (lv_at hl 3 rfl) ?_
  refine lv_aload_n hx hb dL_law_2960 rfl (lv_at hl 1 rfl) ?_
  refine lv_iload hx hb dL_law_2961 (lv_at hl 6 rfl) ?_
  refine lv_iconst (v := (1 : Int32)) hx hb dL_law_2963 (by decide) ?_
  refine lv_iadd hx hb dL_law_2964 ?_
  obtain ⟨v7, ev7, hq⟩ := b_s hq
  refine fs_li hx hb hI ev7 dL_law_2965 ?_
  refine lv_aload_n hx hb dL_law_2966 rfl (lv_at hl 1 rfl) ?_
  refine lv_iload hx hb dL_law_2967 (lv_at hl 6 rfl) ?_
  refine lv_iconst (v := (2 : Int32)) hx hb dL_law_2969 (by decide) ?_
  refine lv_iadd hx hb dL_law_2970 ?_
  obtain ⟨v8, ev8, hq⟩ := b_s hq
  refine fs_li hx hb hI ev8 dL_law_2971 ?_
  refine lv_aload_n hx hb dL_law_2972 rfl (lv_at hl 1 rfl) ?_
  refine lv_iload hx hb dL_law_2973 (lv_at hl 6 rfl) ?_
  refine lv_iconst (v := (3 : Int32)) hx hb dL_law_2975 (by decide) ?_
  refine lv_iadd hx hb dL_law_2976 ?_
  obtain ⟨v9, ev9, hq⟩ := b_s hq
  refine fs_li hx hb hI ev9 dL_law_2977 ?_
  refine lv_aload_n hx hb dL_law_2978 rfl (lv_at hl 1 rfl) ?_
  refine lv_iload hx hb dL_law_2979 (lv_at hl 6 rfl) ?_
  refine lv_iconst (v := (4 : Int32)) hx hb dL_law_2981 (by decide) ?_
  refine lv_iadd hx hb dL_law_2982 ?_
  obtain ⟨v10, ev10, hq⟩ := b_s hq
  refine fs_li hx hb hI ev10 dL_law_2983 ?_
  obtain ⟨v11, ev11, hq⟩ := b_s hq
  refine gw_i (g_runV (As := [.int v7, .int v8, .int v9, .int v10]) (rest := []) (ci := 10) hC (c_X8_movePoint l V g D cT v5.2 n6 x2 v7 v8 v9 v10 v11 ev11) k_X8_movePoint m_1975 rfl rfl ⟨Nat.le_of_ble_eq_true rfl, Nat.le_of_ble_eq_true rfl⟩ hI rfl rfl (h_me_eq ev11).1 rfl hl.1 rfl (Nat.le_of_ble_eq_true rfl) dL_law_2984 ⟨(by have := hcap.1; show _ ≤ 601024; omega), (by have := hcap.2; show _ ≤ 7293034; omega)⟩) hI (fun H locs hI => ?_)
  refine lv_istore (lv' := [(7, .int v11.1), (6, .int v5.1), (0, .ref x0), (1, .ref x1), (2, .ref x2), (3, .ref x3), (4, .ref x4), (5, .int x5)]) hx hb dL_law_2987 hl (by decide) rfl (fun ls hl => ?_)
  refine lv_aload_n hx hb dL_law_2989 rfl (lv_at hl 4 rfl) ?_
  obtain ⟨v12, ev12, hq⟩ := b_s hq
  refine gr_i (g_runV (As := []) (rest := []) (ci := 10) hC (c_X8_thrown l V g D cT v11.2 n6 x2 v12 ev12) k_X8_thrown m_1610 rfl rfl ⟨Nat.le_of_ble_eq_true rfl, Nat.le_of_ble_eq_true rfl⟩ hI rfl rfl (h_me_eq ev12).1 rfl hl.1 rfl (Nat.le_of_ble_eq_true rfl) dL_law_2990 ⟨(by have := hcap.1; show _ ≤ 601024; omega), (by have := hcap.2; show _ ≤ 7293034; omega)⟩) hI (fun H locs hI => ?_)
  refine lv_iload hx hb dL_law_2993 (lv_at hl 1 rfl) ?_
  refine lv_icmp_eq (tgt := 3000) hx hb dL_law_2995 (by decide) (fun c13 => ?_) (fun c13 => ?_)
  · replace hq := i_t c13 hq
    refine lv_iload hx hb dL_law_3000 (lv_at hl 1 rfl) ?_
    refine lv_if_ne (tgt := 3017) hx hb dL_law_3002 (by decide) (fun c14 => ?_) (fun c14 => ?_)
    · replace hq := i_f c14 hq
      refine lv_goto (tgt := 3637) hx hb dL_law_3017 (by decide) ?_
      obtain rfl := Option.some.inj hq
      refine W.widen (k := cells + 17) (n := slots + 3206) (by omega) (by omega) ?_
      exact kk _ _ _ _ (by omega) hI (lv_sub hl [2, 3, 4, 5, 6, 7] rfl)
    · replace hq := i_t c14 hq
      refine lv_aload_n hx hb dL_law_3005 rfl (lv_at hl 5 rfl) ?_
      refine lv_iconst (v := (0 : Int32)) hx hb dL_law_3006 (by decide) ?_
      obtain ⟨v15, ev15, hq⟩ := b_s hq
      refine fa_ll hx hb hI ev15 dL_law_3007 ?_
      refine lv_iload hx hb dL_law_3008 (lv_at hl 0 rfl) ?_
      refine lv_i2l (v := v11.1.toInt64) hx hb dL_law_3010 rfl ?_
      refine lv_lcmpN hx hb dL_law_3011 ?_
      refine lv_if_eq (tgt := 3017) hx hb dL_law_3012 (by decide) (fun c16 => ?_) (fun c16 => ?_)
      · replace hq := i_t c16 hq
        refine lv_goto (tgt := 3637) hx hb dL_law_3017 (by decide) ?_
        obtain rfl := Option.some.inj hq
        refine W.widen (k := cells + 17) (n := slots + 3206) (by omega) (by omega) ?_
        exact kk _ _ _ _ (by omega) hI (lv_sub hl [2, 3, 4, 5, 6, 7] rfl)
      · replace hq := i_f c16 hq
        refine lv_iconst (v := (0 : Int32)) hx hb dL_law_3015 (by decide) ?_
        cases hq
  · replace hq := i_f c13 hq
    refine lv_iconst (v := (0 : Int32)) hx hb dL_law_2998 (by decide) ?_
    cases hq

set_option maxHeartbeats 4000000 in
set_option maxRecDepth 100000 in
theorem cs_47 {p : Program} {l : Launch} {e : Env} {s : State} {m : MethodId} {args : Array Value} {below : List Frame} {meth : Method} {c : Code} {V : Nat → Nat} {g : GH} {D : va_G} {cT : Nat → ClassId} (hl0 : l.stackTraces = false) (hx : p.tables.exec = Jvm.exec) (hb : c.code = cL_law) (hC : CallFix p m c cL_law 9 s args g_B RL) {Q : State → Prop} {f : GH} {n : Nat} (x0 x1 x2 x3 x4 : Nat) (x5 : Int32) {f1 : GH} (hq : p_case_47 V g f n x0 x1 x2 x3 x4 x5 = some f1) {H : Heap} {locs : List Loc} {cells slots : Nat} {ls : Array Slot} (hcap : cells + 17 ≤ 601024 ∧ slots + 3206 ≤ 7293034) (hI : g_at (g_A V) V g D cT f n s H locs) (hl : lv_has ls 9 [(0, .ref x0), (1, .ref x1), (2, .ref x2), (3, .ref x3), (4, .ref x4), (5, .int x5)])
    (kk : ∀ (H : Heap) (locs : List Loc) (ls : Array Slot) (n1 : Nat), n ≤ n1 → g_at (g_A V) V g D cT f1 n1 s H locs → lv_has ls 9 [(0, .ref x0), (1, .ref x1), (2, .ref x2), (3, .ref x3), (4, .ref x4), (5, .int x5)] → W p l e room_1 s m args below meth c H locs (cells + 17) (slots + 3206) Q (F0 m 3637 ls [])) : W p l e room_1 s m args below meth c H locs cells slots Q (F0 m 3020 ls []) := by
  obtain ⟨_, _, hml, hown, hB⟩ := id hC
  unfold p_case_47 at hq
  refine lv_aload_n hx hb dL_law_3020 rfl (lv_at hl 1 rfl) ?_
  refine lv_aload_n hx hb dL_law_3021 rfl (lv_at hl 0 rfl) ?_
  refine lv_iload hx hb dL_law_3022 (lv_at hl 5 rfl) ?_
  refine lv_iconst (v := (1 : Int32)) hx hb dL_law_3024 (by decide) ?_
  refine lv_iadd hx hb dL_law_3025 ?_
  obtain ⟨v1, ev1, hq⟩ := b_s hq
  refine fs_li hx hb hI ev1 dL_law_3026 ?_
  refine lv_aload_n hx hb dL_law_3027 rfl (lv_at hl 0 rfl) ?_
  refine lv_iload hx hb dL_law_3028 (lv_at hl 5 rfl) ?_
  refine lv_iconst (v := (2 : Int32)) hx hb dL_law_3030 (by decide) ?_
  refine lv_iadd hx hb dL_law_3031 ?_
  obtain ⟨v2, ev2, hq⟩ := b_s hq
  refine fs_li hx hb hI ev2 dL_law_3032 ?_
  refine lv_aload_n hx hb dL_law_3033 rfl (lv_at hl 0 rfl) ?_
  refine lv_iload hx hb dL_law_3034 (lv_at hl 5 rfl) ?_
  refine lv_iconst (v := (3 : Int32)) hx hb dL_law_3036 (by decide) ?_
  refine lv_iadd hx hb dL_law_3037 ?_
  obtain ⟨v3, ev3, hq⟩ := b_s hq
  refine fs_li hx hb hI ev3 dL_law_3038 ?_
  refine lv_aload_n hx hb dL_law_3039 rfl (lv_at hl 0 rfl) ?_
  refine lv_iload hx hb dL_law_3040 (lv_at hl 5 rfl) ?_
  refine lv_iconst (v := (4 : Int32)) hx hb dL_law_3042 (by decide) ?_
  refine lv_iadd hx hb dL_law_3043 ?_
  obtain ⟨v4, ev4, hq⟩ := b_s hq
  refine fs_li hx hb hI ev4 dL_law_3044 ?_
  refine lv_aload_n hx hb dL_law_3045 rfl (lv_at hl 3 rfl) ?_
  obtain ⟨v5, ev5, hq⟩ := b_s hq
  refine gl_i (g_runSW (As := [.ref x1, .int v1, .int v2, .int v3, .int v4, .ref x3]) (rest := []) hC (c_L_insertPoint l hl0 V g D cT f n x1 v1 v2 v3 v4 x3 v5 ev5) k_L_insertPoint m_1125 rfl rfl ⟨Nat.le_of_ble_eq_true rfl, Nat.le_of_ble_eq_true rfl⟩ hI rfl hl.1 rfl (Nat.le_of_ble_eq_true rfl) dL_law_3046 ⟨(by have := hcap.1; show _ ≤ 601024; omega), (by have := hcap.2; show _ ≤ 7293034; omega)⟩) hI (fun H locs n6 hn6 hI => ?_)
  refine lv_istore (lv' := [(6, .int v5.1), (0, .ref x0), (1, .ref x1), (2, .ref x2), (3, .ref x3), (4, .ref x4), (5, .int x5)]) hx hb dL_law_3049 hl (by decide) rfl (fun ls hl => ?_)
  refine lv_aload_n hx hb dL_law_3051 rfl (lv_at hl 3 rfl) ?_
  refine lv_aload_n hx hb dL_law_3052 rfl (lv_at hl 1 rfl) ?_
  refine lv_iload hx hb dL_law_3053 (lv_at hl 6 rfl) ?_
  refine lv_iconst (v := (1 : Int32)) hx hb dL_law_3055 (by decide) ?_
  refine lv_iadd hx hb dL_law_3056 ?_
  obtain ⟨v7, ev7, hq⟩ := b_s hq
  refine fs_li hx hb hI ev7 dL_law_3057 ?_
  refine lv_aload_n hx hb dL_law_3058 rfl (lv_at hl 1 rfl) ?_
  refine lv_iload hx hb dL_law_3059 (lv_at hl 6 rfl) ?_
  refine lv_iconst (v := (2 : Int32)) hx hb dL_law_3061 (by decide) ?_
  refine lv_iadd hx hb dL_law_3062 ?_
  obtain ⟨v8, ev8, hq⟩ := b_s hq
  refine fs_li hx hb hI ev8 dL_law_3063 ?_
  refine lv_aload_n hx hb dL_law_3064 rfl (lv_at hl 1 rfl) ?_
  refine lv_iload hx hb dL_law_3065 (lv_at hl 6 rfl) ?_
  refine lv_iconst (v := (3 : Int32)) hx hb dL_law_3067 (by decide) ?_
  refine lv_iadd hx hb dL_law_3068 ?_
  obtain ⟨v9, ev9, hq⟩ := b_s hq
  refine fs_li hx hb hI ev9 dL_law_3069 ?_
  refine lv_aload_n hx hb dL_law_3070 rfl (lv_at hl 1 rfl) ?_
  refine lv_iload hx hb dL_law_3071 (lv_at hl 6 rfl) ?_
  refine lv_iconst (v := (4 : Int32)) hx hb dL_law_3073 (by decide) ?_
  refine lv_iadd hx hb dL_law_3074 ?_
  obtain ⟨v10, ev10, hq⟩ := b_s hq
  refine fs_li hx hb hI ev10 dL_law_3075 ?_
  obtain ⟨v11, ev11, hq⟩ := b_s hq
  refine gw_i (g_runV (As := [.int v7, .int v8, .int v9, .int v10]) (rest := []) (ci := 10) hC (c_X8_insertPoint l V g D cT v5.2 n6 x2 v7 v8 v9 v10 v11 ev11) k_X8_insertPoint m_1983 rfl rfl ⟨Nat.le_of_ble_eq_true rfl, Nat.le_of_ble_eq_true rfl⟩ hI rfl rfl (h_me_eq ev11).1 rfl hl.1 rfl (Nat.le_of_ble_eq_true rfl) dL_law_3076 ⟨(by have := hcap.1; show _ ≤ 601024; omega), (by have := hcap.2; show _ ≤ 7293034; omega)⟩) hI (fun H locs hI => ?_)
  refine lv_istore (lv' := [(7, .int v11.1), (6, .int v5.1), (0, .ref x0), (1, .ref x1), (2, .ref x2), (3, .ref x3), (4, .ref x4), (5, .int x5)]) hx hb dL_law_3079 hl (by decide) rfl (fun ls hl => ?_)
  refine lv_aload_n hx hb dL_law_3081 rfl (lv_at hl 4 rfl) ?_
  obtain ⟨v12, ev12, hq⟩ := b_s hq
  refine gr_i (g_runV (As := []) (rest := []) (ci := 10) hC (c_X8_thrown l V g D cT v11.2 n6 x2 v12 ev12) k_X8_thrown m_1610 rfl rfl ⟨Nat.le_of_ble_eq_true rfl, Nat.le_of_ble_eq_true rfl⟩ hI rfl rfl (h_me_eq ev12).1 rfl hl.1 rfl (Nat.le_of_ble_eq_true rfl) dL_law_3082 ⟨(by have := hcap.1; show _ ≤ 601024; omega), (by have := hcap.2; show _ ≤ 7293034; omega)⟩) hI (fun H locs hI => ?_)
  refine lv_iload hx hb dL_law_3085 (lv_at hl 1 rfl) ?_
  refine lv_icmp_eq (tgt := 3092) hx hb dL_law_3087 (by decide) (fun c13 => ?_) (fun c13 => ?_)
  · replace hq := i_t c13 hq
    refine lv_iload hx hb dL_law_3092 (lv_at hl 1 rfl) ?_
    refine lv_if_ne (tgt := 3109) hx hb dL_law_3094 (by decide) (fun c14 => ?_) (fun c14 => ?_)
    · replace hq := i_f c14 hq
      refine lv_goto (tgt := 3637) hx hb dL_law_3109 (by decide) ?_
      obtain rfl := Option.some.inj hq
      refine W.widen (k := cells + 17) (n := slots + 3206) (by omega) (by omega) ?_
      exact kk _ _ _ _ (by omega) hI (lv_sub hl [2, 3, 4, 5, 6, 7] rfl)
    · replace hq := i_t c14 hq
      refine lv_aload_n hx hb dL_law_3097 rfl (lv_at hl 5 rfl) ?_
      refine lv_iconst (v := (0 : Int32)) hx hb dL_law_3098 (by decide) ?_
      obtain ⟨v15, ev15, hq⟩ := b_s hq
      refine fa_ll hx hb hI ev15 dL_law_3099 ?_
      refine lv_iload hx hb dL_law_3100 (lv_at hl 0 rfl) ?_
      refine lv_i2l (v := v11.1.toInt64) hx hb dL_law_3102 rfl ?_
      refine lv_lcmpN hx hb dL_law_3103 ?_
      refine lv_if_eq (tgt := 3109) hx hb dL_law_3104 (by decide) (fun c16 => ?_) (fun c16 => ?_)
      · replace hq := i_t c16 hq
        refine lv_goto (tgt := 3637) hx hb dL_law_3109 (by decide) ?_
        obtain rfl := Option.some.inj hq
        refine W.widen (k := cells + 17) (n := slots + 3206) (by omega) (by omega) ?_
        exact kk _ _ _ _ (by omega) hI (lv_sub hl [2, 3, 4, 5, 6, 7] rfl)
      · replace hq := i_f c16 hq
        refine lv_iconst (v := (0 : Int32)) hx hb dL_law_3107 (by decide) ?_
        cases hq
  · replace hq := i_f c13 hq
    refine lv_iconst (v := (0 : Int32)) hx hb dL_law_3090 (by decide) ?_
    cases hq

set_option maxHeartbeats 4000000 in
set_option maxRecDepth 100000 in
theorem cs_48 {p : Program} {l : Launch} {e : Env} {s : State} {m : MethodId} {args : Array Value} {below : List Frame} {meth : Method} {c : Code} {V : Nat → Nat} {g : GH} {D : va_G} {cT : Nat → ClassId} (hl0 : l.stackTraces = false) (hx : p.tables.exec = Jvm.exec) (hb : c.code = cL_law) (hC : CallFix p m c cL_law 9 s args g_B RL) {Q : State → Prop} {f : GH} {n : Nat} (x0 x1 x2 x3 x4 : Nat) (x5 : Int32) {f1 : GH} (hq : p_case_48 V g f n x0 x1 x2 x3 x4 x5 = some f1) {H : Heap} {locs : List Loc} {cells slots : Nat} {ls : Array Slot} (hcap : cells + 17 ≤ 601024 ∧ slots + 3206 ≤ 7293034) (hI : g_at (g_A V) V g D cT f n s H locs) (hl : lv_has ls 9 [(0, .ref x0), (1, .ref x1), (2, .ref x2), (3, .ref x3), (4, .ref x4), (5, .int x5)])
    (kk : ∀ (H : Heap) (locs : List Loc) (ls : Array Slot) (n1 : Nat), n ≤ n1 → g_at (g_A V) V g D cT f1 n1 s H locs → lv_has ls 9 [(0, .ref x0), (1, .ref x1), (2, .ref x2), (3, .ref x3), (4, .ref x4), (5, .int x5)] → W p l e room_1 s m args below meth c H locs (cells + 17) (slots + 3206) Q (F0 m 3637 ls [])) : W p l e room_1 s m args below meth c H locs cells slots Q (F0 m 3112 ls []) := by
  obtain ⟨_, _, hml, hown, hB⟩ := id hC
  unfold p_case_48 at hq
  refine lv_aload_n hx hb dL_law_3112 rfl (lv_at hl 1 rfl) ?_
  refine lv_aload_n hx hb dL_law_3113 rfl (lv_at hl 0 rfl) ?_
  refine lv_iload hx hb dL_law_3114 (lv_at hl 5 rfl) ?_
  refine lv_iconst (v := (1 : Int32)) hx hb dL_law_3116 (by decide) ?_
  refine lv_iadd hx hb dL_law_3117 ?_
  obtain ⟨v1, ev1, hq⟩ := b_s hq
  refine fs_li hx hb hI ev1 dL_law_3118 ?_
  refine lv_aload_n hx hb dL_law_3119 rfl (lv_at hl 0 rfl) ?_
  refine lv_iload hx hb dL_law_3120 (lv_at hl 5 rfl) ?_
  refine lv_iconst (v := (2 : Int32)) hx hb dL_law_3122 (by decide) ?_
  refine lv_iadd hx hb dL_law_3123 ?_
  obtain ⟨v2, ev2, hq⟩ := b_s hq
  refine fs_li hx hb hI ev2 dL_law_3124 ?_
  refine lv_aload_n hx hb dL_law_3125 rfl (lv_at hl 3 rfl) ?_
  obtain ⟨v3, ev3, hq⟩ := b_s hq
  refine gl_i (g_runSW (As := [.ref x1, .int v1, .int v2, .ref x3]) (rest := []) hC (c_L_removePoint l hl0 V g D cT f n x1 v1 v2 x3 v3 ev3) k_L_removePoint m_1133 rfl rfl ⟨Nat.le_of_ble_eq_true rfl, Nat.le_of_ble_eq_true rfl⟩ hI rfl hl.1 rfl (Nat.le_of_ble_eq_true rfl) dL_law_3126 ⟨(by have := hcap.1; show _ ≤ 601024; omega), (by have := hcap.2; show _ ≤ 7293034; omega)⟩) hI (fun H locs n4 hn4 hI => ?_)
  refine lv_istore (lv' := [(6, .int v3.1), (0, .ref x0), (1, .ref x1), (2, .ref x2), (3, .ref x3), (4, .ref x4), (5, .int x5)]) hx hb dL_law_3129 hl (by decide) rfl (fun ls hl => ?_)
  refine lv_aload_n hx hb dL_law_3131 rfl (lv_at hl 3 rfl) ?_
  refine lv_aload_n hx hb dL_law_3132 rfl (lv_at hl 1 rfl) ?_
  refine lv_iload hx hb dL_law_3133 (lv_at hl 6 rfl) ?_
  refine lv_iconst (v := (1 : Int32)) hx hb dL_law_3135 (by decide) ?_
  refine lv_iadd hx hb dL_law_3136 ?_
  obtain ⟨v5, ev5, hq⟩ := b_s hq
  refine fs_li hx hb hI ev5 dL_law_3137 ?_
  refine lv_aload_n hx hb dL_law_3138 rfl (lv_at hl 1 rfl) ?_
  refine lv_iload hx hb dL_law_3139 (lv_at hl 6 rfl) ?_
  refine lv_iconst (v := (2 : Int32)) hx hb dL_law_3141 (by decide) ?_
  refine lv_iadd hx hb dL_law_3142 ?_
  obtain ⟨v6, ev6, hq⟩ := b_s hq
  refine fs_li hx hb hI ev6 dL_law_3143 ?_
  obtain ⟨v7, ev7, hq⟩ := b_s hq
  refine gw_i (g_runV (As := [.int v5, .int v6]) (rest := []) (ci := 10) hC (c_X8_removePoint l V g D cT v3.2 n4 x2 v5 v6 v7 ev7) k_X8_removePoint m_1991 rfl rfl ⟨Nat.le_of_ble_eq_true rfl, Nat.le_of_ble_eq_true rfl⟩ hI rfl rfl (h_me_eq ev7).1 rfl hl.1 rfl (Nat.le_of_ble_eq_true rfl) dL_law_3144 ⟨(by have := hcap.1; show _ ≤ 601024; omega), (by have := hcap.2; show _ ≤ 7293034; omega)⟩) hI (fun H locs hI => ?_)
  refine lv_istore (lv' := [(7, .int v7.1), (6, .int v3.1), (0, .ref x0), (1, .ref x1), (2, .ref x2), (3, .ref x3), (4, .ref x4), (5, .int x5)]) hx hb dL_law_3147 hl (by decide) rfl (fun ls hl => ?_)
  refine lv_aload_n hx hb dL_law_3149 rfl (lv_at hl 4 rfl) ?_
  obtain ⟨v8, ev8, hq⟩ := b_s hq
  refine gr_i (g_runV (As := []) (rest := []) (ci := 10) hC (c_X8_thrown l V g D cT v7.2 n4 x2 v8 ev8) k_X8_thrown m_1610 rfl rfl ⟨Nat.le_of_ble_eq_true rfl, Nat.le_of_ble_eq_true rfl⟩ hI rfl rfl (h_me_eq ev8).1 rfl hl.1 rfl (Nat.le_of_ble_eq_true rfl) dL_law_3150 ⟨(by have := hcap.1; show _ ≤ 601024; omega), (by have := hcap.2; show _ ≤ 7293034; omega)⟩) hI (fun H locs hI => ?_)
  refine lv_iload hx hb dL_law_3153 (lv_at hl 1 rfl) ?_
  refine lv_icmp_eq (tgt := 3160) hx hb dL_law_3155 (by decide) (fun c9 => ?_) (fun c9 => ?_)
  · replace hq := i_t c9 hq
    refine lv_iload hx hb dL_law_3160 (lv_at hl 1 rfl) ?_
    refine lv_if_ne (tgt := 3177) hx hb dL_law_3162 (by decide) (fun c10 => ?_) (fun c10 => ?_)
    · replace hq := i_f c10 hq
      refine lv_goto (tgt := 3637) hx hb dL_law_3177 (by decide) ?_
      obtain rfl := Option.some.inj hq
      refine W.widen (k := cells + 17) (n := slots + 3206) (by omega) (by omega) ?_
      exact kk _ _ _ _ (by omega) hI (lv_sub hl [2, 3, 4, 5, 6, 7] rfl)
    · replace hq := i_t c10 hq
      refine lv_aload_n hx hb dL_law_3165 rfl (lv_at hl 5 rfl) ?_
      refine lv_iconst (v := (0 : Int32)) hx hb dL_law_3166 (by decide) ?_
      obtain ⟨v11, ev11, hq⟩ := b_s hq
      refine fa_ll hx hb hI ev11 dL_law_3167 ?_
      refine lv_iload hx hb dL_law_3168 (lv_at hl 0 rfl) ?_
      refine lv_i2l (v := v7.1.toInt64) hx hb dL_law_3170 rfl ?_
      refine lv_lcmpN hx hb dL_law_3171 ?_
      refine lv_if_eq (tgt := 3177) hx hb dL_law_3172 (by decide) (fun c12 => ?_) (fun c12 => ?_)
      · replace hq := i_t c12 hq
        refine lv_goto (tgt := 3637) hx hb dL_law_3177 (by decide) ?_
        obtain rfl := Option.some.inj hq
        refine W.widen (k := cells + 17) (n := slots + 3206) (by omega) (by omega) ?_
        exact kk _ _ _ _ (by omega) hI (lv_sub hl [2, 3, 4, 5, 6, 7] rfl)
      · replace hq := i_f c12 hq
        refine lv_iconst (v := (0 : Int32)) hx hb dL_law_3175 (by decide) ?_
        cases hq
  · replace hq := i_f c9 hq
    refine lv_iconst (v := (0 : Int32)) hx hb dL_law_3158 (by decide) ?_
    cases hq


set_option maxHeartbeats 4000000 in
set_option maxRecDepth 100000 in
theorem cs_49 {p : Program} {l : Launch} {e : Env} {s : State} {m : MethodId} {args : Array Value} {below : List Frame} {meth : Method} {c : Code} {V : Nat → Nat} {g : GH} {D : va_G} {cT : Nat → ClassId} (hl0 : l.stackTraces = false) (hx : p.tables.exec = Jvm.exec) (hb : c.code = cL_law) (hC : CallFix p m c cL_law 9 s args g_B RL) {Q : State → Prop} {f : GH} {n : Nat} (x0 x1 x2 x3 x4 : Nat) (x5 : Int32) {f1 : GH} (hq : p_case_49 V g f n x0 x1 x2 x3 x4 x5 = some f1) {H : Heap} {locs : List Loc} {cells slots : Nat} {ls : Array Slot} (hcap : cells + 17 ≤ 601024 ∧ slots + 3206 ≤ 7293034) (hI : g_at (g_A V) V g D cT f n s H locs) (hl : lv_has ls 9 [(0, .ref x0), (1, .ref x1), (2, .ref x2), (3, .ref x3), (4, .ref x4), (5, .int x5)])
    (kk : ∀ (H : Heap) (locs : List Loc) (ls : Array Slot) (n1 : Nat), n ≤ n1 → g_at (g_A V) V g D cT f1 n1 s H locs → lv_has ls 9 [(0, .ref x0), (1, .ref x1), (2, .ref x2), (3, .ref x3), (4, .ref x4), (5, .int x5)] → W p l e room_1 s m args below meth c H locs (cells + 17) (slots + 3206) Q (F0 m 3637 ls [])) : W p l e room_1 s m args below meth c H locs cells slots Q (F0 m 3180 ls []) := by
  obtain ⟨_, _, hml, hown, hB⟩ := id hC
  unfold p_case_49 at hq
  refine lv_aload_n hx hb dL_law_3180 rfl (lv_at hl 1 rfl) ?_
  refine lv_aload_n hx hb dL_law_3181 rfl (lv_at hl 0 rfl) ?_
  refine lv_iload hx hb dL_law_3182 (lv_at hl 5 rfl) ?_
  refine lv_iconst (v := (1 : Int32)) hx hb dL_law_3184 (by decide) ?_
  refine lv_iadd hx hb dL_law_3185 ?_
  obtain ⟨v1, ev1, hq⟩ := b_s hq
  refine fs_li hx hb hI ev1 dL_law_3186 ?_
  refine lv_aload_n hx hb dL_law_3187 rfl (lv_at hl 0 rfl) ?_
  refine lv_iload hx hb dL_law_3188 (lv_at hl 5 rfl) ?_
  refine lv_iconst (v := (2 : Int32)) hx hb dL_law_3190 (by decide) ?_
  refine lv_iadd hx hb dL_law_3191 ?_
  obtain ⟨v2, ev2, hq⟩ := b_s hq
  refine fs_li hx hb hI ev2 dL_law_3192 ?_
  refine lv_aload_n hx hb dL_law_3193 rfl (lv_at hl 0 rfl) ?_
  refine lv_iload hx hb dL_law_3194 (lv_at hl 5 rfl) ?_
  refine lv_iconst (v := (3 : Int32)) hx hb dL_law_3196 (by decide) ?_
  refine lv_iadd hx hb dL_law_3197 ?_
  obtain ⟨v3, ev3, hq⟩ := b_s hq
  refine fs_li hx hb hI ev3 dL_law_3198 ?_
  refine lv_aload_n hx hb dL_law_3199 rfl (lv_at hl 3 rfl) ?_
  obtain ⟨v4, ev4, hq⟩ := b_s hq
  refine gl_i (g_runSW (As := [.ref x1, .int v1, .int v2, .int v3, .ref x3]) (rest := []) hC (c_L_shift l hl0 V g D cT f n x1 v1 v2 v3 x3 v4 ev4) k_L_shift m_1142 rfl rfl ⟨Nat.le_of_ble_eq_true rfl, Nat.le_of_ble_eq_true rfl⟩ hI rfl hl.1 rfl (Nat.le_of_ble_eq_true rfl) dL_law_3200 ⟨(by have := hcap.1; show _ ≤ 601024; omega), (by have := hcap.2; show _ ≤ 7293034; omega)⟩) hI (fun H locs n5 hn5 hI => ?_)
  refine lv_istore (lv' := [(6, .int v4.1), (0, .ref x0), (1, .ref x1), (2, .ref x2), (3, .ref x3), (4, .ref x4), (5, .int x5)]) hx hb dL_law_3203 hl (by decide) rfl (fun ls hl => ?_)
  refine lv_aload_n hx hb dL_law_3205 rfl (lv_at hl 3 rfl) ?_
  refine lv_aload_n hx hb dL_law_3206 rfl (lv_at hl 1 rfl) ?_
  refine lv_iload hx hb dL_law_3207 (lv_at hl 6 rfl) ?_
  refine lv_iconst (v := (1 : Int32)) hx hb dL_law_3209 (by decide) ?_
  refine lv_iadd hx hb dL_law_3210 ?_
  obtain ⟨v6, ev6, hq⟩ := b_s hq
  refine fs_li hx hb hI ev6 dL_law_3211 ?_
  refine lv_aload_n hx hb dL_law_3212 rfl (lv_at hl 1 rfl) ?_
  refine lv_iload hx hb dL_law_3213 (lv_at hl 6 rfl) ?_
  refine lv_iconst (v := (2 : Int32)) hx hb dL_law_3215 (by decide) ?_
  refine lv_iadd hx hb dL_law_3216 ?_
  obtain ⟨v7, ev7, hq⟩ := b_s hq
  refine fs_li hx hb hI ev7 dL_law_3217 ?_
  refine lv_aload_n hx hb dL_law_3218 rfl (lv_at hl 1 rfl) ?_
  refine lv_iload hx hb dL_law_3219 (lv_at hl 6 rfl) ?_
  refine lv_iconst (v := (3 : Int32)) hx hb dL_law_3221 (by decide) ?_
  refine lv_iadd hx hb dL_law_3222 ?_
  obtain ⟨v8, ev8, hq⟩ := b_s hq
  refine fs_li hx hb hI ev8 dL_law_3223 ?_
  obtain ⟨v9, ev9, hq⟩ := b_s hq
  refine gw_i (g_runV (As := [.int v6, .int v7, .int v8]) (rest := []) (ci := 10) hC (c_X8_shift l V g D cT v4.2 n5 x2 v6 v7 v8 v9 ev9) k_X8_shift m_1999 rfl rfl ⟨Nat.le_of_ble_eq_true rfl, Nat.le_of_ble_eq_true rfl⟩ hI rfl rfl (h_me_eq ev9).1 rfl hl.1 rfl (Nat.le_of_ble_eq_true rfl) dL_law_3224 ⟨(by have := hcap.1; show _ ≤ 601024; omega), (by have := hcap.2; show _ ≤ 7293034; omega)⟩) hI (fun H locs hI => ?_)
  refine lv_istore (lv' := [(7, .int v9.1), (6, .int v4.1), (0, .ref x0), (1, .ref x1), (2, .ref x2), (3, .ref x3), (4, .ref x4), (5, .int x5)]) hx hb dL_law_3227 hl (by decide) rfl (fun ls hl => ?_)
  refine lv_aload_n hx hb dL_law_3229 rfl (lv_at hl 4 rfl) ?_
  obtain ⟨v10, ev10, hq⟩ := b_s hq
  refine gr_i (g_runV (As := []) (rest := []) (ci := 10) hC (c_X8_thrown l V g D cT v9.2 n5 x2 v10 ev10) k_X8_thrown m_1610 rfl rfl ⟨Nat.le_of_ble_eq_true rfl, Nat.le_of_ble_eq_true rfl⟩ hI rfl rfl (h_me_eq ev10).1 rfl hl.1 rfl (Nat.le_of_ble_eq_true rfl) dL_law_3230 ⟨(by have := hcap.1; show _ ≤ 601024; omega), (by have := hcap.2; show _ ≤ 7293034; omega)⟩) hI (fun H locs hI => ?_)
  refine lv_iload hx hb dL_law_3233 (lv_at hl 1 rfl) ?_
  refine lv_icmp_eq (tgt := 3240) hx hb dL_law_3235 (by decide) (fun c11 => ?_) (fun c11 => ?_)
  · replace hq := i_t c11 hq
    refine lv_iload hx hb dL_law_3240 (lv_at hl 1 rfl) ?_
    refine lv_if_ne (tgt := 3257) hx hb dL_law_3242 (by decide) (fun c12 => ?_) (fun c12 => ?_)
    · replace hq := i_f c12 hq
      refine lv_goto (tgt := 3637) hx hb dL_law_3257 (by decide) ?_
      obtain rfl := Option.some.inj hq
      refine W.widen (k := cells + 17) (n := slots + 3206) (by omega) (by omega) ?_
      exact kk _ _ _ _ (by omega) hI (lv_sub hl [2, 3, 4, 5, 6, 7] rfl)
    · replace hq := i_t c12 hq
      refine lv_aload_n hx hb dL_law_3245 rfl (lv_at hl 5 rfl) ?_
      refine lv_iconst (v := (0 : Int32)) hx hb dL_law_3246 (by decide) ?_
      obtain ⟨v13, ev13, hq⟩ := b_s hq
      refine fa_ll hx hb hI ev13 dL_law_3247 ?_
      refine lv_iload hx hb dL_law_3248 (lv_at hl 0 rfl) ?_
      refine lv_i2l (v := v9.1.toInt64) hx hb dL_law_3250 rfl ?_
      refine lv_lcmpN hx hb dL_law_3251 ?_
      refine lv_if_eq (tgt := 3257) hx hb dL_law_3252 (by decide) (fun c14 => ?_) (fun c14 => ?_)
      · replace hq := i_t c14 hq
        refine lv_goto (tgt := 3637) hx hb dL_law_3257 (by decide) ?_
        obtain rfl := Option.some.inj hq
        refine W.widen (k := cells + 17) (n := slots + 3206) (by omega) (by omega) ?_
        exact kk _ _ _ _ (by omega) hI (lv_sub hl [2, 3, 4, 5, 6, 7] rfl)
      · replace hq := i_f c14 hq
        refine lv_iconst (v := (0 : Int32)) hx hb dL_law_3255 (by decide) ?_
        cases hq
  · replace hq := i_f c11 hq
    refine lv_iconst (v := (0 : Int32)) hx hb dL_law_3238 (by decide) ?_
    cases hq

set_option maxHeartbeats 4000000 in
set_option maxRecDepth 100000 in
theorem cs_50 {p : Program} {l : Launch} {e : Env} {s : State} {m : MethodId} {args : Array Value} {below : List Frame} {meth : Method} {c : Code} {V : Nat → Nat} {g : GH} {D : va_G} {cT : Nat → ClassId} (hl0 : l.stackTraces = false) (hx : p.tables.exec = Jvm.exec) (hb : c.code = cL_law) (hC : CallFix p m c cL_law 9 s args g_B RL) {Q : State → Prop} {f : GH} {n : Nat} (x0 x1 x2 x3 x4 : Nat) (x5 : Int32) {f1 : GH} (hq : p_case_50 V g f n x0 x1 x2 x3 x4 x5 = some f1) {H : Heap} {locs : List Loc} {cells slots : Nat} {ls : Array Slot} (hcap : cells + 17 ≤ 601024 ∧ slots + 3206 ≤ 7293034) (hI : g_at (g_A V) V g D cT f n s H locs) (hl : lv_has ls 9 [(0, .ref x0), (1, .ref x1), (2, .ref x2), (3, .ref x3), (4, .ref x4), (5, .int x5)])
    (kk : ∀ (H : Heap) (locs : List Loc) (ls : Array Slot) (n1 : Nat), n ≤ n1 → g_at (g_A V) V g D cT f1 n1 s H locs → lv_has ls 9 [(0, .ref x0), (1, .ref x1), (2, .ref x2), (3, .ref x3), (4, .ref x4), (5, .int x5)] → W p l e room_1 s m args below meth c H locs (cells + 17) (slots + 3206) Q (F0 m 3637 ls [])) : W p l e room_1 s m args below meth c H locs cells slots Q (F0 m 3260 ls []) := by
  obtain ⟨_, _, hml, hown, hB⟩ := id hC
  unfold p_case_50 at hq
  refine lv_aload_n hx hb dL_law_3260 rfl (lv_at hl 1 rfl) ?_
  refine lv_aload_n hx hb dL_law_3261 rfl (lv_at hl 0 rfl) ?_
  refine lv_iload hx hb dL_law_3262 (lv_at hl 5 rfl) ?_
  refine lv_iconst (v := (1 : Int32)) hx hb dL_law_3264 (by decide) ?_
  refine lv_iadd hx hb dL_law_3265 ?_
  obtain ⟨v1, ev1, hq⟩ := b_s hq
  refine fs_li hx hb hI ev1 dL_law_3266 ?_
  refine lv_aload_n hx hb dL_law_3267 rfl (lv_at hl 3 rfl) ?_
  obtain ⟨v2, ev2, hq⟩ := b_s hq
  refine gl_i (g_runSW (As := [.ref x1, .int v1, .ref x3]) (rest := []) hC (c_L_reverse l hl0 V g D cT f n x1 v1 x3 v2 ev2) k_L_reverse m_1151 rfl rfl ⟨Nat.le_of_ble_eq_true rfl, Nat.le_of_ble_eq_true rfl⟩ hI rfl hl.1 rfl (Nat.le_of_ble_eq_true rfl) dL_law_3268 ⟨(by have := hcap.1; show _ ≤ 601024; omega), (by have := hcap.2; show _ ≤ 7293034; omega)⟩) hI (fun H locs n3 hn3 hI => ?_)
  refine lv_istore (lv' := [(6, .int v2.1), (0, .ref x0), (1, .ref x1), (2, .ref x2), (3, .ref x3), (4, .ref x4), (5, .int x5)]) hx hb dL_law_3271 hl (by decide) rfl (fun ls hl => ?_)
  refine lv_aload_n hx hb dL_law_3273 rfl (lv_at hl 3 rfl) ?_
  refine lv_aload_n hx hb dL_law_3274 rfl (lv_at hl 1 rfl) ?_
  refine lv_iload hx hb dL_law_3275 (lv_at hl 6 rfl) ?_
  refine lv_iconst (v := (1 : Int32)) hx hb dL_law_3277 (by decide) ?_
  refine lv_iadd hx hb dL_law_3278 ?_
  obtain ⟨v4, ev4, hq⟩ := b_s hq
  refine fs_li hx hb hI ev4 dL_law_3279 ?_
  obtain ⟨v5, ev5, hq⟩ := b_s hq
  refine gw_i (g_runV (As := [.int v4]) (rest := []) (ci := 10) hC (c_X8_reverse l V g D cT v2.2 n3 x2 v4 v5 ev5) k_X8_reverse m_2010 rfl rfl ⟨Nat.le_of_ble_eq_true rfl, Nat.le_of_ble_eq_true rfl⟩ hI rfl rfl (h_me_eq ev5).1 rfl hl.1 rfl (Nat.le_of_ble_eq_true rfl) dL_law_3280 ⟨(by have := hcap.1; show _ ≤ 601024; omega), (by have := hcap.2; show _ ≤ 7293034; omega)⟩) hI (fun H locs hI => ?_)
  refine lv_istore (lv' := [(7, .int v5.1), (6, .int v2.1), (0, .ref x0), (1, .ref x1), (2, .ref x2), (3, .ref x3), (4, .ref x4), (5, .int x5)]) hx hb dL_law_3283 hl (by decide) rfl (fun ls hl => ?_)
  refine lv_aload_n hx hb dL_law_3285 rfl (lv_at hl 4 rfl) ?_
  obtain ⟨v6, ev6, hq⟩ := b_s hq
  refine gr_i (g_runV (As := []) (rest := []) (ci := 10) hC (c_X8_thrown l V g D cT v5.2 n3 x2 v6 ev6) k_X8_thrown m_1610 rfl rfl ⟨Nat.le_of_ble_eq_true rfl, Nat.le_of_ble_eq_true rfl⟩ hI rfl rfl (h_me_eq ev6).1 rfl hl.1 rfl (Nat.le_of_ble_eq_true rfl) dL_law_3286 ⟨(by have := hcap.1; show _ ≤ 601024; omega), (by have := hcap.2; show _ ≤ 7293034; omega)⟩) hI (fun H locs hI => ?_)
  refine lv_iload hx hb dL_law_3289 (lv_at hl 1 rfl) ?_
  refine lv_icmp_eq (tgt := 3296) hx hb dL_law_3291 (by decide) (fun c7 => ?_) (fun c7 => ?_)
  · replace hq := i_t c7 hq
    refine lv_iload hx hb dL_law_3296 (lv_at hl 1 rfl) ?_
    refine lv_if_ne (tgt := 3313) hx hb dL_law_3298 (by decide) (fun c8 => ?_) (fun c8 => ?_)
    · replace hq := i_f c8 hq
      refine lv_goto (tgt := 3637) hx hb dL_law_3313 (by decide) ?_
      obtain rfl := Option.some.inj hq
      refine W.widen (k := cells + 17) (n := slots + 3206) (by omega) (by omega) ?_
      exact kk _ _ _ _ (by omega) hI (lv_sub hl [2, 3, 4, 5, 6, 7] rfl)
    · replace hq := i_t c8 hq
      refine lv_aload_n hx hb dL_law_3301 rfl (lv_at hl 5 rfl) ?_
      refine lv_iconst (v := (0 : Int32)) hx hb dL_law_3302 (by decide) ?_
      obtain ⟨v9, ev9, hq⟩ := b_s hq
      refine fa_ll hx hb hI ev9 dL_law_3303 ?_
      refine lv_iload hx hb dL_law_3304 (lv_at hl 0 rfl) ?_
      refine lv_i2l (v := v5.1.toInt64) hx hb dL_law_3306 rfl ?_
      refine lv_lcmpN hx hb dL_law_3307 ?_
      refine lv_if_eq (tgt := 3313) hx hb dL_law_3308 (by decide) (fun c10 => ?_) (fun c10 => ?_)
      · replace hq := i_t c10 hq
        refine lv_goto (tgt := 3637) hx hb dL_law_3313 (by decide) ?_
        obtain rfl := Option.some.inj hq
        refine W.widen (k := cells + 17) (n := slots + 3206) (by omega) (by omega) ?_
        exact kk _ _ _ _ (by omega) hI (lv_sub hl [2, 3, 4, 5, 6, 7] rfl)
      · replace hq := i_f c10 hq
        refine lv_iconst (v := (0 : Int32)) hx hb dL_law_3311 (by decide) ?_
        cases hq
  · replace hq := i_f c7 hq
    refine lv_iconst (v := (0 : Int32)) hx hb dL_law_3294 (by decide) ?_
    cases hq

set_option maxHeartbeats 4000000 in
set_option maxRecDepth 100000 in
theorem cs_51 {p : Program} {l : Launch} {e : Env} {s : State} {m : MethodId} {args : Array Value} {below : List Frame} {meth : Method} {c : Code} {V : Nat → Nat} {g : GH} {D : va_G} {cT : Nat → ClassId} (hl0 : l.stackTraces = false) (hx : p.tables.exec = Jvm.exec) (hb : c.code = cL_law) (hC : CallFix p m c cL_law 9 s args g_B RL) {Q : State → Prop} {f : GH} {n : Nat} (x0 x1 x2 x3 x4 : Nat) (x5 : Int32) {f1 : GH} (hq : p_case_51 V g f n x0 x1 x2 x3 x4 x5 = some f1) {H : Heap} {locs : List Loc} {cells slots : Nat} {ls : Array Slot} (hcap : cells + 17 ≤ 601024 ∧ slots + 3206 ≤ 7293034) (hI : g_at (g_A V) V g D cT f n s H locs) (hl : lv_has ls 9 [(0, .ref x0), (1, .ref x1), (2, .ref x2), (3, .ref x3), (4, .ref x4), (5, .int x5)])
    (kk : ∀ (H : Heap) (locs : List Loc) (ls : Array Slot) (n1 : Nat), n ≤ n1 → g_at (g_A V) V g D cT f1 n1 s H locs → lv_has ls 9 [(0, .ref x0), (1, .ref x1), (2, .ref x2), (3, .ref x3), (4, .ref x4), (5, .int x5)] → W p l e room_1 s m args below meth c H locs (cells + 17) (slots + 3206) Q (F0 m 3637 ls [])) : W p l e room_1 s m args below meth c H locs cells slots Q (F0 m 3316 ls []) := by
  obtain ⟨_, _, hml, hown, hB⟩ := id hC
  unfold p_case_51 at hq
  refine lv_aload_n hx hb dL_law_3316 rfl (lv_at hl 1 rfl) ?_
  refine lv_aload_n hx hb dL_law_3317 rfl (lv_at hl 0 rfl) ?_
  refine lv_iload hx hb dL_law_3318 (lv_at hl 5 rfl) ?_
  refine lv_iconst (v := (1 : Int32)) hx hb dL_law_3320 (by decide) ?_
  refine lv_iadd hx hb dL_law_3321 ?_
  obtain ⟨v1, ev1, hq⟩ := b_s hq
  refine fs_li hx hb hI ev1 dL_law_3322 ?_
  refine lv_if_eq (tgt := 3330) hx hb dL_law_3323 (by decide) (fun c2 => ?_) (fun c2 => ?_)
  · replace hq := i_t c2 hq
    refine lv_iconst (v := (0 : Int32)) hx hb dL_law_3330 (by decide) ?_
    obtain ⟨v3, ev3, hq⟩ := x_r_eq hq
    refine gy_i (g_runVX (As := [.int (0 : Int32)]) (rest := []) (ci := 9) hC (c_X7_setKingMetric l hl0 V g D cT f n x1 (0 : Int32) (.inr v3) ev3) k_X7_setKingMetric m_349 rfl rfl ⟨Nat.le_of_ble_eq_true rfl, Nat.le_of_ble_eq_true rfl⟩ hI rfl rfl (h_me_eq ev3).1 rfl hl.1 rfl (Nat.le_of_ble_eq_true rfl) dL_law_3331 ⟨(by have := hcap.1; show _ ≤ 601024; omega), (by have := hcap.2; show _ ≤ 7293034; omega)⟩) hI (fun H locs hI => ?_)
    refine lv_aload_n hx hb dL_law_3334 rfl (lv_at hl 2 rfl) ?_
    refine lv_aload_n hx hb dL_law_3335 rfl (lv_at hl 0 rfl) ?_
    refine lv_iload hx hb dL_law_3336 (lv_at hl 5 rfl) ?_
    refine lv_iconst (v := (1 : Int32)) hx hb dL_law_3338 (by decide) ?_
    refine lv_iadd hx hb dL_law_3339 ?_
    obtain ⟨v4, ev4, hq⟩ := b_s hq
    refine fs_li hx hb hI ev4 dL_law_3340 ?_
    refine lv_if_eq (tgt := 3348) hx hb dL_law_3341 (by decide) (fun c5 => ?_) (fun c5 => ?_)
    · replace hq := i_t c5 hq
      refine lv_iconst (v := (0 : Int32)) hx hb dL_law_3348 (by decide) ?_
      obtain ⟨v6, ev6, hq⟩ := b_s hq
      refine gw_i (g_runV (As := [.int (0 : Int32)]) (rest := [.int v3.1]) (ci := 10) hC (c_X8_setKingMetric l V g D cT v3.2 n x2 (0 : Int32) v6 ev6) k_X8_setKingMetric m_2018 rfl rfl ⟨Nat.le_of_ble_eq_true rfl, Nat.le_of_ble_eq_true rfl⟩ hI rfl rfl (h_me_eq ev6).1 rfl hl.1 rfl (Nat.le_of_ble_eq_true rfl) dL_law_3349 ⟨(by have := hcap.1; show _ ≤ 601024; omega), (by have := hcap.2; show _ ≤ 7293034; omega)⟩) hI (fun H locs hI => ?_)
      refine lv_icmp_eq (tgt := 3637) hx hb dL_law_3352 (by decide) (fun c7 => ?_) (fun c7 => ?_)
      · replace hq := i_t c7 hq
        obtain rfl := Option.some.inj hq
        refine W.widen (k := cells + 17) (n := slots + 3206) (by omega) (by omega) ?_
        exact kk _ _ _ _ (by omega) hI (lv_sub hl [0, 1, 2, 3, 4, 5] rfl)
      · replace hq := i_f c7 hq
        refine lv_iconst (v := (0 : Int32)) hx hb dL_law_3355 (by decide) ?_
        cases hq
    · replace hq := i_f c5 hq
      refine lv_iconst (v := (1 : Int32)) hx hb dL_law_3344 (by decide) ?_
      refine lv_goto (tgt := 3349) hx hb dL_law_3345 (by decide) ?_
      obtain ⟨v8, ev8, hq⟩ := b_s hq
      refine gw_i (g_runV (As := [.int (1 : Int32)]) (rest := [.int v3.1]) (ci := 10) hC (c_X8_setKingMetric l V g D cT v3.2 n x2 (1 : Int32) v8 ev8) k_X8_setKingMetric m_2018 rfl rfl ⟨Nat.le_of_ble_eq_true rfl, Nat.le_of_ble_eq_true rfl⟩ hI rfl rfl (h_me_eq ev8).1 rfl hl.1 rfl (Nat.le_of_ble_eq_true rfl) dL_law_3349 ⟨(by have := hcap.1; show _ ≤ 601024; omega), (by have := hcap.2; show _ ≤ 7293034; omega)⟩) hI (fun H locs hI => ?_)
      refine lv_icmp_eq (tgt := 3637) hx hb dL_law_3352 (by decide) (fun c9 => ?_) (fun c9 => ?_)
      · replace hq := i_t c9 hq
        obtain rfl := Option.some.inj hq
        refine W.widen (k := cells + 17) (n := slots + 3206) (by omega) (by omega) ?_
        exact kk _ _ _ _ (by omega) hI (lv_sub hl [0, 1, 2, 3, 4, 5] rfl)
      · replace hq := i_f c9 hq
        refine lv_iconst (v := (0 : Int32)) hx hb dL_law_3355 (by decide) ?_
        cases hq
  · replace hq := i_f c2 hq
    refine lv_iconst (v := (1 : Int32)) hx hb dL_law_3326 (by decide) ?_
    refine lv_goto (tgt := 3331) hx hb dL_law_3327 (by decide) ?_
    obtain ⟨v10, ev10, hq⟩ := x_r_eq hq
    refine gy_i (g_runVX (As := [.int (1 : Int32)]) (rest := []) (ci := 9) hC (c_X7_setKingMetric l hl0 V g D cT f n x1 (1 : Int32) (.inr v10) ev10) k_X7_setKingMetric m_349 rfl rfl ⟨Nat.le_of_ble_eq_true rfl, Nat.le_of_ble_eq_true rfl⟩ hI rfl rfl (h_me_eq ev10).1 rfl hl.1 rfl (Nat.le_of_ble_eq_true rfl) dL_law_3331 ⟨(by have := hcap.1; show _ ≤ 601024; omega), (by have := hcap.2; show _ ≤ 7293034; omega)⟩) hI (fun H locs hI => ?_)
    refine lv_aload_n hx hb dL_law_3334 rfl (lv_at hl 2 rfl) ?_
    refine lv_aload_n hx hb dL_law_3335 rfl (lv_at hl 0 rfl) ?_
    refine lv_iload hx hb dL_law_3336 (lv_at hl 5 rfl) ?_
    refine lv_iconst (v := (1 : Int32)) hx hb dL_law_3338 (by decide) ?_
    refine lv_iadd hx hb dL_law_3339 ?_
    obtain ⟨v11, ev11, hq⟩ := b_s hq
    refine fs_li hx hb hI ev11 dL_law_3340 ?_
    refine lv_if_eq (tgt := 3348) hx hb dL_law_3341 (by decide) (fun c12 => ?_) (fun c12 => ?_)
    · replace hq := i_t c12 hq
      refine lv_iconst (v := (0 : Int32)) hx hb dL_law_3348 (by decide) ?_
      obtain ⟨v13, ev13, hq⟩ := b_s hq
      refine gw_i (g_runV (As := [.int (0 : Int32)]) (rest := [.int v10.1]) (ci := 10) hC (c_X8_setKingMetric l V g D cT v10.2 n x2 (0 : Int32) v13 ev13) k_X8_setKingMetric m_2018 rfl rfl ⟨Nat.le_of_ble_eq_true rfl, Nat.le_of_ble_eq_true rfl⟩ hI rfl rfl (h_me_eq ev13).1 rfl hl.1 rfl (Nat.le_of_ble_eq_true rfl) dL_law_3349 ⟨(by have := hcap.1; show _ ≤ 601024; omega), (by have := hcap.2; show _ ≤ 7293034; omega)⟩) hI (fun H locs hI => ?_)
      refine lv_icmp_eq (tgt := 3637) hx hb dL_law_3352 (by decide) (fun c14 => ?_) (fun c14 => ?_)
      · replace hq := i_t c14 hq
        obtain rfl := Option.some.inj hq
        refine W.widen (k := cells + 17) (n := slots + 3206) (by omega) (by omega) ?_
        exact kk _ _ _ _ (by omega) hI (lv_sub hl [0, 1, 2, 3, 4, 5] rfl)
      · replace hq := i_f c14 hq
        refine lv_iconst (v := (0 : Int32)) hx hb dL_law_3355 (by decide) ?_
        cases hq
    · replace hq := i_f c12 hq
      refine lv_iconst (v := (1 : Int32)) hx hb dL_law_3344 (by decide) ?_
      refine lv_goto (tgt := 3349) hx hb dL_law_3345 (by decide) ?_
      obtain ⟨v15, ev15, hq⟩ := b_s hq
      refine gw_i (g_runV (As := [.int (1 : Int32)]) (rest := [.int v10.1]) (ci := 10) hC (c_X8_setKingMetric l V g D cT v10.2 n x2 (1 : Int32) v15 ev15) k_X8_setKingMetric m_2018 rfl rfl ⟨Nat.le_of_ble_eq_true rfl, Nat.le_of_ble_eq_true rfl⟩ hI rfl rfl (h_me_eq ev15).1 rfl hl.1 rfl (Nat.le_of_ble_eq_true rfl) dL_law_3349 ⟨(by have := hcap.1; show _ ≤ 601024; omega), (by have := hcap.2; show _ ≤ 7293034; omega)⟩) hI (fun H locs hI => ?_)
      refine lv_icmp_eq (tgt := 3637) hx hb dL_law_3352 (by decide) (fun c16 => ?_) (fun c16 => ?_)
      · replace hq := i_t c16 hq
        obtain rfl := Option.some.inj hq
        refine W.widen (k := cells + 17) (n := slots + 3206) (by omega) (by omega) ?_
        exact kk _ _ _ _ (by omega) hI (lv_sub hl [0, 1, 2, 3, 4, 5] rfl)
      · replace hq := i_f c16 hq
        refine lv_iconst (v := (0 : Int32)) hx hb dL_law_3355 (by decide) ?_
        cases hq

set_option maxHeartbeats 4000000 in
set_option maxRecDepth 100000 in
theorem cs_52 {p : Program} {l : Launch} {e : Env} {s : State} {m : MethodId} {args : Array Value} {below : List Frame} {meth : Method} {c : Code} {V : Nat → Nat} {g : GH} {D : va_G} {cT : Nat → ClassId} (hl0 : l.stackTraces = false) (hx : p.tables.exec = Jvm.exec) (hb : c.code = cL_law) (hC : CallFix p m c cL_law 9 s args g_B RL) {Q : State → Prop} {f : GH} {n : Nat} (x0 x1 x2 x3 x4 : Nat) (x5 : Int32) {f1 : GH} (hq : p_case_52 V g f n x0 x1 x2 x3 x4 x5 = some f1) {H : Heap} {locs : List Loc} {cells slots : Nat} {ls : Array Slot} (hcap : cells + 17 ≤ 601024 ∧ slots + 3206 ≤ 7293034) (hI : g_at (g_A V) V g D cT f n s H locs) (hl : lv_has ls 9 [(0, .ref x0), (1, .ref x1), (2, .ref x2), (3, .ref x3), (4, .ref x4), (5, .int x5)])
    (kk : ∀ (H : Heap) (locs : List Loc) (ls : Array Slot) (n1 : Nat), n ≤ n1 → g_at (g_A V) V g D cT f1 n1 s H locs → lv_has ls 9 [(0, .ref x0), (1, .ref x1), (2, .ref x2), (3, .ref x3), (4, .ref x4), (5, .int x5)] → W p l e room_1 s m args below meth c H locs (cells + 17) (slots + 3206) Q (F0 m 3637 ls [])) : W p l e room_1 s m args below meth c H locs cells slots Q (F0 m 3357 ls []) := by
  obtain ⟨_, _, hml, hown, hB⟩ := id hC
  unfold p_case_52 at hq
  refine lv_aload_n hx hb dL_law_3357 rfl (lv_at hl 1 rfl) ?_
  refine lv_aload_n hx hb dL_law_3358 rfl (lv_at hl 0 rfl) ?_
  refine lv_iload hx hb dL_law_3359 (lv_at hl 5 rfl) ?_
  refine lv_iconst (v := (1 : Int32)) hx hb dL_law_3361 (by decide) ?_
  refine lv_iadd hx hb dL_law_3362 ?_
  obtain ⟨v1, ev1, hq⟩ := b_s hq
  refine fs_li hx hb hI ev1 dL_law_3363 ?_
  refine lv_aload_n hx hb dL_law_3364 rfl (lv_at hl 3 rfl) ?_
  obtain ⟨v2, ev2, hq⟩ := b_s hq
  refine gl_i (g_runSW (As := [.ref x1, .int v1, .ref x3]) (rest := []) hC (c_L_runScript l hl0 V g D cT f n x1 v1 x3 v2 ev2) k_L_runScript m_1160 rfl rfl ⟨Nat.le_of_ble_eq_true rfl, Nat.le_of_ble_eq_true rfl⟩ hI rfl hl.1 rfl (Nat.le_of_ble_eq_true rfl) dL_law_3365 ⟨(by have := hcap.1; show _ ≤ 601024; omega), (by have := hcap.2; show _ ≤ 7293034; omega)⟩) hI (fun H locs n3 hn3 hI => ?_)
  refine lv_istore (lv' := [(6, .int v2.1), (0, .ref x0), (1, .ref x1), (2, .ref x2), (3, .ref x3), (4, .ref x4), (5, .int x5)]) hx hb dL_law_3368 hl (by decide) rfl (fun ls hl => ?_)
  refine lv_aload_n hx hb dL_law_3370 rfl (lv_at hl 3 rfl) ?_
  refine lv_aload_n hx hb dL_law_3371 rfl (lv_at hl 1 rfl) ?_
  refine lv_iload hx hb dL_law_3372 (lv_at hl 6 rfl) ?_
  refine lv_iconst (v := (1 : Int32)) hx hb dL_law_3374 (by decide) ?_
  refine lv_iadd hx hb dL_law_3375 ?_
  obtain ⟨v4, ev4, hq⟩ := b_s hq
  refine fs_li hx hb hI ev4 dL_law_3376 ?_
  obtain ⟨v5, ev5, hq⟩ := b_s hq
  refine gw_i (g_runV (As := [.int v4]) (rest := []) (ci := 10) hC (c_X8_runScript l V g D cT v2.2 n3 x2 v4 v5 ev5) k_X8_runScript m_2184 rfl rfl ⟨Nat.le_of_ble_eq_true rfl, Nat.le_of_ble_eq_true rfl⟩ hI rfl rfl (h_me_eq ev5).1 rfl hl.1 rfl (Nat.le_of_ble_eq_true rfl) dL_law_3377 ⟨(by have := hcap.1; show _ ≤ 601024; omega), (by have := hcap.2; show _ ≤ 7293034; omega)⟩) hI (fun H locs hI => ?_)
  refine lv_istore (lv' := [(7, .int v5.1), (6, .int v2.1), (0, .ref x0), (1, .ref x1), (2, .ref x2), (3, .ref x3), (4, .ref x4), (5, .int x5)]) hx hb dL_law_3380 hl (by decide) rfl (fun ls hl => ?_)
  refine lv_aload_n hx hb dL_law_3382 rfl (lv_at hl 4 rfl) ?_
  obtain ⟨v6, ev6, hq⟩ := b_s hq
  refine gr_i (g_runV (As := []) (rest := []) (ci := 10) hC (c_X8_thrown l V g D cT v5.2 n3 x2 v6 ev6) k_X8_thrown m_1610 rfl rfl ⟨Nat.le_of_ble_eq_true rfl, Nat.le_of_ble_eq_true rfl⟩ hI rfl rfl (h_me_eq ev6).1 rfl hl.1 rfl (Nat.le_of_ble_eq_true rfl) dL_law_3383 ⟨(by have := hcap.1; show _ ≤ 601024; omega), (by have := hcap.2; show _ ≤ 7293034; omega)⟩) hI (fun H locs hI => ?_)
  refine lv_iload hx hb dL_law_3386 (lv_at hl 1 rfl) ?_
  refine lv_icmp_eq (tgt := 3393) hx hb dL_law_3388 (by decide) (fun c7 => ?_) (fun c7 => ?_)
  · replace hq := i_t c7 hq
    refine lv_iload hx hb dL_law_3393 (lv_at hl 1 rfl) ?_
    refine lv_if_ne (tgt := 3410) hx hb dL_law_3395 (by decide) (fun c8 => ?_) (fun c8 => ?_)
    · replace hq := i_f c8 hq
      refine lv_goto (tgt := 3637) hx hb dL_law_3410 (by decide) ?_
      obtain rfl := Option.some.inj hq
      refine W.widen (k := cells + 17) (n := slots + 3206) (by omega) (by omega) ?_
      exact kk _ _ _ _ (by omega) hI (lv_sub hl [2, 3, 4, 5, 6, 7] rfl)
    · replace hq := i_t c8 hq
      refine lv_aload_n hx hb dL_law_3398 rfl (lv_at hl 5 rfl) ?_
      refine lv_iconst (v := (0 : Int32)) hx hb dL_law_3399 (by decide) ?_
      obtain ⟨v9, ev9, hq⟩ := b_s hq
      refine fa_ll hx hb hI ev9 dL_law_3400 ?_
      refine lv_iload hx hb dL_law_3401 (lv_at hl 0 rfl) ?_
      refine lv_i2l (v := v5.1.toInt64) hx hb dL_law_3403 rfl ?_
      refine lv_lcmpN hx hb dL_law_3404 ?_
      refine lv_if_eq (tgt := 3410) hx hb dL_law_3405 (by decide) (fun c10 => ?_) (fun c10 => ?_)
      · replace hq := i_t c10 hq
        refine lv_goto (tgt := 3637) hx hb dL_law_3410 (by decide) ?_
        obtain rfl := Option.some.inj hq
        refine W.widen (k := cells + 17) (n := slots + 3206) (by omega) (by omega) ?_
        exact kk _ _ _ _ (by omega) hI (lv_sub hl [2, 3, 4, 5, 6, 7] rfl)
      · replace hq := i_f c10 hq
        refine lv_iconst (v := (0 : Int32)) hx hb dL_law_3408 (by decide) ?_
        cases hq
  · replace hq := i_f c7 hq
    refine lv_iconst (v := (0 : Int32)) hx hb dL_law_3391 (by decide) ?_
    cases hq

set_option maxHeartbeats 4000000 in
set_option maxRecDepth 100000 in
theorem cs_53 {p : Program} {l : Launch} {e : Env} {s : State} {m : MethodId} {args : Array Value} {below : List Frame} {meth : Method} {c : Code} {V : Nat → Nat} {g : GH} {D : va_G} {cT : Nat → ClassId} (hl0 : l.stackTraces = false) (hx : p.tables.exec = Jvm.exec) (hb : c.code = cL_law) (hC : CallFix p m c cL_law 9 s args g_B RL) {Q : State → Prop} {f : GH} {n : Nat} (x0 x1 x2 x3 x4 : Nat) (x5 : Int32) {f1 : GH} (hq : p_case_53 V g f n x0 x1 x2 x3 x4 x5 = some f1) {H : Heap} {locs : List Loc} {cells slots : Nat} {ls : Array Slot} (hcap : cells + 17 ≤ 601024 ∧ slots + 3206 ≤ 7293034) (hI : g_at (g_A V) V g D cT f n s H locs) (hl : lv_has ls 9 [(0, .ref x0), (1, .ref x1), (2, .ref x2), (3, .ref x3), (4, .ref x4), (5, .int x5)])
    (kk : ∀ (H : Heap) (locs : List Loc) (ls : Array Slot) (n1 : Nat), n ≤ n1 → g_at (g_A V) V g D cT f1 n1 s H locs → lv_has ls 9 [(0, .ref x0), (1, .ref x1), (2, .ref x2), (3, .ref x3), (4, .ref x4), (5, .int x5)] → W p l e room_1 s m args below meth c H locs (cells + 17) (slots + 3206) Q (F0 m 3637 ls [])) : W p l e room_1 s m args below meth c H locs cells slots Q (F0 m 3413 ls []) := by
  obtain ⟨_, _, hml, hown, hB⟩ := id hC
  unfold p_case_53 at hq
  refine lv_aload_n hx hb dL_law_3413 rfl (lv_at hl 1 rfl) ?_
  refine lv_aload_n hx hb dL_law_3414 rfl (lv_at hl 0 rfl) ?_
  refine lv_iload hx hb dL_law_3415 (lv_at hl 5 rfl) ?_
  refine lv_iconst (v := (1 : Int32)) hx hb dL_law_3417 (by decide) ?_
  refine lv_iadd hx hb dL_law_3418 ?_
  obtain ⟨v1, ev1, hq⟩ := b_s hq
  refine fs_li hx hb hI ev1 dL_law_3419 ?_
  refine lv_aload_n hx hb dL_law_3420 rfl (lv_at hl 3 rfl) ?_
  obtain ⟨v2, ev2, hq⟩ := b_s hq
  refine gl_i (g_runSW (As := [.ref x1, .int v1, .ref x3]) (rest := []) hC (c_L_writeLengths l hl0 V g D cT f n x1 v1 x3 v2 ev2) k_L_writeLengths m_1181 rfl rfl ⟨Nat.le_of_ble_eq_true rfl, Nat.le_of_ble_eq_true rfl⟩ hI rfl hl.1 rfl (Nat.le_of_ble_eq_true rfl) dL_law_3421 ⟨(by have := hcap.1; show _ ≤ 601024; omega), (by have := hcap.2; show _ ≤ 7293034; omega)⟩) hI (fun H locs n3 hn3 hI => ?_)
  refine lv_istore (lv' := [(6, .int v2.1), (0, .ref x0), (1, .ref x1), (2, .ref x2), (3, .ref x3), (4, .ref x4), (5, .int x5)]) hx hb dL_law_3424 hl (by decide) rfl (fun ls hl => ?_)
  refine lv_aload_n hx hb dL_law_3426 rfl (lv_at hl 3 rfl) ?_
  refine lv_aload_n hx hb dL_law_3427 rfl (lv_at hl 1 rfl) ?_
  refine lv_iload hx hb dL_law_3428 (lv_at hl 6 rfl) ?_
  refine lv_iconst (v := (1 : Int32)) hx hb dL_law_3430 (by decide) ?_
  refine lv_iadd hx hb dL_law_3431 ?_
  obtain ⟨v4, ev4, hq⟩ := b_s hq
  refine fs_li hx hb hI ev4 dL_law_3432 ?_
  obtain ⟨v5, ev5, hq⟩ := b_s hq
  refine gw_i (g_runV (As := [.int v4]) (rest := []) (ci := 10) hC (c_X8_writeLengths l V g D cT v2.2 n3 x2 v4 v5 ev5) k_X8_writeLengths m_2026 rfl rfl ⟨Nat.le_of_ble_eq_true rfl, Nat.le_of_ble_eq_true rfl⟩ hI rfl rfl (h_me_eq ev5).1 rfl hl.1 rfl (Nat.le_of_ble_eq_true rfl) dL_law_3433 ⟨(by have := hcap.1; show _ ≤ 601024; omega), (by have := hcap.2; show _ ≤ 7293034; omega)⟩) hI (fun H locs hI => ?_)
  refine lv_istore (lv' := [(7, .int v5.1), (6, .int v2.1), (0, .ref x0), (1, .ref x1), (2, .ref x2), (3, .ref x3), (4, .ref x4), (5, .int x5)]) hx hb dL_law_3436 hl (by decide) rfl (fun ls hl => ?_)
  refine lv_aload_n hx hb dL_law_3438 rfl (lv_at hl 4 rfl) ?_
  obtain ⟨v6, ev6, hq⟩ := b_s hq
  refine gr_i (g_runV (As := []) (rest := []) (ci := 10) hC (c_X8_thrown l V g D cT v5.2 n3 x2 v6 ev6) k_X8_thrown m_1610 rfl rfl ⟨Nat.le_of_ble_eq_true rfl, Nat.le_of_ble_eq_true rfl⟩ hI rfl rfl (h_me_eq ev6).1 rfl hl.1 rfl (Nat.le_of_ble_eq_true rfl) dL_law_3439 ⟨(by have := hcap.1; show _ ≤ 601024; omega), (by have := hcap.2; show _ ≤ 7293034; omega)⟩) hI (fun H locs hI => ?_)
  refine lv_iload hx hb dL_law_3442 (lv_at hl 1 rfl) ?_
  refine lv_icmp_eq (tgt := 3449) hx hb dL_law_3444 (by decide) (fun c7 => ?_) (fun c7 => ?_)
  · replace hq := i_t c7 hq
    refine lv_iload hx hb dL_law_3449 (lv_at hl 1 rfl) ?_
    refine lv_if_ne (tgt := 3466) hx hb dL_law_3451 (by decide) (fun c8 => ?_) (fun c8 => ?_)
    · replace hq := i_f c8 hq
      refine lv_goto (tgt := 3637) hx hb dL_law_3466 (by decide) ?_
      obtain rfl := Option.some.inj hq
      refine W.widen (k := cells + 17) (n := slots + 3206) (by omega) (by omega) ?_
      exact kk _ _ _ _ (by omega) hI (lv_sub hl [2, 3, 4, 5, 6, 7] rfl)
    · replace hq := i_t c8 hq
      refine lv_aload_n hx hb dL_law_3454 rfl (lv_at hl 5 rfl) ?_
      refine lv_iconst (v := (0 : Int32)) hx hb dL_law_3455 (by decide) ?_
      obtain ⟨v9, ev9, hq⟩ := b_s hq
      refine fa_ll hx hb hI ev9 dL_law_3456 ?_
      refine lv_iload hx hb dL_law_3457 (lv_at hl 0 rfl) ?_
      refine lv_i2l (v := v5.1.toInt64) hx hb dL_law_3459 rfl ?_
      refine lv_lcmpN hx hb dL_law_3460 ?_
      refine lv_if_eq (tgt := 3466) hx hb dL_law_3461 (by decide) (fun c10 => ?_) (fun c10 => ?_)
      · replace hq := i_t c10 hq
        refine lv_goto (tgt := 3637) hx hb dL_law_3466 (by decide) ?_
        obtain rfl := Option.some.inj hq
        refine W.widen (k := cells + 17) (n := slots + 3206) (by omega) (by omega) ?_
        exact kk _ _ _ _ (by omega) hI (lv_sub hl [2, 3, 4, 5, 6, 7] rfl)
      · replace hq := i_f c10 hq
        refine lv_iconst (v := (0 : Int32)) hx hb dL_law_3464 (by decide) ?_
        cases hq
  · replace hq := i_f c7 hq
    refine lv_iconst (v := (0 : Int32)) hx hb dL_law_3447 (by decide) ?_
    cases hq

set_option maxHeartbeats 4000000 in
set_option maxRecDepth 100000 in
theorem cs_54 {p : Program} {l : Launch} {e : Env} {s : State} {m : MethodId} {args : Array Value} {below : List Frame} {meth : Method} {c : Code} {V : Nat → Nat} {g : GH} {D : va_G} {cT : Nat → ClassId} (hl0 : l.stackTraces = false) (hx : p.tables.exec = Jvm.exec) (hb : c.code = cL_law) (hC : CallFix p m c cL_law 9 s args g_B RL) {Q : State → Prop} {f : GH} {n : Nat} (x0 x1 x2 x3 x4 : Nat) (x5 : Int32) {f1 : GH} (hq : p_case_54 V g f n x0 x1 x2 x3 x4 x5 = some f1) {H : Heap} {locs : List Loc} {cells slots : Nat} {ls : Array Slot} (hcap : cells + 17 ≤ 601024 ∧ slots + 3206 ≤ 7293034) (hI : g_at (g_A V) V g D cT f n s H locs) (hl : lv_has ls 9 [(0, .ref x0), (1, .ref x1), (2, .ref x2), (3, .ref x3), (4, .ref x4), (5, .int x5)])
    (kk : ∀ (H : Heap) (locs : List Loc) (ls : Array Slot) (n1 : Nat), n ≤ n1 → g_at (g_A V) V g D cT f1 n1 s H locs → lv_has ls 9 [(0, .ref x0), (1, .ref x1), (2, .ref x2), (3, .ref x3), (4, .ref x4), (5, .int x5)] → W p l e room_1 s m args below meth c H locs (cells + 17) (slots + 3206) Q (F0 m 3637 ls [])) : W p l e room_1 s m args below meth c H locs cells slots Q (F0 m 3469 ls []) := by
  obtain ⟨_, _, hml, hown, hB⟩ := id hC
  unfold p_case_54 at hq
  refine lv_aload_n hx hb dL_law_3469 rfl (lv_at hl 1 rfl) ?_
  refine lv_aload_n hx hb dL_law_3470 rfl (lv_at hl 0 rfl) ?_
  refine lv_iload hx hb dL_law_3471 (lv_at hl 5 rfl) ?_
  refine lv_iconst (v := (1 : Int32)) hx hb dL_law_3473 (by decide) ?_
  refine lv_iadd hx hb dL_law_3474 ?_
  obtain ⟨v1, ev1, hq⟩ := b_s hq
  refine fs_li hx hb hI ev1 dL_law_3475 ?_
  refine lv_aload_n hx hb dL_law_3476 rfl (lv_at hl 3 rfl) ?_
  obtain ⟨v2, ev2, hq⟩ := b_s hq
  refine gl_i (g_runSW (As := [.ref x1, .int v1, .ref x3]) (rest := []) hC (c_L_outputByte l hl0 V g D cT f n x1 v1 x3 v2 ev2) k_L_outputByte m_1450 rfl rfl ⟨Nat.le_of_ble_eq_true rfl, Nat.le_of_ble_eq_true rfl⟩ hI rfl hl.1 rfl (Nat.le_of_ble_eq_true rfl) dL_law_3477 ⟨(by have := hcap.1; show _ ≤ 601024; omega), (by have := hcap.2; show _ ≤ 7293034; omega)⟩) hI (fun H locs n3 hn3 hI => ?_)
  refine lv_istore (lv' := [(6, .int v2.1), (0, .ref x0), (1, .ref x1), (2, .ref x2), (3, .ref x3), (4, .ref x4), (5, .int x5)]) hx hb dL_law_3480 hl (by decide) rfl (fun ls hl => ?_)
  refine lv_aload_n hx hb dL_law_3482 rfl (lv_at hl 3 rfl) ?_
  refine lv_aload_n hx hb dL_law_3483 rfl (lv_at hl 1 rfl) ?_
  refine lv_iload hx hb dL_law_3484 (lv_at hl 6 rfl) ?_
  refine lv_iconst (v := (1 : Int32)) hx hb dL_law_3486 (by decide) ?_
  refine lv_iadd hx hb dL_law_3487 ?_
  obtain ⟨v4, ev4, hq⟩ := b_s hq
  refine fs_li hx hb hI ev4 dL_law_3488 ?_
  obtain ⟨v5, ev5, hq⟩ := b_s hq
  refine gw_i (g_runV (As := [.int v4]) (rest := []) (ci := 10) hC (c_X8_outputByte l V g D cT v2.2 n3 x2 v4 v5 ev5) k_X8_outputByte m_2042 rfl rfl ⟨Nat.le_of_ble_eq_true rfl, Nat.le_of_ble_eq_true rfl⟩ hI rfl rfl (h_me_eq ev5).1 rfl hl.1 rfl (Nat.le_of_ble_eq_true rfl) dL_law_3489 ⟨(by have := hcap.1; show _ ≤ 601024; omega), (by have := hcap.2; show _ ≤ 7293034; omega)⟩) hI (fun H locs hI => ?_)
  refine lv_istore (lv' := [(7, .int v5.1), (6, .int v2.1), (0, .ref x0), (1, .ref x1), (2, .ref x2), (3, .ref x3), (4, .ref x4), (5, .int x5)]) hx hb dL_law_3492 hl (by decide) rfl (fun ls hl => ?_)
  refine lv_aload_n hx hb dL_law_3494 rfl (lv_at hl 4 rfl) ?_
  obtain ⟨v6, ev6, hq⟩ := b_s hq
  refine gr_i (g_runV (As := []) (rest := []) (ci := 10) hC (c_X8_thrown l V g D cT v5.2 n3 x2 v6 ev6) k_X8_thrown m_1610 rfl rfl ⟨Nat.le_of_ble_eq_true rfl, Nat.le_of_ble_eq_true rfl⟩ hI rfl rfl (h_me_eq ev6).1 rfl hl.1 rfl (Nat.le_of_ble_eq_true rfl) dL_law_3495 ⟨(by have := hcap.1; show _ ≤ 601024; omega), (by have := hcap.2; show _ ≤ 7293034; omega)⟩) hI (fun H locs hI => ?_)
  refine lv_iload hx hb dL_law_3498 (lv_at hl 1 rfl) ?_
  refine lv_icmp_eq (tgt := 3505) hx hb dL_law_3500 (by decide) (fun c7 => ?_) (fun c7 => ?_)
  · replace hq := i_t c7 hq
    refine lv_iload hx hb dL_law_3505 (lv_at hl 1 rfl) ?_
    refine lv_if_ne (tgt := 3522) hx hb dL_law_3507 (by decide) (fun c8 => ?_) (fun c8 => ?_)
    · replace hq := i_f c8 hq
      refine lv_goto (tgt := 3637) hx hb dL_law_3522 (by decide) ?_
      obtain rfl := Option.some.inj hq
      refine W.widen (k := cells + 17) (n := slots + 3206) (by omega) (by omega) ?_
      exact kk _ _ _ _ (by omega) hI (lv_sub hl [2, 3, 4, 5, 6, 7] rfl)
    · replace hq := i_t c8 hq
      refine lv_aload_n hx hb dL_law_3510 rfl (lv_at hl 5 rfl) ?_
      refine lv_iconst (v := (0 : Int32)) hx hb dL_law_3511 (by decide) ?_
      obtain ⟨v9, ev9, hq⟩ := b_s hq
      refine fa_ll hx hb hI ev9 dL_law_3512 ?_
      refine lv_iload hx hb dL_law_3513 (lv_at hl 0 rfl) ?_
      refine lv_i2l (v := v5.1.toInt64) hx hb dL_law_3515 rfl ?_
      refine lv_lcmpN hx hb dL_law_3516 ?_
      refine lv_if_eq (tgt := 3522) hx hb dL_law_3517 (by decide) (fun c10 => ?_) (fun c10 => ?_)
      · replace hq := i_t c10 hq
        refine lv_goto (tgt := 3637) hx hb dL_law_3522 (by decide) ?_
        obtain rfl := Option.some.inj hq
        refine W.widen (k := cells + 17) (n := slots + 3206) (by omega) (by omega) ?_
        exact kk _ _ _ _ (by omega) hI (lv_sub hl [2, 3, 4, 5, 6, 7] rfl)
      · replace hq := i_f c10 hq
        refine lv_iconst (v := (0 : Int32)) hx hb dL_law_3520 (by decide) ?_
        cases hq
  · replace hq := i_f c7 hq
    refine lv_iconst (v := (0 : Int32)) hx hb dL_law_3503 (by decide) ?_
    cases hq

set_option maxHeartbeats 4000000 in
set_option maxRecDepth 100000 in
theorem cs_55 {p : Program} {l : Launch} {e : Env} {s : State} {m : MethodId} {args : Array Value} {below : List Frame} {meth : Method} {c : Code} {V : Nat → Nat} {g : GH} {D : va_G} {cT : Nat → ClassId} (hl0 : l.stackTraces = false) (hx : p.tables.exec = Jvm.exec) (hb : c.code = cL_law) (hC : CallFix p m c cL_law 9 s args g_B RL) {Q : State → Prop} {f : GH} {n : Nat} (x0 x1 x2 x3 x4 : Nat) (x5 : Int32) {f1 : GH} (hq : p_case_55 V g f n x0 x1 x2 x3 x4 x5 = some f1) {H : Heap} {locs : List Loc} {cells slots : Nat} {ls : Array Slot} (hcap : cells + 17 ≤ 601024 ∧ slots + 3206 ≤ 7293034) (hI : g_at (g_A V) V g D cT f n s H locs) (hl : lv_has ls 9 [(0, .ref x0), (1, .ref x1), (2, .ref x2), (3, .ref x3), (4, .ref x4), (5, .int x5)])
    (kk : ∀ (H : Heap) (locs : List Loc) (ls : Array Slot) (n1 : Nat), n ≤ n1 → g_at (g_A V) V g D cT f1 n1 s H locs → lv_has ls 9 [(0, .ref x0), (1, .ref x1), (2, .ref x2), (3, .ref x3), (4, .ref x4), (5, .int x5)] → W p l e room_1 s m args below meth c H locs (cells + 17) (slots + 3206) Q (F0 m 3637 ls [])) : W p l e room_1 s m args below meth c H locs cells slots Q (F0 m 3525 ls []) := by
  obtain ⟨_, _, hml, hown, hB⟩ := id hC
  unfold p_case_55 at hq
  refine lv_aload_n hx hb dL_law_3525 rfl (lv_at hl 1 rfl) ?_
  obtain ⟨v1, ev1, hq⟩ := b_s hq
  refine gr_i (g_runV (As := []) (rest := []) (ci := 9) hC (c_X7_undoableCount l V g D cT f n x1 v1 ev1) k_X7_undoableCount m_598 rfl rfl ⟨Nat.le_of_ble_eq_true rfl, Nat.le_of_ble_eq_true rfl⟩ hI rfl rfl (h_me_eq ev1).1 rfl hl.1 rfl (Nat.le_of_ble_eq_true rfl) dL_law_3526 ⟨(by have := hcap.1; show _ ≤ 601024; omega), (by have := hcap.2; show _ ≤ 7293034; omega)⟩) hI (fun H locs hI => ?_)
  refine lv_aload_n hx hb dL_law_3529 rfl (lv_at hl 2 rfl) ?_
  obtain ⟨v2, ev2, hq⟩ := b_s hq
  refine gw_i (g_runV (As := []) (rest := [.int v1]) (ci := 10) hC (c_X8_undoableCount l V g D cT f n x2 v2 ev2) k_X8_undoableCount m_2046 rfl rfl ⟨Nat.le_of_ble_eq_true rfl, Nat.le_of_ble_eq_true rfl⟩ hI rfl rfl (h_me_eq ev2).1 rfl hl.1 rfl (Nat.le_of_ble_eq_true rfl) dL_law_3530 ⟨(by have := hcap.1; show _ ≤ 601024; omega), (by have := hcap.2; show _ ≤ 7293034; omega)⟩) hI (fun H locs hI => ?_)
  refine lv_icmp_eq (tgt := 3637) hx hb dL_law_3533 (by decide) (fun c3 => ?_) (fun c3 => ?_)
  · replace hq := i_t c3 hq
    obtain rfl := Option.some.inj hq
    refine W.widen (k := cells + 17) (n := slots + 3206) (by omega) (by omega) ?_
    exact kk _ _ _ _ (by omega) hI (lv_sub hl [0, 1, 2, 3, 4, 5] rfl)
  · replace hq := i_f c3 hq
    refine lv_iconst (v := (0 : Int32)) hx hb dL_law_3536 (by decide) ?_
    cases hq

set_option maxHeartbeats 4000000 in
set_option maxRecDepth 100000 in
theorem cs_56 {p : Program} {l : Launch} {e : Env} {s : State} {m : MethodId} {args : Array Value} {below : List Frame} {meth : Method} {c : Code} {V : Nat → Nat} {g : GH} {D : va_G} {cT : Nat → ClassId} (hl0 : l.stackTraces = false) (hx : p.tables.exec = Jvm.exec) (hb : c.code = cL_law) (hC : CallFix p m c cL_law 9 s args g_B RL) {Q : State → Prop} {f : GH} {n : Nat} (x0 x1 x2 x3 x4 : Nat) (x5 : Int32) {f1 : GH} (hq : p_case_56 V g f n x0 x1 x2 x3 x4 x5 = some f1) {H : Heap} {locs : List Loc} {cells slots : Nat} {ls : Array Slot} (hcap : cells + 17 ≤ 601024 ∧ slots + 3206 ≤ 7293034) (hI : g_at (g_A V) V g D cT f n s H locs) (hl : lv_has ls 9 [(0, .ref x0), (1, .ref x1), (2, .ref x2), (3, .ref x3), (4, .ref x4), (5, .int x5)])
    (kk : ∀ (H : Heap) (locs : List Loc) (ls : Array Slot) (n1 : Nat), n ≤ n1 → g_at (g_A V) V g D cT f1 n1 s H locs → lv_has ls 9 [(0, .ref x0), (1, .ref x1), (2, .ref x2), (3, .ref x3), (4, .ref x4), (5, .int x5)] → W p l e room_1 s m args below meth c H locs (cells + 17) (slots + 3206) Q (F0 m 3637 ls [])) : W p l e room_1 s m args below meth c H locs cells slots Q (F0 m 3538 ls []) := by
  obtain ⟨_, _, hml, hown, hB⟩ := id hC
  unfold p_case_56 at hq
  refine lv_aload_n hx hb dL_law_3538 rfl (lv_at hl 1 rfl) ?_
  refine lv_aload_n hx hb dL_law_3539 rfl (lv_at hl 3 rfl) ?_
  obtain ⟨v1, ev1, hq⟩ := b_s hq
  refine gl_i (g_runSW (As := [.ref x1, .ref x3]) (rest := []) hC (c_L_undo l hl0 V g D cT f n x1 x3 v1 ev1) k_L_undo m_1468 rfl rfl ⟨Nat.le_of_ble_eq_true rfl, Nat.le_of_ble_eq_true rfl⟩ hI rfl hl.1 rfl (Nat.le_of_ble_eq_true rfl) dL_law_3540 ⟨(by have := hcap.1; show _ ≤ 601024; omega), (by have := hcap.2; show _ ≤ 7293034; omega)⟩) hI (fun H locs n2 hn2 hI => ?_)
  refine lv_istore (lv' := [(6, .int v1.1), (0, .ref x0), (1, .ref x1), (2, .ref x2), (3, .ref x3), (4, .ref x4), (5, .int x5)]) hx hb dL_law_3543 hl (by decide) rfl (fun ls hl => ?_)
  refine lv_aload_n hx hb dL_law_3545 rfl (lv_at hl 3 rfl) ?_
  obtain ⟨v3, ev3, hq⟩ := b_s hq
  refine gw_i (g_runV (As := []) (rest := []) (ci := 10) hC (c_X8_undo l V g D cT v1.2 n2 x2 v3 ev3) k_X8_undo m_2050 rfl rfl ⟨Nat.le_of_ble_eq_true rfl, Nat.le_of_ble_eq_true rfl⟩ hI rfl rfl (h_me_eq ev3).1 rfl hl.1 rfl (Nat.le_of_ble_eq_true rfl) dL_law_3546 ⟨(by have := hcap.1; show _ ≤ 601024; omega), (by have := hcap.2; show _ ≤ 7293034; omega)⟩) hI (fun H locs hI => ?_)
  refine lv_istore (lv' := [(7, .int v3.1), (6, .int v1.1), (0, .ref x0), (1, .ref x1), (2, .ref x2), (3, .ref x3), (4, .ref x4), (5, .int x5)]) hx hb dL_law_3549 hl (by decide) rfl (fun ls hl => ?_)
  refine lv_aload_n hx hb dL_law_3551 rfl (lv_at hl 4 rfl) ?_
  obtain ⟨v4, ev4, hq⟩ := b_s hq
  refine gr_i (g_runV (As := []) (rest := []) (ci := 10) hC (c_X8_thrown l V g D cT v3.2 n2 x2 v4 ev4) k_X8_thrown m_1610 rfl rfl ⟨Nat.le_of_ble_eq_true rfl, Nat.le_of_ble_eq_true rfl⟩ hI rfl rfl (h_me_eq ev4).1 rfl hl.1 rfl (Nat.le_of_ble_eq_true rfl) dL_law_3552 ⟨(by have := hcap.1; show _ ≤ 601024; omega), (by have := hcap.2; show _ ≤ 7293034; omega)⟩) hI (fun H locs hI => ?_)
  refine lv_iload hx hb dL_law_3555 (lv_at hl 1 rfl) ?_
  refine lv_icmp_eq (tgt := 3562) hx hb dL_law_3557 (by decide) (fun c5 => ?_) (fun c5 => ?_)
  · replace hq := i_t c5 hq
    refine lv_iload hx hb dL_law_3562 (lv_at hl 1 rfl) ?_
    refine lv_if_ne (tgt := 3579) hx hb dL_law_3564 (by decide) (fun c6 => ?_) (fun c6 => ?_)
    · replace hq := i_f c6 hq
      refine lv_goto (tgt := 3637) hx hb dL_law_3579 (by decide) ?_
      obtain rfl := Option.some.inj hq
      refine W.widen (k := cells + 17) (n := slots + 3206) (by omega) (by omega) ?_
      exact kk _ _ _ _ (by omega) hI (lv_sub hl [2, 3, 4, 5, 6, 7] rfl)
    · replace hq := i_t c6 hq
      refine lv_aload_n hx hb dL_law_3567 rfl (lv_at hl 5 rfl) ?_
      refine lv_iconst (v := (0 : Int32)) hx hb dL_law_3568 (by decide) ?_
      obtain ⟨v7, ev7, hq⟩ := b_s hq
      refine fa_ll hx hb hI ev7 dL_law_3569 ?_
      refine lv_iload hx hb dL_law_3570 (lv_at hl 0 rfl) ?_
      refine lv_i2l (v := v3.1.toInt64) hx hb dL_law_3572 rfl ?_
      refine lv_lcmpN hx hb dL_law_3573 ?_
      refine lv_if_eq (tgt := 3579) hx hb dL_law_3574 (by decide) (fun c8 => ?_) (fun c8 => ?_)
      · replace hq := i_t c8 hq
        refine lv_goto (tgt := 3637) hx hb dL_law_3579 (by decide) ?_
        obtain rfl := Option.some.inj hq
        refine W.widen (k := cells + 17) (n := slots + 3206) (by omega) (by omega) ?_
        exact kk _ _ _ _ (by omega) hI (lv_sub hl [2, 3, 4, 5, 6, 7] rfl)
      · replace hq := i_f c8 hq
        refine lv_iconst (v := (0 : Int32)) hx hb dL_law_3577 (by decide) ?_
        cases hq
  · replace hq := i_f c5 hq
    refine lv_iconst (v := (0 : Int32)) hx hb dL_law_3560 (by decide) ?_
    cases hq

set_option maxHeartbeats 4000000 in
set_option maxRecDepth 100000 in
theorem cs_57 {p : Program} {l : Launch} {e : Env} {s : State} {m : MethodId} {args : Array Value} {below : List Frame} {meth : Method} {c : Code} {V : Nat → Nat} {g : GH} {D : va_G} {cT : Nat → ClassId} (hl0 : l.stackTraces = false) (hx : p.tables.exec = Jvm.exec) (hb : c.code = cL_law) (hC : CallFix p m c cL_law 9 s args g_B RL) {Q : State → Prop} {f : GH} {n : Nat} (x0 x1 x2 x3 x4 : Nat) (x5 : Int32) {f1 : GH} (hq : p_case_57 V g f n x0 x1 x2 x3 x4 x5 = some f1) {H : Heap} {locs : List Loc} {cells slots : Nat} {ls : Array Slot} (hcap : cells + 17 ≤ 601024 ∧ slots + 3206 ≤ 7293034) (hI : g_at (g_A V) V g D cT f n s H locs) (hl : lv_has ls 9 [(0, .ref x0), (1, .ref x1), (2, .ref x2), (3, .ref x3), (4, .ref x4), (5, .int x5)])
    (kk : ∀ (H : Heap) (locs : List Loc) (ls : Array Slot) (n1 : Nat), n ≤ n1 → g_at (g_A V) V g D cT f1 n1 s H locs → lv_has ls 9 [(0, .ref x0), (1, .ref x1), (2, .ref x2), (3, .ref x3), (4, .ref x4), (5, .int x5)] → W p l e room_1 s m args below meth c H locs (cells + 17) (slots + 3206) Q (F0 m 3637 ls [])) : W p l e room_1 s m args below meth c H locs cells slots Q (F0 m 3582 ls []) := by
  obtain ⟨_, _, hml, hown, hB⟩ := id hC
  unfold p_case_57 at hq
  refine lv_aload_n hx hb dL_law_3582 rfl (lv_at hl 1 rfl) ?_
  obtain ⟨v1, ev1, hq⟩ := b_s hq
  refine gw_v (g_runV (As := []) (rest := []) (ci := 9) hC (c_X7_saveSnapshot l V g D cT f n x1 v1 ev1) k_X7_saveSnapshot m_602 rfl rfl ⟨Nat.le_of_ble_eq_true rfl, Nat.le_of_ble_eq_true rfl⟩ hI rfl rfl (h_me_eq ev1).1 rfl hl.1 rfl (Nat.le_of_ble_eq_true rfl) dL_law_3583 ⟨(by have := hcap.1; show _ ≤ 601024; omega), (by have := hcap.2; show _ ≤ 7293034; omega)⟩) hI (fun H locs hI => ?_)
  refine lv_aload_n hx hb dL_law_3586 rfl (lv_at hl 2 rfl) ?_
  obtain ⟨v2, ev2, hq⟩ := b_s hq
  refine gw_v (g_runV (As := []) (rest := []) (ci := 10) hC (c_X8_saveSnapshot l V g D cT v1 n x2 v2 ev2) k_X8_saveSnapshot m_2054 rfl rfl ⟨Nat.le_of_ble_eq_true rfl, Nat.le_of_ble_eq_true rfl⟩ hI rfl rfl (h_me_eq ev2).1 rfl hl.1 rfl (Nat.le_of_ble_eq_true rfl) dL_law_3587 ⟨(by have := hcap.1; show _ ≤ 601024; omega), (by have := hcap.2; show _ ≤ 7293034; omega)⟩) hI (fun H locs hI => ?_)
  refine lv_goto (tgt := 3637) hx hb dL_law_3590 (by decide) ?_
  obtain rfl := Option.some.inj hq
  refine W.widen (k := cells + 17) (n := slots + 3206) (by omega) (by omega) ?_
  exact kk _ _ _ _ (by omega) hI (lv_sub hl [0, 1, 2, 3, 4, 5] rfl)

set_option maxHeartbeats 4000000 in
set_option maxRecDepth 100000 in
theorem cs_58 {p : Program} {l : Launch} {e : Env} {s : State} {m : MethodId} {args : Array Value} {below : List Frame} {meth : Method} {c : Code} {V : Nat → Nat} {g : GH} {D : va_G} {cT : Nat → ClassId} (hl0 : l.stackTraces = false) (hx : p.tables.exec = Jvm.exec) (hb : c.code = cL_law) (hC : CallFix p m c cL_law 9 s args g_B RL) {Q : State → Prop} {f : GH} {n : Nat} (x0 x1 x2 x3 x4 : Nat) (x5 : Int32) {f1 : GH} (hq : p_case_58 V g f n x0 x1 x2 x3 x4 x5 = some f1) {H : Heap} {locs : List Loc} {cells slots : Nat} {ls : Array Slot} (hcap : cells + 17 ≤ 601024 ∧ slots + 3206 ≤ 7293034) (hI : g_at (g_A V) V g D cT f n s H locs) (hl : lv_has ls 9 [(0, .ref x0), (1, .ref x1), (2, .ref x2), (3, .ref x3), (4, .ref x4), (5, .int x5)])
    (kk : ∀ (H : Heap) (locs : List Loc) (ls : Array Slot) (n1 : Nat), n ≤ n1 → g_at (g_A V) V g D cT f1 n1 s H locs → lv_has ls 9 [(0, .ref x0), (1, .ref x1), (2, .ref x2), (3, .ref x3), (4, .ref x4), (5, .int x5)] → W p l e room_1 s m args below meth c H locs (cells + 17) (slots + 3206) Q (F0 m 3637 ls [])) : W p l e room_1 s m args below meth c H locs cells slots Q (F0 m 3593 ls []) := by
  obtain ⟨_, _, hml, hown, hB⟩ := id hC
  unfold p_case_58 at hq
  refine lv_aload_n hx hb dL_law_3593 rfl (lv_at hl 1 rfl) ?_
  refine lv_aload_n hx hb dL_law_3594 rfl (lv_at hl 3 rfl) ?_
  obtain ⟨v1, ev1, hq⟩ := b_s hq
  refine gl_i (g_runSW (As := [.ref x1, .ref x3]) (rest := []) hC (c_L_restoreSnapshot l hl0 V g D cT f n x1 x3 v1 ev1) k_L_restoreSnapshot m_1476 rfl rfl ⟨Nat.le_of_ble_eq_true rfl, Nat.le_of_ble_eq_true rfl⟩ hI rfl hl.1 rfl (Nat.le_of_ble_eq_true rfl) dL_law_3595 ⟨(by have := hcap.1; show _ ≤ 601024; omega), (by have := hcap.2; show _ ≤ 7293034; omega)⟩) hI (fun H locs n2 hn2 hI => ?_)
  refine lv_istore (lv' := [(6, .int v1.1), (0, .ref x0), (1, .ref x1), (2, .ref x2), (3, .ref x3), (4, .ref x4), (5, .int x5)]) hx hb dL_law_3598 hl (by decide) rfl (fun ls hl => ?_)
  refine lv_aload_n hx hb dL_law_3600 rfl (lv_at hl 3 rfl) ?_
  obtain ⟨v3, ev3, hq⟩ := b_s hq
  refine gw_i (g_runV (As := []) (rest := []) (ci := 10) hC (c_X8_restoreSnapshot l V g D cT v1.2 n2 x2 v3 ev3) k_X8_restoreSnapshot m_2058 rfl rfl ⟨Nat.le_of_ble_eq_true rfl, Nat.le_of_ble_eq_true rfl⟩ hI rfl rfl (h_me_eq ev3).1 rfl hl.1 rfl (Nat.le_of_ble_eq_true rfl) dL_law_3601 ⟨(by have := hcap.1; show _ ≤ 601024; omega), (by have := hcap.2; show _ ≤ 7293034; omega)⟩) hI (fun H locs hI => ?_)
  refine lv_istore (lv' := [(7, .int v3.1), (6, .int v1.1), (0, .ref x0), (1, .ref x1), (2, .ref x2), (3, .ref x3), (4, .ref x4), (5, .int x5)]) hx hb dL_law_3604 hl (by decide) rfl (fun ls hl => ?_)
  refine lv_aload_n hx hb dL_law_3606 rfl (lv_at hl 4 rfl) ?_
  obtain ⟨v4, ev4, hq⟩ := b_s hq
  refine gr_i (g_runV (As := []) (rest := []) (ci := 10) hC (c_X8_thrown l V g D cT v3.2 n2 x2 v4 ev4) k_X8_thrown m_1610 rfl rfl ⟨Nat.le_of_ble_eq_true rfl, Nat.le_of_ble_eq_true rfl⟩ hI rfl rfl (h_me_eq ev4).1 rfl hl.1 rfl (Nat.le_of_ble_eq_true rfl) dL_law_3607 ⟨(by have := hcap.1; show _ ≤ 601024; omega), (by have := hcap.2; show _ ≤ 7293034; omega)⟩) hI (fun H locs hI => ?_)
  refine lv_iload hx hb dL_law_3610 (lv_at hl 1 rfl) ?_
  refine lv_icmp_eq (tgt := 3617) hx hb dL_law_3612 (by decide) (fun c5 => ?_) (fun c5 => ?_)
  · replace hq := i_t c5 hq
    refine lv_iload hx hb dL_law_3617 (lv_at hl 1 rfl) ?_
    refine lv_if_ne (tgt := 3634) hx hb dL_law_3619 (by decide) (fun c6 => ?_) (fun c6 => ?_)
    · replace hq := i_f c6 hq
      refine lv_goto (tgt := 3637) hx hb dL_law_3634 (by decide) ?_
      obtain rfl := Option.some.inj hq
      refine W.widen (k := cells + 17) (n := slots + 3206) (by omega) (by omega) ?_
      exact kk _ _ _ _ (by omega) hI (lv_sub hl [2, 3, 4, 5, 6, 7] rfl)
    · replace hq := i_t c6 hq
      refine lv_aload_n hx hb dL_law_3622 rfl (lv_at hl 5 rfl) ?_
      refine lv_iconst (v := (0 : Int32)) hx hb dL_law_3623 (by decide) ?_
      obtain ⟨v7, ev7, hq⟩ := b_s hq
      refine fa_ll hx hb hI ev7 dL_law_3624 ?_
      refine lv_iload hx hb dL_law_3625 (lv_at hl 0 rfl) ?_
      refine lv_i2l (v := v3.1.toInt64) hx hb dL_law_3627 rfl ?_
      refine lv_lcmpN hx hb dL_law_3628 ?_
      refine lv_if_eq (tgt := 3634) hx hb dL_law_3629 (by decide) (fun c8 => ?_) (fun c8 => ?_)
      · replace hq := i_t c8 hq
        refine lv_goto (tgt := 3637) hx hb dL_law_3634 (by decide) ?_
        obtain rfl := Option.some.inj hq
        refine W.widen (k := cells + 17) (n := slots + 3206) (by omega) (by omega) ?_
        exact kk _ _ _ _ (by omega) hI (lv_sub hl [2, 3, 4, 5, 6, 7] rfl)
      · replace hq := i_f c8 hq
        refine lv_iconst (v := (0 : Int32)) hx hb dL_law_3632 (by decide) ?_
        cases hq
  · replace hq := i_f c5 hq
    refine lv_iconst (v := (0 : Int32)) hx hb dL_law_3615 (by decide) ?_
    cases hq

set_option maxHeartbeats 4000000 in
set_option maxRecDepth 100000 in
theorem law_turn {p : Program} {l : Launch} {e : Env} {s : State} {m : MethodId} {args : Array Value} {below : List Frame} {meth : Method} {c : Code} {V : Nat → Nat} {g : GH} {D : va_G} {cT : Nat → ClassId} (hl0 : l.stackTraces = false) (hx : p.tables.exec = Jvm.exec) (hb : c.code = cL_law) (hC : CallFix p m c cL_law 9 s args g_B RL) {Q : State → Prop} {f : GH} {n : Nat} (x0 x1 x2 x3 x4 : Nat) (x5 : Int32) {f1 : GH} (hq : p_step V g f n x0 x1 x2 x3 x4 x5 = some f1) {H : Heap} {locs : List Loc} {cells slots : Nat} {ls : Array Slot} (hcap : cells + 17 ≤ 601024 ∧ slots + 3206 ≤ 7293034) (hI : g_at (g_A V) V g D cT f n s H locs) (hl : lv_has ls 9 [(0, .ref x0), (1, .ref x1), (2, .ref x2), (3, .ref x3), (4, .ref x4), (5, .int x5)])
    (kk : ∀ (H : Heap) (locs : List Loc) (ls : Array Slot) (n1 : Nat), n ≤ n1 → g_at (g_A V) V g D cT f1 n1 s H locs → lv_has ls 9 [(0, .ref x0), (1, .ref x1), (2, .ref x2), (3, .ref x3), (4, .ref x4), (5, .int x5)] → W p l e room_1 s m args below meth c H locs (cells + 17) (slots + 3206) Q (F0 m 3637 ls [])) : W p l e room_1 s m args below meth c H locs cells slots Q (F0 m 38 ls []) := by
  obtain ⟨_, _, hml, hown, hB⟩ := id hC
  unfold p_step at hq
  refine lv_aload_n hx hb dL_law_38 rfl (lv_at hl 0 rfl) ?_
  refine lv_iload hx hb dL_law_39 (lv_at hl 5 rfl) ?_
  obtain ⟨v, ev, hq⟩ := b_s hq
  refine fs_li hx hb hI ev dL_law_41 ?_
  refine lv_bipush (v := (63 : Int32)) hx hb dL_law_42 (by decide) ?_
  refine lv_iand hx hb dL_law_44 ?_
  by_cases c0 : v &&& (63 : Int32) = (0 : Int32)
  · replace hq := i_t c0 hq
    refine lv_tableIn (off := 251) (tgt := 296) hx hb dL_law_45 (by rw [c0]; decide) (by rw [c0]; decide) (by rw [c0]; decide) (by decide) ?_
    exact cs_0 hl0 hx hb hC x0 x1 x2 x3 x4 x5 hq hcap hI hl kk
  replace hq := i_f c0 hq
  by_cases c1 : v &&& (63 : Int32) = (1 : Int32)
  · replace hq := i_t c1 hq
    refine lv_tableIn (off := 324) (tgt := 369) hx hb dL_law_45 (by rw [c1]; decide) (by rw [c1]; decide) (by rw [c1]; decide) (by decide) ?_
    exact cs_1 hl0 hx hb hC x0 x1 x2 x3 x4 x5 hq hcap hI hl kk
  replace hq := i_f c1 hq
  by_cases c2 : v &&& (63 : Int32) = (2 : Int32)
  · replace hq := i_t c2 hq
    refine lv_tableIn (off := 380) (tgt := 425) hx hb dL_law_45 (by rw [c2]; decide) (by rw [c2]; decide) (by rw [c2]; decide) (by decide) ?_
    exact cs_2 hl0 hx hb hC x0 x1 x2 x3 x4 x5 hq hcap hI hl kk
  replace hq := i_f c2 hq
  by_cases c3 : v &&& (63 : Int32) = (3 : Int32)
  · replace hq := i_t c3 hq
    refine lv_tableIn (off := 393) (tgt := 438) hx hb dL_law_45 (by rw [c3]; decide) (by rw [c3]; decide) (by rw [c3]; decide) (by decide) ?_
    exact cs_3 hl0 hx hb hC x0 x1 x2 x3 x4 x5 hq hcap hI hl kk
  replace hq := i_f c3 hq
  by_cases c4 : v &&& (63 : Int32) = (4 : Int32)
  · replace hq := i_t c4 hq
    refine lv_tableIn (off := 406) (tgt := 451) hx hb dL_law_45 (by rw [c4]; decide) (by rw [c4]; decide) (by rw [c4]; decide) (by decide) ?_
    exact cs_4 hl0 hx hb hC x0 x1 x2 x3 x4 x5 hq hcap hI hl kk
  replace hq := i_f c4 hq
  by_cases c5 : v &&& (63 : Int32) = (5 : Int32)
  · replace hq := i_t c5 hq
    refine lv_tableIn (off := 419) (tgt := 464) hx hb dL_law_45 (by rw [c5]; decide) (by rw [c5]; decide) (by rw [c5]; decide) (by decide) ?_
    exact cs_5 hl0 hx hb hC x0 x1 x2 x3 x4 x5 hq hcap hI hl kk
  replace hq := i_f c5 hq
  by_cases c6 : v &&& (63 : Int32) = (6 : Int32)
  · replace hq := i_t c6 hq
    refine lv_tableIn (off := 432) (tgt := 477) hx hb dL_law_45 (by rw [c6]; decide) (by rw [c6]; decide) (by rw [c6]; decide) (by decide) ?_
    exact cs_6 hl0 hx hb hC x0 x1 x2 x3 x4 x5 hq hcap hI hl kk
  replace hq := i_f c6 hq
  by_cases c7 : v &&& (63 : Int32) = (7 : Int32)
  · replace hq := i_t c7 hq
    refine lv_tableIn (off := 495) (tgt := 540) hx hb dL_law_45 (by rw [c7]; decide) (by rw [c7]; decide) (by rw [c7]; decide) (by decide) ?_
    exact cs_7 hl0 hx hb hC x0 x1 x2 x3 x4 x5 hq hcap hI hl kk
  replace hq := i_f c7 hq
  by_cases c8 : v &&& (63 : Int32) = (8 : Int32)
  · replace hq := i_t c8 hq
    refine lv_tableIn (off := 551) (tgt := 596) hx hb dL_law_45 (by rw [c8]; decide) (by rw [c8]; decide) (by rw [c8]; decide) (by decide) ?_
    exact cs_8 hl0 hx hb hC x0 x1 x2 x3 x4 x5 hq hcap hI hl kk
  replace hq := i_f c8 hq
  by_cases c9 : v &&& (63 : Int32) = (9 : Int32)
  · replace hq := i_t c9 hq
    refine lv_tableIn (off := 619) (tgt := 664) hx hb dL_law_45 (by rw [c9]; decide) (by rw [c9]; decide) (by rw [c9]; decide) (by decide) ?_
    exact cs_9 hl0 hx hb hC x0 x1 x2 x3 x4 x5 hq hcap hI hl kk
  replace hq := i_f c9 hq
  by_cases c10 : v &&& (63 : Int32) = (10 : Int32)
  · replace hq := i_t c10 hq
    refine lv_tableIn (off := 687) (tgt := 732) hx hb dL_law_45 (by rw [c10]; decide) (by rw [c10]; decide) (by rw [c10]; decide) (by decide) ?_
    exact cs_10 hl0 hx hb hC x0 x1 x2 x3 x4 x5 hq hcap hI hl kk
  replace hq := i_f c10 hq
  by_cases c11 : v &&& (63 : Int32) = (11 : Int32)
  · replace hq := i_t c11 hq
    refine lv_tableIn (off := 767) (tgt := 812) hx hb dL_law_45 (by rw [c11]; decide) (by rw [c11]; decide) (by rw [c11]; decide) (by decide) ?_
    exact cs_11 hl0 hx hb hC x0 x1 x2 x3 x4 x5 hq hcap hI hl kk
  replace hq := i_f c11 hq
  by_cases c12 : v &&& (63 : Int32) = (12 : Int32)
  · replace hq := i_t c12 hq
    refine lv_tableIn (off := 847) (tgt := 892) hx hb dL_law_45 (by rw [c12]; decide) (by rw [c12]; decide) (by rw [c12]; decide) (by decide) ?_
    exact cs_12 hl0 hx hb hC x0 x1 x2 x3 x4 x5 hq hcap hI hl kk
  replace hq := i_f c12 hq
  by_cases c13 : v &&& (63 : Int32) = (13 : Int32)
  · replace hq := i_t c13 hq
    refine lv_tableIn (off := 915) (tgt := 960) hx hb dL_law_45 (by rw [c13]; decide) (by rw [c13]; decide) (by rw [c13]; decide) (by decide) ?_
    exact cs_13 hl0 hx hb hC x0 x1 x2 x3 x4 x5 hq hcap hI hl kk
  replace hq := i_f c13 hq
  by_cases c14 : v &&& (63 : Int32) = (14 : Int32)
  · replace hq := i_t c14 hq
    refine lv_tableIn (off := 983) (tgt := 1028) hx hb dL_law_45 (by rw [c14]; decide) (by rw [c14]; decide) (by rw [c14]; decide) (by decide) ?_
    exact cs_14 hl0 hx hb hC x0 x1 x2 x3 x4 x5 hq hcap hI hl kk
  replace hq := i_f c14 hq
  by_cases c15 : v &&& (63 : Int32) = (15 : Int32)
  · replace hq := i_t c15 hq
    refine lv_tableIn (off := 1063) (tgt := 1108) hx hb dL_law_45 (by rw [c15]; decide) (by rw [c15]; decide) (by rw [c15]; decide) (by decide) ?_
    exact cs_15 hl0 hx hb hC x0 x1 x2 x3 x4 x5 hq hcap hI hl kk
  replace hq := i_f c15 hq
  by_cases c16 : v &&& (63 : Int32) = (16 : Int32)
  · replace hq := i_t c16 hq
    refine lv_tableIn (off := 1143) (tgt := 1188) hx hb dL_law_45 (by rw [c16]; decide) (by rw [c16]; decide) (by rw [c16]; decide) (by decide) ?_
    exact cs_16 hl0 hx hb hC x0 x1 x2 x3 x4 x5 hq hcap hI hl kk
  replace hq := i_f c16 hq
  by_cases c17 : v &&& (63 : Int32) = (17 : Int32)
  · replace hq := i_t c17 hq
    refine lv_tableIn (off := 1211) (tgt := 1256) hx hb dL_law_45 (by rw [c17]; decide) (by rw [c17]; decide) (by rw [c17]; decide) (by decide) ?_
    exact cs_17 hl0 hx hb hC x0 x1 x2 x3 x4 x5 hq hcap hI hl kk
  replace hq := i_f c17 hq
  by_cases c18 : v &&& (63 : Int32) = (18 : Int32)
  · replace hq := i_t c18 hq
    refine lv_tableIn (off := 1279) (tgt := 1324) hx hb dL_law_45 (by rw [c18]; decide) (by rw [c18]; decide) (by rw [c18]; decide) (by decide) ?_
    exact cs_18 hl0 hx hb hC x0 x1 x2 x3 x4 x5 hq hcap hI hl kk
  replace hq := i_f c18 hq
  by_cases c19 : v &&& (63 : Int32) = (19 : Int32)
  · replace hq := i_t c19 hq
    refine lv_tableIn (off := 1335) (tgt := 1380) hx hb dL_law_45 (by rw [c19]; decide) (by rw [c19]; decide) (by rw [c19]; decide) (by decide) ?_
    exact cs_19 hl0 hx hb hC x0 x1 x2 x3 x4 x5 hq hcap hI hl kk
  replace hq := i_f c19 hq
  by_cases c20 : v &&& (63 : Int32) = (20 : Int32)
  · replace hq := i_t c20 hq
    refine lv_tableIn (off := 1403) (tgt := 1448) hx hb dL_law_45 (by rw [c20]; decide) (by rw [c20]; decide) (by rw [c20]; decide) (by decide) ?_
    exact cs_20 hl0 hx hb hC x0 x1 x2 x3 x4 x5 hq hcap hI hl kk
  replace hq := i_f c20 hq
  by_cases c21 : v &&& (63 : Int32) = (21 : Int32)
  · replace hq := i_t c21 hq
    refine lv_tableIn (off := 1459) (tgt := 1504) hx hb dL_law_45 (by rw [c21]; decide) (by rw [c21]; decide) (by rw [c21]; decide) (by decide) ?_
    exact cs_21 hl0 hx hb hC x0 x1 x2 x3 x4 x5 hq hcap hI hl kk
  replace hq := i_f c21 hq
  by_cases c22 : v &&& (63 : Int32) = (22 : Int32)
  · replace hq := i_t c22 hq
    refine lv_tableIn (off := 1515) (tgt := 1560) hx hb dL_law_45 (by rw [c22]; decide) (by rw [c22]; decide) (by rw [c22]; decide) (by decide) ?_
    exact cs_22 hl0 hx hb hC x0 x1 x2 x3 x4 x5 hq hcap hI hl kk
  replace hq := i_f c22 hq
  by_cases c23 : v &&& (63 : Int32) = (23 : Int32)
  · replace hq := i_t c23 hq
    refine lv_tableIn (off := 1571) (tgt := 1616) hx hb dL_law_45 (by rw [c23]; decide) (by rw [c23]; decide) (by rw [c23]; decide) (by decide) ?_
    exact cs_23 hl0 hx hb hC x0 x1 x2 x3 x4 x5 hq hcap hI hl kk
  replace hq := i_f c23 hq
  by_cases c24 : v &&& (63 : Int32) = (24 : Int32)
  · replace hq := i_t c24 hq
    refine lv_tableIn (off := 1660) (tgt := 1705) hx hb dL_law_45 (by rw [c24]; decide) (by rw [c24]; decide) (by rw [c24]; decide) (by decide) ?_
    exact cs_24 hl0 hx hb hC x0 x1 x2 x3 x4 x5 hq hcap hI hl kk
  replace hq := i_f c24 hq
  by_cases c25 : v &&& (63 : Int32) = (25 : Int32)
  · replace hq := i_t c25 hq
    refine lv_tableIn (off := 1750) (tgt := 1795) hx hb dL_law_45 (by rw [c25]; decide) (by rw [c25]; decide) (by rw [c25]; decide) (by decide) ?_
    exact cs_25 hl0 hx hb hC x0 x1 x2 x3 x4 x5 hq hcap hI hl kk
  replace hq := i_f c25 hq
  by_cases c26 : v &&& (63 : Int32) = (26 : Int32)
  · replace hq := i_t c26 hq
    refine lv_tableIn (off := 1806) (tgt := 1851) hx hb dL_law_45 (by rw [c26]; decide) (by rw [c26]; decide) (by rw [c26]; decide) (by decide) ?_
    exact cs_26 hl0 hx hb hC x0 x1 x2 x3 x4 x5 hq hcap hI hl kk
  replace hq := i_f c26 hq
  by_cases c27 : v &&& (63 : Int32) = (27 : Int32)
  · replace hq := i_t c27 hq
    refine lv_tableIn (off := 1869) (tgt := 1914) hx hb dL_law_45 (by rw [c27]; decide) (by rw [c27]; decide) (by rw [c27]; decide) (by decide) ?_
    exact cs_27 hl0 hx hb hC x0 x1 x2 x3 x4 x5 hq hcap hI hl kk
  replace hq := i_f c27 hq
  by_cases c28 : v &&& (63 : Int32) = (28 : Int32)
  · replace hq := i_t c28 hq
    refine lv_tableIn (off := 1956) (tgt := 2001) hx hb dL_law_45 (by rw [c28]; decide) (by rw [c28]; decide) (by rw [c28]; decide) (by decide) ?_
    exact cs_28 hl0 hx hb hC x0 x1 x2 x3 x4 x5 hq hcap hI hl kk
  replace hq := i_f c28 hq
  by_cases c29 : v &&& (63 : Int32) = (29 : Int32)
  · replace hq := i_t c29 hq
    refine lv_tableIn (off := 2031) (tgt := 2076) hx hb dL_law_45 (by rw [c29]; decide) (by rw [c29]; decide) (by rw [c29]; decide) (by decide) ?_
    exact cs_29 hl0 hx hb hC x0 x1 x2 x3 x4 x5 hq hcap hI hl kk
  replace hq := i_f c29 hq
  by_cases c30 : v &&& (63 : Int32) = (30 : Int32)
  · replace hq := i_t c30 hq
    refine lv_tableIn (off := 2087) (tgt := 2132) hx hb dL_law_45 (by rw [c30]; decide) (by rw [c30]; decide) (by rw [c30]; decide) (by decide) ?_
    exact cs_30 hl0 hx hb hC x0 x1 x2 x3 x4 x5 hq hcap hI hl kk
  replace hq := i_f c30 hq
  by_cases c31 : v &&& (63 : Int32) = (31 : Int32)
  · replace hq := i_t c31 hq
    refine lv_tableIn (off := 2143) (tgt := 2188) hx hb dL_law_45 (by rw [c31]; decide) (by rw [c31]; decide) (by rw [c31]; decide) (by decide) ?_
    exact cs_31 hl0 hx hb hC x0 x1 x2 x3 x4 x5 hq hcap hI hl kk
  replace hq := i_f c31 hq
  by_cases c32 : v &&& (63 : Int32) = (32 : Int32)
  · replace hq := i_t c32 hq
    refine lv_tableIn (off := 2199) (tgt := 2244) hx hb dL_law_45 (by rw [c32]; decide) (by rw [c32]; decide) (by rw [c32]; decide) (by decide) ?_
    exact cs_32 hl0 hx hb hC x0 x1 x2 x3 x4 x5 hq hcap hI hl kk
  replace hq := i_f c32 hq
  by_cases c33 : v &&& (63 : Int32) = (33 : Int32)
  · replace hq := i_t c33 hq
    refine lv_tableIn (off := 2255) (tgt := 2300) hx hb dL_law_45 (by rw [c33]; decide) (by rw [c33]; decide) (by rw [c33]; decide) (by decide) ?_
    exact cs_33 hl0 hx hb hC x0 x1 x2 x3 x4 x5 hq hcap hI hl kk
  replace hq := i_f c33 hq
  by_cases c34 : v &&& (63 : Int32) = (34 : Int32)
  · replace hq := i_t c34 hq
    refine lv_tableIn (off := 2323) (tgt := 2368) hx hb dL_law_45 (by rw [c34]; decide) (by rw [c34]; decide) (by rw [c34]; decide) (by decide) ?_
    exact cs_34 hl0 hx hb hC x0 x1 x2 x3 x4 x5 hq hcap hI hl kk
  replace hq := i_f c34 hq
  by_cases c35 : v &&& (63 : Int32) = (35 : Int32)
  · replace hq := i_t c35 hq
    refine lv_tableIn (off := 2403) (tgt := 2448) hx hb dL_law_45 (by rw [c35]; decide) (by rw [c35]; decide) (by rw [c35]; decide) (by decide) ?_
    exact cs_35 hl0 hx hb hC x0 x1 x2 x3 x4 x5 hq hcap hI hl kk
  replace hq := i_f c35 hq
  by_cases c36 : v &&& (63 : Int32) = (36 : Int32)
  · replace hq := i_t c36 hq
    refine lv_tableIn (off := 2471) (tgt := 2516) hx hb dL_law_45 (by rw [c36]; decide) (by rw [c36]; decide) (by rw [c36]; decide) (by decide) ?_
    exact cs_36 hl0 hx hb hC x0 x1 x2 x3 x4 x5 hq hcap hI hl kk
  replace hq := i_f c36 hq
  by_cases c37 : v &&& (63 : Int32) = (37 : Int32)
  · replace hq := i_t c37 hq
    refine lv_tableIn (off := 2527) (tgt := 2572) hx hb dL_law_45 (by rw [c37]; decide) (by rw [c37]; decide) (by rw [c37]; decide) (by decide) ?_
    exact cs_37 hl0 hx hb hC x0 x1 x2 x3 x4 x5 hq hcap hI hl kk
  replace hq := i_f c37 hq
  by_cases c38 : v &&& (63 : Int32) = (38 : Int32)
  · replace hq := i_t c38 hq
    refine lv_tableIn (off := 2595) (tgt := 2640) hx hb dL_law_45 (by rw [c38]; decide) (by rw [c38]; decide) (by rw [c38]; decide) (by decide) ?_
    exact cs_38 hl0 hx hb hC x0 x1 x2 x3 x4 x5 hq hcap hI hl kk
  replace hq := i_f c38 hq
  by_cases c39 : v &&& (63 : Int32) = (39 : Int32)
  · replace hq := i_t c39 hq
    refine lv_tableIn (off := 2608) (tgt := 2653) hx hb dL_law_45 (by rw [c39]; decide) (by rw [c39]; decide) (by rw [c39]; decide) (by decide) ?_
    exact cs_39 hl0 hx hb hC x0 x1 x2 x3 x4 x5 hq hcap hI hl kk
  replace hq := i_f c39 hq
  by_cases c40 : v &&& (63 : Int32) = (40 : Int32)
  · replace hq := i_t c40 hq
    refine lv_tableIn (off := 2621) (tgt := 2666) hx hb dL_law_45 (by rw [c40]; decide) (by rw [c40]; decide) (by rw [c40]; decide) (by decide) ?_
    exact cs_40 hl0 hx hb hC x0 x1 x2 x3 x4 x5 hq hcap hI hl kk
  replace hq := i_f c40 hq
  by_cases c41 : v &&& (63 : Int32) = (41 : Int32)
  · replace hq := i_t c41 hq
    refine lv_tableIn (off := 2634) (tgt := 2679) hx hb dL_law_45 (by rw [c41]; decide) (by rw [c41]; decide) (by rw [c41]; decide) (by decide) ?_
    exact cs_41 hl0 hx hb hC x0 x1 x2 x3 x4 x5 hq hcap hI hl kk
  replace hq := i_f c41 hq
  by_cases c42 : v &&& (63 : Int32) = (42 : Int32)
  · replace hq := i_t c42 hq
    refine lv_tableIn (off := 2647) (tgt := 2692) hx hb dL_law_45 (by rw [c42]; decide) (by rw [c42]; decide) (by rw [c42]; decide) (by decide) ?_
    exact cs_42 hl0 hx hb hC x0 x1 x2 x3 x4 x5 hq hcap hI hl kk
  replace hq := i_f c42 hq
  by_cases c43 : v &&& (63 : Int32) = (43 : Int32)
  · replace hq := i_t c43 hq
    refine lv_tableIn (off := 2703) (tgt := 2748) hx hb dL_law_45 (by rw [c43]; decide) (by rw [c43]; decide) (by rw [c43]; decide) (by decide) ?_
    exact cs_43 hl0 hx hb hC x0 x1 x2 x3 x4 x5 hq hcap hI hl kk
  replace hq := i_f c43 hq
  by_cases c44 : v &&& (63 : Int32) = (44 : Int32)
  · replace hq := i_t c44 hq
    refine lv_tableIn (off := 2759) (tgt := 2804) hx hb dL_law_45 (by rw [c44]; decide) (by rw [c44]; decide) (by rw [c44]; decide) (by decide) ?_
    exact cs_44 hl0 hx hb hC x0 x1 x2 x3 x4 x5 hq hcap hI hl kk
  replace hq := i_f c44 hq
  by_cases c45 : v &&& (63 : Int32) = (45 : Int32)
  · replace hq := i_t c45 hq
    refine lv_tableIn (off := 2827) (tgt := 2872) hx hb dL_law_45 (by rw [c45]; decide) (by rw [c45]; decide) (by rw [c45]; decide) (by decide) ?_
    exact cs_45 hl0 hx hb hC x0 x1 x2 x3 x4 x5 hq hcap hI hl kk
  replace hq := i_f c45 hq
  by_cases c46 : v &&& (63 : Int32) = (46 : Int32)
  · replace hq := i_t c46 hq
    refine lv_tableIn (off := 2883) (tgt := 2928) hx hb dL_law_45 (by rw [c46]; decide) (by rw [c46]; decide) (by rw [c46]; decide) (by decide) ?_
    exact cs_46 hl0 hx hb hC x0 x1 x2 x3 x4 x5 hq hcap hI hl kk
  replace hq := i_f c46 hq
  by_cases c47 : v &&& (63 : Int32) = (47 : Int32)
  · replace hq := i_t c47 hq
    refine lv_tableIn (off := 2975) (tgt := 3020) hx hb dL_law_45 (by rw [c47]; decide) (by rw [c47]; decide) (by rw [c47]; decide) (by decide) ?_
    exact cs_47 hl0 hx hb hC x0 x1 x2 x3 x4 x5 hq hcap hI hl kk
  replace hq := i_f c47 hq
  by_cases c48 : v &&& (63 : Int32) = (48 : Int32)
  · replace hq := i_t c48 hq
    refine lv_tableIn (off := 3067) (tgt := 3112) hx hb dL_law_45 (by rw [c48]; decide) (by rw [c48]; decide) (by rw [c48]; decide) (by decide) ?_
    exact cs_48 hl0 hx hb hC x0 x1 x2 x3 x4 x5 hq hcap hI hl kk
  replace hq := i_f c48 hq
  by_cases c49 : v &&& (63 : Int32) = (49 : Int32)
  · replace hq := i_t c49 hq
    refine lv_tableIn (off := 3135) (tgt := 3180) hx hb dL_law_45 (by rw [c49]; decide) (by rw [c49]; decide) (by rw [c49]; decide) (by decide) ?_
    exact cs_49 hl0 hx hb hC x0 x1 x2 x3 x4 x5 hq hcap hI hl kk
  replace hq := i_f c49 hq
  by_cases c50 : v &&& (63 : Int32) = (50 : Int32)
  · replace hq := i_t c50 hq
    refine lv_tableIn (off := 3215) (tgt := 3260) hx hb dL_law_45 (by rw [c50]; decide) (by rw [c50]; decide) (by rw [c50]; decide) (by decide) ?_
    exact cs_50 hl0 hx hb hC x0 x1 x2 x3 x4 x5 hq hcap hI hl kk
  replace hq := i_f c50 hq
  by_cases c51 : v &&& (63 : Int32) = (51 : Int32)
  · replace hq := i_t c51 hq
    refine lv_tableIn (off := 3271) (tgt := 3316) hx hb dL_law_45 (by rw [c51]; decide) (by rw [c51]; decide) (by rw [c51]; decide) (by decide) ?_
    exact cs_51 hl0 hx hb hC x0 x1 x2 x3 x4 x5 hq hcap hI hl kk
  replace hq := i_f c51 hq
  by_cases c52 : v &&& (63 : Int32) = (52 : Int32)
  · replace hq := i_t c52 hq
    refine lv_tableIn (off := 3312) (tgt := 3357) hx hb dL_law_45 (by rw [c52]; decide) (by rw [c52]; decide) (by rw [c52]; decide) (by decide) ?_
    exact cs_52 hl0 hx hb hC x0 x1 x2 x3 x4 x5 hq hcap hI hl kk
  replace hq := i_f c52 hq
  by_cases c53 : v &&& (63 : Int32) = (53 : Int32)
  · replace hq := i_t c53 hq
    refine lv_tableIn (off := 3368) (tgt := 3413) hx hb dL_law_45 (by rw [c53]; decide) (by rw [c53]; decide) (by rw [c53]; decide) (by decide) ?_
    exact cs_53 hl0 hx hb hC x0 x1 x2 x3 x4 x5 hq hcap hI hl kk
  replace hq := i_f c53 hq
  by_cases c54 : v &&& (63 : Int32) = (54 : Int32)
  · replace hq := i_t c54 hq
    refine lv_tableIn (off := 3424) (tgt := 3469) hx hb dL_law_45 (by rw [c54]; decide) (by rw [c54]; decide) (by rw [c54]; decide) (by decide) ?_
    exact cs_54 hl0 hx hb hC x0 x1 x2 x3 x4 x5 hq hcap hI hl kk
  replace hq := i_f c54 hq
  by_cases c55 : v &&& (63 : Int32) = (55 : Int32)
  · replace hq := i_t c55 hq
    refine lv_tableIn (off := 3480) (tgt := 3525) hx hb dL_law_45 (by rw [c55]; decide) (by rw [c55]; decide) (by rw [c55]; decide) (by decide) ?_
    exact cs_55 hl0 hx hb hC x0 x1 x2 x3 x4 x5 hq hcap hI hl kk
  replace hq := i_f c55 hq
  by_cases c56 : v &&& (63 : Int32) = (56 : Int32)
  · replace hq := i_t c56 hq
    refine lv_tableIn (off := 3493) (tgt := 3538) hx hb dL_law_45 (by rw [c56]; decide) (by rw [c56]; decide) (by rw [c56]; decide) (by decide) ?_
    exact cs_56 hl0 hx hb hC x0 x1 x2 x3 x4 x5 hq hcap hI hl kk
  replace hq := i_f c56 hq
  by_cases c57 : v &&& (63 : Int32) = (57 : Int32)
  · replace hq := i_t c57 hq
    refine lv_tableIn (off := 3537) (tgt := 3582) hx hb dL_law_45 (by rw [c57]; decide) (by rw [c57]; decide) (by rw [c57]; decide) (by decide) ?_
    exact cs_57 hl0 hx hb hC x0 x1 x2 x3 x4 x5 hq hcap hI hl kk
  replace hq := i_f c57 hq
  by_cases c58 : v &&& (63 : Int32) = (58 : Int32)
  · replace hq := i_t c58 hq
    refine lv_tableIn (off := 3548) (tgt := 3593) hx hb dL_law_45 (by rw [c58]; decide) (by rw [c58]; decide) (by rw [c58]; decide) (by decide) ?_
    exact cs_58 hl0 hx hb hC x0 x1 x2 x3 x4 x5 hq hcap hI hl kk
  replace hq := i_f c58 hq
  have nc0 := lv_neT (a := 0) c0 rfl
  have nc1 := lv_neT (a := 1) c1 rfl
  have nc2 := lv_neT (a := 2) c2 rfl
  have nc3 := lv_neT (a := 3) c3 rfl
  have nc4 := lv_neT (a := 4) c4 rfl
  have nc5 := lv_neT (a := 5) c5 rfl
  have nc6 := lv_neT (a := 6) c6 rfl
  have nc7 := lv_neT (a := 7) c7 rfl
  have nc8 := lv_neT (a := 8) c8 rfl
  have nc9 := lv_neT (a := 9) c9 rfl
  have nc10 := lv_neT (a := 10) c10 rfl
  have nc11 := lv_neT (a := 11) c11 rfl
  have nc12 := lv_neT (a := 12) c12 rfl
  have nc13 := lv_neT (a := 13) c13 rfl
  have nc14 := lv_neT (a := 14) c14 rfl
  have nc15 := lv_neT (a := 15) c15 rfl
  have nc16 := lv_neT (a := 16) c16 rfl
  have nc17 := lv_neT (a := 17) c17 rfl
  have nc18 := lv_neT (a := 18) c18 rfl
  have nc19 := lv_neT (a := 19) c19 rfl
  have nc20 := lv_neT (a := 20) c20 rfl
  have nc21 := lv_neT (a := 21) c21 rfl
  have nc22 := lv_neT (a := 22) c22 rfl
  have nc23 := lv_neT (a := 23) c23 rfl
  have nc24 := lv_neT (a := 24) c24 rfl
  have nc25 := lv_neT (a := 25) c25 rfl
  have nc26 := lv_neT (a := 26) c26 rfl
  have nc27 := lv_neT (a := 27) c27 rfl
  have nc28 := lv_neT (a := 28) c28 rfl
  have nc29 := lv_neT (a := 29) c29 rfl
  have nc30 := lv_neT (a := 30) c30 rfl
  have nc31 := lv_neT (a := 31) c31 rfl
  have nc32 := lv_neT (a := 32) c32 rfl
  have nc33 := lv_neT (a := 33) c33 rfl
  have nc34 := lv_neT (a := 34) c34 rfl
  have nc35 := lv_neT (a := 35) c35 rfl
  have nc36 := lv_neT (a := 36) c36 rfl
  have nc37 := lv_neT (a := 37) c37 rfl
  have nc38 := lv_neT (a := 38) c38 rfl
  have nc39 := lv_neT (a := 39) c39 rfl
  have nc40 := lv_neT (a := 40) c40 rfl
  have nc41 := lv_neT (a := 41) c41 rfl
  have nc42 := lv_neT (a := 42) c42 rfl
  have nc43 := lv_neT (a := 43) c43 rfl
  have nc44 := lv_neT (a := 44) c44 rfl
  have nc45 := lv_neT (a := 45) c45 rfl
  have nc46 := lv_neT (a := 46) c46 rfl
  have nc47 := lv_neT (a := 47) c47 rfl
  have nc48 := lv_neT (a := 48) c48 rfl
  have nc49 := lv_neT (a := 49) c49 rfl
  have nc50 := lv_neT (a := 50) c50 rfl
  have nc51 := lv_neT (a := 51) c51 rfl
  have nc52 := lv_neT (a := 52) c52 rfl
  have nc53 := lv_neT (a := 53) c53 rfl
  have nc54 := lv_neT (a := 54) c54 rfl
  have nc55 := lv_neT (a := 55) c55 rfl
  have nc56 := lv_neT (a := 56) c56 rfl
  have nc57 := lv_neT (a := 57) c57 rfl
  have nc58 := lv_neT (a := 58) c58 rfl
  refine lv_tableOut (tgt := 3637) hx hb dL_law_45 (by omega) (by decide) ?_
  obtain rfl := Option.some.inj hq
  refine W.widen (k := cells + 17) (n := slots + 3206) (by omega) (by omega) ?_
  exact kk _ _ _ _ (Nat.le_refl _) hI hl

set_option maxHeartbeats 4000000 in
set_option maxRecDepth 100000 in
theorem law_pre {p : Program} {l : Launch} {e : Env} {s : State} {m : MethodId} {args : Array Value} {below : List Frame} {meth : Method} {c : Code} {V : Nat → Nat} {g : GH} {D : va_G} {cT : Nat → ClassId} (hl0 : l.stackTraces = false) (hx : p.tables.exec = Jvm.exec) (hb : c.code = cL_law) (hC : CallFix p m c cL_law 9 s args g_B RL) {Q : State → Prop} {f : GH} {n : Nat} (x0 x1 x2 x3 x4 : Nat) {f1 : GH} {n1 : Nat} (hq : p_law0 V g f n x0 = some (x1, x2, x3, x4, f1, n1)) {H : Heap} {locs : List Loc} {ls : Array Slot} (hI : g_at (g_A V) V g D cT f n s H locs) (hl : lv_has ls 9 [(0, .ref x0)])
    (kk : ∀ (H : Heap) (locs : List Loc) (ls : Array Slot), g_at (g_A V) V g D cT f1 n1 s H locs → lv_has ls 9 [(0, .ref x0), (1, .ref x1), (2, .ref x2), (3, .ref x3), (4, .ref x4), (5, .int 0)] → W p l e room_1 s m args below meth c H locs 328 61054 Q (F0 m 28 ls [])) : W p l e room_1 s m args below meth c H locs 0 0 Q (F0 m 0 ls []) := by
  obtain ⟨_, _, hml, hown, hB⟩ := id hC
  unfold p_law0 at hq
  obtain ⟨f1, ef1, hq⟩ := b_s hq
  refine fa_new (own := RL) (ci := 9) hx hb hB inB_RX7 tyX7_ok hown m_30 m_31 m_1 hI rfl (by decide +kernel) (by decide) (by decide) ef1 dL_law_0 (fun H locs hI => ?_)
  refine lv_dup hx hb dL_law_3 rfl ?_
  obtain ⟨v2, ev2, hq⟩ := b_s hq
  refine gw_v (g_runI (As := []) (rest := [.ref n]) hC (c_X7_init l V g D cT f1 (n + 1) n v2 ev2) k_X7_init m_32 rfl rfl ⟨Nat.le_of_ble_eq_true rfl, Nat.le_of_ble_eq_true rfl⟩ hI rfl hl.1 rfl (Nat.le_of_ble_eq_true rfl) dL_law_4 ⟨by decide, by decide⟩) hI (fun H locs hI => ?_)
  refine lv_astore_n (lv' := [(1, .ref n), (0, .ref x0)]) hx hb dL_law_7 rfl hl (by decide) rfl (fun ls hl => ?_)
  obtain ⟨f3, ef3, hq⟩ := b_s hq
  refine fa_new (own := RL) (ci := 10) hx hb hB inB_RX8 tyX8_ok hown m_1484 m_1485 m_14 hI rfl (by decide +kernel) (by decide) (by decide) ef3 dL_law_8 (fun H locs hI => ?_)
  refine lv_dup hx hb dL_law_11 rfl ?_
  obtain ⟨v4, ev4, hq⟩ := b_s hq
  refine gw_v (g_runI (As := []) (rest := [.ref v2.2]) hC (c_X8_init l V g D cT f3 (v2.2 + 1) v2.2 v4 ev4) k_X8_init m_1486 rfl rfl ⟨Nat.le_of_ble_eq_true rfl, Nat.le_of_ble_eq_true rfl⟩ hI rfl hl.1 rfl (Nat.le_of_ble_eq_true rfl) dL_law_12 ⟨by decide, by decide⟩) hI (fun H locs hI => ?_)
  refine lv_astore_n (lv' := [(2, .ref v2.2), (1, .ref n), (0, .ref x0)]) hx hb dL_law_15 rfl hl (by decide) rfl (fun ls hl => ?_)
  refine lv_iconst (v := (1 : Int32)) hx hb dL_law_16 (by decide) ?_
  obtain ⟨f5, ef5, hq⟩ := b_s hq
  refine fa_newa (atype := .long) (N := 1) (t := 2) hx hb hB m_2204 rfl (by decide) hI (fun _ => rfl) (by decide) (by decide +kernel) (by decide +kernel) (by decide) (by decide) ef5 dL_law_17 (fun H locs hI => ?_)
  refine lv_astore_n (lv' := [(3, .ref v4.2), (2, .ref v2.2), (1, .ref n), (0, .ref x0)]) hx hb dL_law_19 rfl hl (by decide) rfl (fun ls hl => ?_)
  refine lv_iconst (v := (1 : Int32)) hx hb dL_law_20 (by decide) ?_
  obtain ⟨f6, ef6, hq⟩ := b_s hq
  refine fa_newa (atype := .double) (N := 1) (t := 3) hx hb hB m_2205 rfl (by decide) hI (fun _ => rfl) (by decide) (by decide +kernel) (by decide +kernel) (by decide) (by decide) ef6 dL_law_21 (fun H locs hI => ?_)
  refine lv_astore (lv' := [(4, .ref (v4.2 + 1)), (3, .ref v4.2), (2, .ref v2.2), (1, .ref n), (0, .ref x0)]) hx hb dL_law_23 hl (by decide) rfl (fun ls hl => ?_)
  refine lv_iconst (v := (0 : Int32)) hx hb dL_law_25 (by decide) ?_
  refine lv_istore (lv' := [(5, .int (0 : Int32)), (4, .ref (v4.2 + 1)), (3, .ref v4.2), (2, .ref v2.2), (1, .ref n), (0, .ref x0)]) hx hb dL_law_26 hl (by decide) rfl (fun ls hl => ?_)
  cases hq
  exact kk _ _ _ hI (lv_sub hl [5, 4, 3, 2, 1, 0] rfl)


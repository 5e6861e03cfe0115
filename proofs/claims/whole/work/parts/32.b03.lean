set_option maxHeartbeats 4000000 in
set_option maxRecDepth 100000 in
theorem cs_49 {p : Program} {l : Launch} {e : Env} {s : State} {m : MethodId} {args : Array Value} {below : List Frame} {meth : Method} {c : Code} {V : Nat → Nat} {g : GH} {D : va_G} {cT : Nat → ClassId} (hl0 : l.stackTraces = false) (hx : p.tables.exec = Jvm.exec) (hb : c.code = cL_law) (hC : CallFix p m c cL_law 9 s args g_B RL) {Q : State → Prop} {f : GH} {n : Nat} (x0 x1 x2 x3 x4 : Nat) (x5 : Int32) {f1 : GH} (hq : p_case_49 V g f n x0 x1 x2 x3 x4 x5 = some f1) {H : Heap} {locs : List Loc} {cells slots : Nat} {ls : Array Slot} (hcap : cells + 17 ≤ 601024 ∧ slots + 3206 ≤ 7293034) (hI : g_at (g_A V) V g D cT f n s H locs) (hl : lv_has ls 9 [(0, .ref x0), (1, .ref x1), (2, .ref x2), (3, .ref x3), (4, .ref x4), (5, .int x5)])
    (kk : ∀ (H : Heap) (locs : List Loc) (ls : Array Slot) (n1 : Nat), n ≤ n1 → g_at (g_A V) V g D cT f1 n1 s H locs → lv_has ls 9 [(0, .ref x0), (1, .ref x1), (2, .ref x2), (3, .ref x3), (4, .ref x4), (5, .int x5)] → W p l e room_1 s m args below meth c H locs (cells + 17) (slots + 3206) Q (F0 m 3637 ls [])) : W p l e room_1 s m args below meth c H locs cells slots Q (F0 m 3180 ls []) := by
  obtain ⟨_, _, hml, hown, hB⟩ := id hC
  unfold p_case_49 at hq
  refine lv_aload_n hx hb dL_law_3180 rfl (lv_at hl 1 rfl) ?_
  refine lv_aload_n hx hb dL_law_3181 rfl (lv_at hl 0 rfl) ?_
  refine lv_iload hx hb dL_law_3182 (lv_at hl 5 rfl) ?_
  refine lv_iconst (v := (1 : Int32)) hx hb dL_law_3184 (by decide) ?_
  refine lv_iadd hx hb dL_law_3185 ?_
  obtain ⟨v1, ev1, hq⟩ := b_s hq
  refine fs_li hx hb hI ev1 dL_law_3186 ?_
  refine lv_aload_n hx hb dL_law_3187 rfl (lv_at hl 0 rfl) ?_
  refine lv_iload hx hb dL_law_3188 (lv_at hl 5 rfl) ?_
  refine lv_iconst (v := (2 : Int32)) hx hb dL_law_3190 (by decide) ?_
  refine lv_iadd hx hb dL_law_3191 ?_
  obtain ⟨v2, ev2, hq⟩ := b_s hq
  refine fs_li hx hb hI ev2 dL_law_3192 ?_
  refine lv_aload_n hx hb dL_law_3193 rfl (lv_at hl 0 rfl) ?_
  refine lv_iload hx hb dL_law_3194 (lv_at hl 5 rfl) ?_
  refine lv_iconst (v := (3 : Int32)) hx hb dL_law_3196 (by decide) ?_
  refine lv_iadd hx hb dL_law_3197 ?_
  obtain ⟨v3, ev3, hq⟩ := b_s hq
  refine fs_li hx hb hI ev3 dL_law_3198 ?_
  refine lv_aload_n hx hb dL_law_3199 rfl (lv_at hl 3 rfl) ?_
  obtain ⟨v4, ev4, hq⟩ := b_s hq
  refine gl_i (g_runSW (As := [.ref x1, .int v1, .int v2, .int v3, .ref x3]) (rest := []) hC (c_L_shift l hl0 V g D cT f n x1 v1 v2 v3 x3 v4 ev4) k_L_shift m_1142 rfl rfl ⟨Nat.le_of_ble_eq_true rfl, Nat.le_of_ble_eq_true rfl⟩ hI rfl hl.1 rfl (Nat.le_of_ble_eq_true rfl) dL_law_3200 ⟨(by have := hcap.1; show _ ≤ 601024; omega), (by have := hcap.2; show _ ≤ 7293034; omega)⟩) hI (fun H locs n5 hn5 hI => ?_)
  refine lv_istore (lv' := [(6, .int v4.1), (0, .ref x0), (1, .ref x1), (2, .ref x2), (3, .ref x3), (4, .ref x4), (5, .int x5)]) hx hb dL_law_3203 hl (by decide) rfl (fun ls hl => ?_)
  refine lv_aload_n hx hb dL_law_3205 rfl (lv_at hl 3 rfl) ?_
  refine lv_aload_n hx hb dL_law_3206 rfl (lv_at hl 1 rfl) ?_
  refine lv_iload hx hb dL_law_3207 (lv_at hl 6 rfl) ?_
  refine lv_iconst (v := (1 : Int32)) hx hb dL_law_3209 (by decide) ?_
  refine lv_iadd hx hb dL_law_3210 ?_
  obtain ⟨v6, ev6, hq⟩ := b_s hq
  refine fs_li hx hb hI ev6 dL_law_3211 ?_
  refine lv_aload_n hx hb dL_law_3212 rfl (lv_at hl 1 rfl) ?_
  refine lv_iload hx hb dL_law_3213 (lv_at hl 6 rfl) ?_
  refine lv_iconst (v := (2 : Int32)) hx hb dL_law_3215 (by decide) ?_
  refine lv_iadd hx hb dL_law_3216 ?_
  obtain ⟨v7, ev7, hq⟩ := b_s hq
  refine fs_li hx hb hI ev7 dL_law_3217 ?_
  refine lv_aload_n hx hb dL_law_3218 rfl (lv_at hl 1 rfl) ?_
  refine lv_iload hx hb dL_law_3219 (lv_at hl 6 rfl) ?_
  refine lv_iconst (v := (3 : Int32)) hx hb dL_law_3221 (by decide) ?_
  refine lv_iadd hx hb dL_law_3222 ?_
  obtain ⟨v8, ev8, hq⟩ := b_s hq
  refine fs_li hx hb hI ev8 dL_law_3223 ?_
  obtain ⟨v9, ev9, hq⟩ := b_s hq
  refine gw_i (g_runV (As := [.int v6, .int v7, .int v8]) (rest := []) (ci := 10) hC (c_X8_shift l V g D cT v4.2 n5 x2 v6 v7 v8 v9 ev9) k_X8_shift m_1999 rfl rfl ⟨Nat.le_of_ble_eq_true rfl, Nat.le_of_ble_eq_true rfl⟩ hI rfl rfl (h_me_eq ev9).1 rfl hl.1 rfl (Nat.le_of_ble_eq_true rfl) dL_law_3224 ⟨(by have := hcap.1; show _ ≤ 601024; omega), (by have := hcap.2; show _ ≤ 7293034; omega)⟩) hI (fun H locs hI => ?_)
  refine lv_istore (lv' := [(7, .int v9.1), (6, .int v4.1), (0, .ref x0), (1, .ref x1), (2, .ref x2), (3, .ref x3), (4, .ref x4), (5, .int x5)]) hx hb dL_law_3227 hl (by decide) rfl (fun ls hl => ?_)
  refine lv_aload_n hx hb dL_law_3229 rfl (lv_at hl 4 rfl) ?_
  obtain ⟨v10, ev10, hq⟩ := b_s hq
  refine gr_i (g_runV (As := []) (rest := []) (ci := 10) hC (c_X8_thrown l V g D cT v9.2 n5 x2 v10 ev10) k_X8_thrown m_1610 rfl rfl ⟨Nat.le_of_ble_eq_true rfl, Nat.le_of_ble_eq_true rfl⟩ hI rfl rfl (h_me_eq ev10).1 rfl hl.1 rfl (Nat.le_of_ble_eq_true rfl) dL_law_3230 ⟨(by have := hcap.1; show _ ≤ 601024; omega), (by have := hcap.2; show _ ≤ 7293034; omega)⟩) hI (fun H locs hI => ?_)
  refine lv_iload hx hb dL_law_3233 (lv_at hl 1 rfl) ?_
  refine lv_icmp_eq (tgt := 3240) hx hb dL_law_3235 (by decide) (fun c11 => ?_) (fun c11 => ?_)
  · replace hq := i_t c11 hq
    refine lv_iload hx hb dL_law_3240 (lv_at hl 1 rfl) ?_
    refine lv_if_ne (tgt := 3257) hx hb dL_law_3242 (by decide) (fun c12 => ?_) (fun c12 => ?_)
    · replace hq := i_f c12 hq
      refine lv_goto (tgt := 3637) hx hb dL_law_3257 (by decide) ?_
      obtain rfl := Option.some.inj hq
      refine W.widen (k := cells + 17) (n := slots + 3206) (by omega) (by omega) ?_
      exact kk _ _ _ _ (by omega) hI (lv_sub hl [2, 3, 4, 5, 6, 7] rfl)
    · replace hq := i_t c12 hq
      refine lv_aload_n hx hb dL_law_3245 rfl (lv_at hl 5 rfl) ?_
      refine lv_iconst (v := (0 : Int32)) hx hb dL_law_3246 (by decide) ?_
      obtain ⟨v13, ev13, hq⟩ := b_s hq
      refine fa_ll hx hb hI ev13 dL_law_3247 ?_
      refine lv_iload hx hb dL_law_3248 (lv_at hl 0 rfl) ?_
      refine lv_i2l (v := v9.1.toInt64) hx hb dL_law_3250 rfl ?_
      refine lv_lcmpN hx hb dL_law_3251 ?_
      refine lv_if_eq (tgt := 3257) hx hb dL_law_3252 (by decide) (fun c14 => ?_) (fun c14 => ?_)
      · replace hq := i_t c14 hq
        refine lv_goto (tgt := 3637) hx hb dL_law_3257 (by decide) ?_
        obtain rfl := Option.some.inj hq
        refine W.widen (k := cells + 17) (n := slots + 3206) (by omega) (by omega) ?_
        exact kk _ _ _ _ (by omega) hI (lv_sub hl [2, 3, 4, 5, 6, 7] rfl)
      · replace hq := i_f c14 hq
        refine lv_iconst (v := (0 : Int32)) hx hb dL_law_3255 (by decide) ?_
        cases hq
  · replace hq := i_f c11 hq
    refine lv_iconst (v := (0 : Int32)) hx hb dL_law_3238 (by decide) ?_
    cases hq

set_option maxHeartbeats 4000000 in
set_option maxRecDepth 100000 in
theorem cs_50 {p : Program} {l : Launch} {e : Env} {s : State} {m : MethodId} {args : Array Value} {below : List Frame} {meth : Method} {c : Code} {V : Nat → Nat} {g : GH} {D : va_G} {cT : Nat → ClassId} (hl0 : l.stackTraces = false) (hx : p.tables.exec = Jvm.exec) (hb : c.code = cL_law) (hC : CallFix p m c cL_law 9 s args g_B RL) {Q : State → Prop} {f : GH} {n : Nat} (x0 x1 x2 x3 x4 : Nat) (x5 : Int32) {f1 : GH} (hq : p_case_50 V g f n x0 x1 x2 x3 x4 x5 = some f1) {H : Heap} {locs : List Loc} {cells slots : Nat} {ls : Array Slot} (hcap : cells + 17 ≤ 601024 ∧ slots + 3206 ≤ 7293034) (hI : g_at (g_A V) V g D cT f n s H locs) (hl : lv_has ls 9 [(0, .ref x0), (1, .ref x1), (2, .ref x2), (3, .ref x3), (4, .ref x4), (5, .int x5)])
    (kk : ∀ (H : Heap) (locs : List Loc) (ls : Array Slot) (n1 : Nat), n ≤ n1 → g_at (g_A V) V g D cT f1 n1 s H locs → lv_has ls 9 [(0, .ref x0), (1, .ref x1), (2, .ref x2), (3, .ref x3), (4, .ref x4), (5, .int x5)] → W p l e room_1 s m args below meth c H locs (cells + 17) (slots + 3206) Q (F0 m 3637 ls [])) : W p l e room_1 s m args below meth c H locs cells slots Q (F0 m 3260 ls []) := by
  obtain ⟨_, _, hml, hown, hB⟩ := id hC
  unfold p_case_50 at hq
  refine lv_aload_n hx hb dL_law_3260 rfl (lv_at hl 1 rfl) ?_
  refine lv_aload_n hx hb dL_law_3261 rfl (lv_at hl 0 rfl) ?_
  refine lv_iload hx hb dL_law_3262 (lv_at hl 5 rfl) ?_
  refine lv_iconst (v := (1 : Int32)) hx hb dL_law_3264 (by decide) ?_
  refine lv_iadd hx hb dL_law_3265 ?_
  obtain ⟨v1, ev1, hq⟩ := b_s hq
  refine fs_li hx hb hI ev1 dL_law_3266 ?_
  refine lv_aload_n hx hb dL_law_3267 rfl (lv_at hl 3 rfl) ?_
  obtain ⟨v2, ev2, hq⟩ := b_s hq
  refine gl_i (g_runSW (As := [.ref x1, .int v1, .ref x3]) (rest := []) hC (c_L_reverse l hl0 V g D cT f n x1 v1 x3 v2 ev2) k_L_reverse m_1151 rfl rfl ⟨Nat.le_of_ble_eq_true rfl, Nat.le_of_ble_eq_true rfl⟩ hI rfl hl.1 rfl (Nat.le_of_ble_eq_true rfl) dL_law_3268 ⟨(by have := hcap.1; show _ ≤ 601024; omega), (by have := hcap.2; show _ ≤ 7293034; omega)⟩) hI (fun H locs n3 hn3 hI => ?_)
  refine lv_istore (lv' := [(6, .int v2.1), (0, .ref x0), (1, .ref x1), (2, .ref x2), (3, .ref x3), (4, .ref x4), (5, .int x5)]) hx hb dL_law_3271 hl (by decide) rfl (fun ls hl => ?_)
  refine lv_aload_n hx hb dL_law_3273 rfl (lv_at hl 3 rfl) ?_
  refine lv_aload_n hx hb dL_law_3274 rfl (lv_at hl 1 rfl) ?_
  refine lv_iload hx hb dL_law_3275 (lv_at hl 6 rfl) ?_
  refine lv_iconst (v := (1 : Int32)) hx hb dL_law_3277 (by decide) ?_
  refine lv_iadd hx hb dL_law_3278 ?_
  obtain ⟨v4, ev4, hq⟩ := b_s hq
  refine fs_li hx hb hI ev4 dL_law_3279 ?_
  obtain ⟨v5, ev5, hq⟩ := b_s hq
  refine gw_i (g_runV (As := [.int v4]) (rest := []) (ci := 10) hC (c_X8_reverse l V g D cT v2.2 n3 x2 v4 v5 ev5) k_X8_reverse m_2010 rfl rfl ⟨Nat.le_of_ble_eq_true rfl, Nat.le_of_ble_eq_true rfl⟩ hI rfl rfl (h_me_eq ev5).1 rfl hl.1 rfl (Nat.le_of_ble_eq_true rfl) dL_law_3280 ⟨(by have := hcap.1; show _ ≤ 601024; omega), (by have := hcap.2; show _ ≤ 7293034; omega)⟩) hI (fun H locs hI => ?_)
  refine lv_istore (lv' := [(7, .int v5.1), (6, .int v2.1), (0, .ref x0), (1, .ref x1), (2, .ref x2), (3, .ref x3), (4, .ref x4), (5, .int x5)]) hx hb dL_law_3283 hl (by decide) rfl (fun ls hl => ?_)
  refine lv_aload_n hx hb dL_law_3285 rfl (lv_at hl 4 rfl) ?_
  obtain ⟨v6, ev6, hq⟩ := b_s hq
  refine gr_i (g_runV (As := []) (rest := []) (ci := 10) hC (c_X8_thrown l V g D cT v5.2 n3 x2 v6 ev6) k_X8_thrown m_1610 rfl rfl ⟨Nat.le_of_ble_eq_true rfl, Nat.le_of_ble_eq_true rfl⟩ hI rfl rfl (h_me_eq ev6).1 rfl hl.1 rfl (Nat.le_of_ble_eq_true rfl) dL_law_3286 ⟨(by have := hcap.1; show _ ≤ 601024; omega), (by have := hcap.2; show _ ≤ 7293034; omega)⟩) hI (fun H locs hI => ?_)
  refine lv_iload hx hb dL_law_3289 (lv_at hl 1 rfl) ?_
  refine lv_icmp_eq (tgt := 3296) hx hb dL_law_3291 (by decide) (fun c7 => ?_) (fun c7 => ?_)
  · replace hq := i_t c7 hq
    refine lv_iload hx hb dL_law_3296 (lv_at hl 1 rfl) ?_
    refine lv_if_ne (tgt := 3313) hx hb dL_law_3298 (by decide) (fun c8 => ?_) (fun c8 => ?_)
    · replace hq := i_f c8 hq
      refine lv_goto (tgt := 3637) hx hb dL_law_3313 (by decide) ?_
      obtain rfl := Option.some.inj hq
      refine W.widen (k := cells + 17) (n := slots + 3206) (by omega) (by omega) ?_
      exact kk _ _ _ _ (by omega) hI (lv_sub hl [2, 3, 4, 5, 6, 7] rfl)
    · replace hq := i_t c8 hq
      refine lv_aload_n hx hb dL_law_3301 rfl (lv_at hl 5 rfl) ?_
      refine lv_iconst (v := (0 : Int32)) hx hb dL_law_3302 (by decide) ?_
      obtain ⟨v9, ev9, hq⟩ := b_s hq
      refine fa_ll hx hb hI ev9 dL_law_3303 ?_
      refine lv_iload hx hb dL_law_3304 (lv_at hl 0 rfl) ?_
      refine lv_i2l (v := v5.1.toInt64) hx hb dL_law_3306 rfl ?_
      refine lv_lcmpN hx hb dL_law_3307 ?_
      refine lv_if_eq (tgt := 3313) hx hb dL_law_3308 (by decide) (fun c10 => ?_) (fun c10 => ?_)
      · replace hq := i_t c10 hq
        refine lv_goto (tgt := 3637) hx hb dL_law_3313 (by decide) ?_
        obtain rfl := Option.some.inj hq
        refine W.widen (k := cells + 17) (n := slots + 3206) (by omega) (by omega) ?_
        exact kk _ _ _ _ (by omega) hI (lv_sub hl [2, 3, 4, 5, 6, 7] rfl)
      · replace hq := i_f c10 hq
        refine lv_iconst (v := (0 : Int32)) hx hb dL_law_3311 (by decide) ?_
        cases hq
  · replace hq := i_f c7 hq
    refine lv_iconst (v := (0 : Int32)) hx hb dL_law_3294 (by decide) ?_
    cases hq

set_option maxHeartbeats 4000000 in
set_option maxRecDepth 100000 in
theorem cs_51 {p : Program} {l : Launch} {e : Env} {s : State} {m : MethodId} {args : Array Value} {below : List Frame} {meth : Method} {c : Code} {V : Nat → Nat} {g : GH} {D : va_G} {cT : Nat → ClassId} (hl0 : l.stackTraces = false) (hx : p.tables.exec = Jvm.exec) (hb : c.code = cL_law) (hC : CallFix p m c cL_law 9 s args g_B RL) {Q : State → Prop} {f : GH} {n : Nat} (x0 x1 x2 x3 x4 : Nat) (x5 : Int32) {f1 : GH} (hq : p_case_51 V g f n x0 x1 x2 x3 x4 x5 = some f1) {H : Heap} {locs : List Loc} {cells slots : Nat} {ls : Array Slot} (hcap : cells + 17 ≤ 601024 ∧ slots + 3206 ≤ 7293034) (hI : g_at (g_A V) V g D cT f n s H locs) (hl : lv_has ls 9 [(0, .ref x0), (1, .ref x1), (2, .ref x2), (3, .ref x3), (4, .ref x4), (5, .int x5)])
    (kk : ∀ (H : Heap) (locs : List Loc) (ls : Array Slot) (n1 : Nat), n ≤ n1 → g_at (g_A V) V g D cT f1 n1 s H locs → lv_has ls 9 [(0, .ref x0), (1, .ref x1), (2, .ref x2), (3, .ref x3), (4, .ref x4), (5, .int x5)] → W p l e room_1 s m args below meth c H locs (cells + 17) (slots + 3206) Q (F0 m 3637 ls [])) : W p l e room_1 s m args below meth c H locs cells slots Q (F0 m 3316 ls []) := by
  obtain ⟨_, _, hml, hown, hB⟩ := id hC
  unfold p_case_51 at hq
  refine lv_aload_n hx hb dL_law_3316 rfl (lv_at hl 1 rfl) ?_
  refine lv_aload_n hx hb dL_law_3317 rfl (lv_at hl 0 rfl) ?_
  refine lv_iload hx hb dL_law_3318 (lv_at hl 5 rfl) ?_
  refine lv_iconst (v := (1 : Int32)) hx hb dL_law_3320 (by decide) ?_
  refine lv_iadd hx hb dL_law_3321 ?_
  obtain ⟨v1, ev1, hq⟩ := b_s hq
  refine fs_li hx hb hI ev1 dL_law_3322 ?_
  refine lv_if_eq (tgt := 3330) hx hb dL_law_3323 (by decide) (fun c2 => ?_) (fun c2 => ?_)
  · replace hq := i_t c2 hq
    refine lv_iconst (v := (0 : Int32)) hx hb dL_law_3330 (by decide) ?_
    obtain ⟨v3, ev3, hq⟩ := x_r_eq hq
    refine gy_i (g_runVX (As := [.int (0 : Int32)]) (rest := []) (ci := 9) hC (c_X7_setKingMetric l hl0 V g D cT f n x1 (0 : Int32) (.inr v3) ev3) k_X7_setKingMetric m_349 rfl rfl ⟨Nat.le_of_ble_eq_true rfl, Nat.le_of_ble_eq_true rfl⟩ hI rfl rfl (h_me_eq ev3).1 rfl hl.1 rfl (Nat.le_of_ble_eq_true rfl) dL_law_3331 ⟨(by have := hcap.1; show _ ≤ 601024; omega), (by have := hcap.2; show _ ≤ 7293034; omega)⟩) hI (fun H locs hI => ?_)
    refine lv_aload_n hx hb dL_law_3334 rfl (lv_at hl 2 rfl) ?_
    refine lv_aload_n hx hb dL_law_3335 rfl (lv_at hl 0 rfl) ?_
    refine lv_iload hx hb dL_law_3336 (lv_at hl 5 rfl) ?_
    refine lv_iconst (v := (1 : Int32)) hx hb dL_law_3338 (by decide) ?_
    refine lv_iadd hx hb dL_law_3339 ?_
    obtain ⟨v4, ev4, hq⟩ := b_s hq
    refine fs_li hx hb hI ev4 dL_law_3340 ?_
    refine lv_if_eq (tgt := 3348) hx hb dL_law_3341 (by decide) (fun c5 => ?_) (fun c5 => ?_)
    · replace hq := i_t c5 hq
      refine lv_iconst (v := (0 : Int32)) hx hb dL_law_3348 (by decide) ?_
      obtain ⟨v6, ev6, hq⟩ := b_s hq
      refine gw_i (g_runV (As := [.int (0 : Int32)]) (rest := [.int v3.1]) (ci := 10) hC (c_X8_setKingMetric l V g D cT v3.2 n x2 (0 : Int32) v6 ev6) k_X8_setKingMetric m_2018 rfl rfl ⟨Nat.le_of_ble_eq_true rfl, Nat.le_of_ble_eq_true rfl⟩ hI rfl rfl (h_me_eq ev6).1 rfl hl.1 rfl (Nat.le_of_ble_eq_true rfl) dL_law_3349 ⟨(by have := hcap.1; show _ ≤ 601024; omega), (by have := hcap.2; show _ ≤ 7293034; omega)⟩) hI (fun H locs hI => ?_)
      refine lv_icmp_eq (tgt := 3637) hx hb dL_law_3352 (by decide) (fun c7 => ?_) (fun c7 => ?_)
      · replace hq := i_t c7 hq
        obtain rfl := Option.some.inj hq
        refine W.widen (k := cells + 17) (n := slots + 3206) (by omega) (by omega) ?_
        exact kk _ _ _ _ (by omega) hI (lv_sub hl [0, 1, 2, 3, 4, 5] rfl)
      · replace hq := i_f c7 hq
        refine lv_iconst (v := (0 : Int32)) hx hb dL_law_3355 (by decide) ?_
        cases hq
    · replace hq := i_f c5 hq
      refine lv_iconst (v := (1 : Int32)) hx hb dL_law_3344 (by decide) ?_
      refine lv_goto (tgt := 3349) hx hb dL_law_3345 (by decide) ?_
      obtain ⟨v8, ev8, hq⟩ := b_s hq
      refine gw_i (g_runV (As := [.int (1 : Int32)]) (rest := [.int v3.1]) (ci := 10) hC (c_X8_setKingMetric l V g D cT v3.2 n x2 (1 : Int32) v8 ev8) k_X8_setKingMetric m_2018 rfl rfl ⟨Nat.le_of_ble_eq_true rfl, Nat.le_of_ble_eq_true rfl⟩ hI rfl rfl (h_me_eq ev8).1 rfl hl.1 rfl (Nat.le_of_ble_eq_true rfl) dL_law_3349 ⟨(by have := hcap.1; show _ ≤ 601024; omega), (by have := hcap.2; show _ ≤ 7293034; omega)⟩) hI (fun H locs hI => ?_)
      refine lv_icmp_eq (tgt := 3637) hx hb dL_law_3352 (by decide) (fun c9 => ?_) (fun c9 => ?_)
      · replace hq := i_t c9 hq
        obtain rfl := Option.some.inj hq
        refine W.widen (k := cells + 17) (n := slots + 3206) (by omega) (by omega) ?_
        exact kk _ _ _ _ (by omega) hI (lv_sub hl [0, 1, 2, 3, 4, 5] rfl)
      · replace hq := i_f c9 hq
        refine lv_iconst (v := (0 : Int32)) hx hb dL_law_3355 (by decide) ?_
        cases hq
  · replace hq := i_f c2 hq
    refine lv_iconst (v := (1 : Int32)) hx hb dL_law_3326 (by decide) ?_
    refine lv_goto (tgt := 3331) hx hb dL_law_3327 (by decide) ?_
    obtain ⟨v10, ev10, hq⟩ := x_r_eq hq
    refine gy_i (g_runVX (As := [.int (1 : Int32)]) (rest := []) (ci := 9) hC (c_X7_setKingMetric l hl0 V g D cT f n x1 (1 : Int32) (.inr v10) ev10) k_X7_setKingMetric m_349 rfl rfl ⟨Nat.le_of_ble_eq_true rfl, Nat.le_of_ble_eq_true rfl⟩ hI rfl rfl (h_me_eq ev10).1 rfl hl.1 rfl (Nat.le_of_ble_eq_true rfl) dL_law_3331 ⟨(by have := hcap.1; show _ ≤ 601024; omega), (by have := hcap.2; show _ ≤ 7293034; omega)⟩) hI (fun H locs hI => ?_)
    refine lv_aload_n hx hb dL_law_3334 rfl (lv_at hl 2 rfl) ?_
    refine lv_aload_n hx hb dL_law_3335 rfl (lv_at hl 0 rfl) ?_
    refine lv_iload hx hb dL_law_3336 (lv_at hl 5 rfl) ?_
    refine lv_iconst (v := (1 : Int32)) hx hb dL_law_3338 (by decide) ?_
    refine lv_iadd hx hb dL_law_3339 ?_
    obtain ⟨v11, ev11, hq⟩ := b_s hq
    refine fs_li hx hb hI ev11 dL_law_3340 ?_
    refine lv_if_eq (tgt := 3348) hx hb dL_law_3341 (by decide) (fun c12 => ?_) (fun c12 => ?_)
    · replace hq := i_t c12 hq
      refine lv_iconst (v := (0 : Int32)) hx hb dL_law_3348 (by decide) ?_
      obtain ⟨v13, ev13, hq⟩ := b_s hq
      refine gw_i (g_runV (As := [.int (0 : Int32)]) (rest := [.int v10.1]) (ci := 10) hC (c_X8_setKingMetric l V g D cT v10.2 n x2 (0 : Int32) v13 ev13) k_X8_setKingMetric m_2018 rfl rfl ⟨Nat.le_of_ble_eq_true rfl, Nat.le_of_ble_eq_true rfl⟩ hI rfl rfl (h_me_eq ev13).1 rfl hl.1 rfl (Nat.le_of_ble_eq_true rfl) dL_law_3349 ⟨(by have := hcap.1; show _ ≤ 601024; omega), (by have := hcap.2; show _ ≤ 7293034; omega)⟩) hI (fun H locs hI => ?_)
      refine lv_icmp_eq (tgt := 3637) hx hb dL_law_3352 (by decide) (fun c14 => ?_) (fun c14 => ?_)
      · replace hq := i_t c14 hq
        obtain rfl := Option.some.inj hq
        refine W.widen (k := cells + 17) (n := slots + 3206) (by omega) (by omega) ?_
        exact kk _ _ _ _ (by omega) hI (lv_sub hl [0, 1, 2, 3, 4, 5] rfl)
      · replace hq := i_f c14 hq
        refine lv_iconst (v := (0 : Int32)) hx hb dL_law_3355 (by decide) ?_
        cases hq
    · replace hq := i_f c12 hq
      refine lv_iconst (v := (1 : Int32)) hx hb dL_law_3344 (by decide) ?_
      refine lv_goto (tgt := 3349) hx hb dL_law_3345 (by decide) ?_
      obtain ⟨v15, ev15, hq⟩ := b_s hq
      refine gw_i (g_runV (As := [.int (1 : Int32)]) (rest := [.int v10.1]) (ci := 10) hC (c_X8_setKingMetric l V g D cT v10.2 n x2 (1 : Int32) v15 ev15) k_X8_setKingMetric m_2018 rfl rfl ⟨Nat.le_of_ble_eq_true rfl, Nat.le_of_ble_eq_true rfl⟩ hI rfl rfl (h_me_eq ev15).1 rfl hl.1 rfl (Nat.le_of_ble_eq_true rfl) dL_law_3349 ⟨(by have := hcap.1; show _ ≤ 601024; omega), (by have := hcap.2; show _ ≤ 7293034; omega)⟩) hI (fun H locs hI => ?_)
      refine lv_icmp_eq (tgt := 3637) hx hb dL_law_3352 (by decide) (fun c16 => ?_) (fun c16 => ?_)
      · replace hq := i_t c16 hq
        obtain rfl := Option.some.inj hq
        refine W.widen (k := cells + 17) (n := slots + 3206) (by omega) (by omega) ?_
        exact kk _ _ _ _ (by omega) hI (lv_sub hl [0, 1, 2, 3, 4, 5] rfl)
      · replace hq := i_f c16 hq
        refine lv_iconst (v := (0 : Int32)) hx hb dL_law_3355 (by decide) ?_
        cases hq

set_option maxHeartbeats 4000000 in
set_option maxRecDepth 100000 in
theorem cs_52 {p : Program} {l : Launch} {e : Env} {s : State} {m : MethodId} {args : Array Value} {below : List Frame} {meth : Method} {c : Code} {V : Nat → Nat} {g : GH} {D : va_G} {cT : Nat → ClassId} (hl0 : l.stackTraces = false) (hx : p.tables.exec = Jvm.exec) (hb : c.code = cL_law) (hC : CallFix p m c cL_law 9 s args g_B RL) {Q : State → Prop} {f : GH} {n : Nat} (x0 x1 x2 x3 x4 : Nat) (x5 : Int32) {f1 : GH} (hq : p_case_52 V g f n x0 x1 x2 x3 x4 x5 = some f1) {H : Heap} {locs : List Loc} {cells slots : Nat} {ls : Array Slot} (hcap : cells + 17 ≤ 601024 ∧ slots + 3206 ≤ 7293034) (hI : g_at (g_A V) V g D cT f n s H locs) (hl : lv_has ls 9 [(0, .ref x0), (1, .ref x1), (2, .ref x2), (3, .ref x3), (4, .ref x4), (5, .int x5)])
    (kk : ∀ (H : Heap) (locs : List Loc) (ls : Array Slot) (n1 : Nat), n ≤ n1 → g_at (g_A V) V g D cT f1 n1 s H locs → lv_has ls 9 [(0, .ref x0), (1, .ref x1), (2, .ref x2), (3, .ref x3), (4, .ref x4), (5, .int x5)] → W p l e room_1 s m args below meth c H locs (cells + 17) (slots + 3206) Q (F0 m 3637 ls [])) : W p l e room_1 s m args below meth c H locs cells slots Q (F0 m 3357 ls []) := by
  obtain ⟨_, _, hml, hown, hB⟩ := id hC
  unfold p_case_52 at hq
  refine lv_aload_n hx hb dL_law_3357 rfl (lv_at hl 1 rfl) ?_
  refine lv_aload_n hx hb dL_law_3358 rfl (lv_at hl 0 rfl) ?_
  refine lv_iload hx hb dL_law_3359 (lv_at hl 5 rfl) ?_
  refine lv_iconst (v := (1 : Int32)) hx hb dL_law_3361 (by decide) ?_
  refine lv_iadd hx hb dL_law_3362 ?_
  obtain ⟨v1, ev1, hq⟩ := b_s hq
  refine fs_li hx hb hI ev1 dL_law_3363 ?_
  refine lv_aload_n hx hb dL_law_3364 rfl (lv_at hl 3 rfl) ?_
  obtain ⟨v2, ev2, hq⟩ := b_s hq
  refine gl_i (g_runSW (As := [.ref x1, .int v1, .ref x3]) (rest := []) hC (c_L_runScript l hl0 V g D cT f n x1 v1 x3 v2 ev2) k_L_runScript m_1160 rfl rfl ⟨Nat.le_of_ble_eq_true rfl, Nat.le_of_ble_eq_true rfl⟩ hI rfl hl.1 rfl (Nat.le_of_ble_eq_true rfl) dL_law_3365 ⟨(by have := hcap.1; show _ ≤ 601024; omega), (by have := hcap.2; show _ ≤ 7293034; omega)⟩) hI (fun H locs n3 hn3 hI => ?_)
  refine lv_istore (lv' := [(6, .int v2.1), (0, .ref x0), (1, .ref x1), (2, .ref x2), (3, .ref x3), (4, .ref x4), (5, .int x5)]) hx hb dL_law_3368 hl (by decide) rfl (fun ls hl => ?_)
  refine lv_aload_n hx hb dL_law_3370 rfl (lv_at hl 3 rfl) ?_
  refine lv_aload_n hx hb dL_law_3371 rfl (lv_at hl 1 rfl) ?_
  refine lv_iload hx hb dL_law_3372 (lv_at hl 6 rfl) ?_
  refine lv_iconst (v := (1 : Int32)) hx hb dL_law_3374 (by decide) ?_
  refine lv_iadd hx hb dL_law_3375 ?_
  obtain ⟨v4, ev4, hq⟩ := b_s hq
  refine fs_li hx hb hI ev4 dL_law_3376 ?_
  obtain ⟨v5, ev5, hq⟩ := b_s hq
  refine gw_i (g_runV (As := [.int v4]) (rest := []) (ci := 10) hC (c_X8_runScript l V g D cT v2.2 n3 x2 v4 v5 ev5) k_X8_runScript m_2184 rfl rfl ⟨Nat.le_of_ble_eq_true rfl, Nat.le_of_ble_eq_true rfl⟩ hI rfl rfl (h_me_eq ev5).1 rfl hl.1 rfl (Nat.le_of_ble_eq_true rfl) dL_law_3377 ⟨(by have := hcap.1; show _ ≤ 601024; omega), (by have := hcap.2; show _ ≤ 7293034; omega)⟩) hI (fun H locs hI => ?_)
  refine lv_istore (lv' := [(7, .int v5.1), (6, .int v2.1), (0, .ref x0), (1, .ref x1), (2, .ref x2), (3, .ref x3), (4, .ref x4), (5, .int x5)]) hx hb dL_law_3380 hl (by decide) rfl (fun ls hl => ?_)
  refine lv_aload_n hx hb dL_law_3382 rfl (lv_at hl 4 rfl) ?_
  obtain ⟨v6, ev6, hq⟩ := b_s hq
  refine gr_i (g_runV (As := []) (rest := []) (ci := 10) hC (c_X8_thrown l V g D cT v5.2 n3 x2 v6 ev6) k_X8_thrown m_1610 rfl rfl ⟨Nat.le_of_ble_eq_true rfl, Nat.le_of_ble_eq_true rfl⟩ hI rfl rfl (h_me_eq ev6).1 rfl hl.1 rfl (Nat.le_of_ble_eq_true rfl) dL_law_3383 ⟨(by have := hcap.1; show _ ≤ 601024; omega), (by have := hcap.2; show _ ≤ 7293034; omega)⟩) hI (fun H locs hI => ?_)
  refine lv_iload hx hb dL_law_3386 (lv_at hl 1 rfl) ?_
  refine lv_icmp_eq (tgt := 3393) hx hb dL_law_3388 (by decide) (fun c7 => ?_) (fun c7 => ?_)
  · replace hq := i_t c7 hq
    refine lv_iload hx hb dL_law_3393 (lv_at hl 1 rfl) ?_
    refine lv_if_ne (tgt := 3410) hx hb dL_law_3395 (by decide) (fun c8 => ?_) (fun c8 => ?_)
    · replace hq := i_f c8 hq
      refine lv_goto (tgt := 3637) hx hb dL_law_3410 (by decide) ?_
      obtain rfl := Option.some.inj hq
      refine W.widen (k := cells + 17) (n := slots + 3206) (by omega) (by omega) ?_
      exact kk _ _ _ _ (by omega) hI (lv_sub hl [2, 3, 4, 5, 6, 7] rfl)
    · replace hq := i_t c8 hq
      refine lv_aload_n hx hb dL_law_3398 rfl (lv_at hl 5 rfl) ?_
      refine lv_iconst (v := (0 : Int32)) hx hb dL_law_3399 (by decide) ?_
      obtain ⟨v9, ev9, hq⟩ := b_s hq
      refine fa_ll hx hb hI ev9 dL_law_3400 ?_
      refine lv_iload hx hb dL_law_3401 (lv_at hl 0 rfl) ?_
      refine lv_i2l (v := v5.1.toInt64) hx hb dL_law_3403 rfl ?_
      refine lv_lcmpN hx hb dL_law_3404 ?_
      refine lv_if_eq (tgt := 3410) hx hb dL_law_3405 (by decide) (fun c10 => ?_) (fun c10 => ?_)
      · replace hq := i_t c10 hq
        refine lv_goto (tgt := 3637) hx hb dL_law_3410 (by decide) ?_
        obtain rfl := Option.some.inj hq
        refine W.widen (k := cells + 17) (n := slots + 3206) (by omega) (by omega) ?_
        exact kk _ _ _ _ (by omega) hI (lv_sub hl [2, 3, 4, 5, 6, 7] rfl)
      · replace hq := i_f c10 hq
        refine lv_iconst (v := (0 : Int32)) hx hb dL_law_3408 (by decide) ?_
        cases hq
  · replace hq := i_f c7 hq
    refine lv_iconst (v := (0 : Int32)) hx hb dL_law_3391 (by decide) ?_
    cases hq

set_option maxHeartbeats 4000000 in
set_option maxRecDepth 100000 in
theorem cs_53 {p : Program} {l : Launch} {e : Env} {s : State} {m : MethodId} {args : Array Value} {below : List Frame} {meth : Method} {c : Code} {V : Nat → Nat} {g : GH} {D : va_G} {cT : Nat → ClassId} (hl0 : l.stackTraces = false) (hx : p.tables.exec = Jvm.exec) (hb : c.code = cL_law) (hC : CallFix p m c cL_law 9 s args g_B RL) {Q : State → Prop} {f : GH} {n : Nat} (x0 x1 x2 x3 x4 : Nat) (x5 : Int32) {f1 : GH} (hq : p_case_53 V g f n x0 x1 x2 x3 x4 x5 = some f1) {H : Heap} {locs : List Loc} {cells slots : Nat} {ls : Array Slot} (hcap : cells + 17 ≤ 601024 ∧ slots + 3206 ≤ 7293034) (hI : g_at (g_A V) V g D cT f n s H locs) (hl : lv_has ls 9 [(0, .ref x0), (1, .ref x1), (2, .ref x2), (3, .ref x3), (4, .ref x4), (5, .int x5)])
    (kk : ∀ (H : Heap) (locs : List Loc) (ls : Array Slot) (n1 : Nat), n ≤ n1 → g_at (g_A V) V g D cT f1 n1 s H locs → lv_has ls 9 [(0, .ref x0), (1, .ref x1), (2, .ref x2), (3, .ref x3), (4, .ref x4), (5, .int x5)] → W p l e room_1 s m args below meth c H locs (cells + 17) (slots + 3206) Q (F0 m 3637 ls [])) : W p l e room_1 s m args below meth c H locs cells slots Q (F0 m 3413 ls []) := by
  obtain ⟨_, _, hml, hown, hB⟩ := id hC
  unfold p_case_53 at hq
  refine lv_aload_n hx hb dL_law_3413 rfl (lv_at hl 1 rfl) ?_
  refine lv_aload_n hx hb dL_law_3414 rfl (lv_at hl 0 rfl) ?_
  refine lv_iload hx hb dL_law_3415 (lv_at hl 5 rfl) ?_
  refine lv_iconst (v := (1 : Int32)) hx hb dL_law_3417 (by decide) ?_
  refine lv_iadd hx hb dL_law_3418 ?_
  obtain ⟨v1, ev1, hq⟩ := b_s hq
  refine fs_li hx hb hI ev1 dL_law_3419 ?_
  refine lv_aload_n hx hb dL_law_3420 rfl (lv_at hl 3 rfl) ?_
  obtain ⟨v2, ev2, hq⟩ := b_s hq
  refine gl_i (g_runSW (As := [.ref x1, .int v1, .ref x3]) (rest := []) hC (c_L_writeLengths l hl0 V g D cT f n x1 v1 x3 v2 ev2) k_L_writeLengths m_1181 rfl rfl ⟨Nat.le_of_ble_eq_true rfl, Nat.le_of_ble_eq_true rfl⟩ hI rfl hl.1 rfl (Nat.le_of_ble_eq_true rfl) dL_law_3421 ⟨(by have := hcap.1; show _ ≤ 601024; omega), (by have := hcap.2; show _ ≤ 7293034; omega)⟩) hI (fun H locs n3 hn3 hI => ?_)
  refine lv_istore (lv' := [(6, .int v2.1), (0, .ref x0), (1, .ref x1), (2, .ref x2), (3, .ref x3), (4, .ref x4), (5, .int x5)]) hx hb dL_law_3424 hl (by decide) rfl (fun ls hl => ?_)
  refine lv_aload_n hx hb dL_law_3426 rfl (lv_at hl 3 rfl) ?_
  refine lv_aload_n hx hb dL_law_3427 rfl (lv_at hl 1 rfl) ?_
  refine lv_iload hx hb dL_law_3428 (lv_at hl 6 rfl) ?_
  refine lv_iconst (v := (1 : Int32)) hx hb dL_law_3430 (by decide) ?_
  refine lv_iadd hx hb dL_law_3431 ?_
  obtain ⟨v4, ev4, hq⟩ := b_s hq
  refine fs_li hx hb hI ev4 dL_law_3432 ?_
  obtain ⟨v5, ev5, hq⟩ := b_s hq
  refine gw_i (g_runV (As := [.int v4]) (rest := []) (ci := 10) hC (c_X8_writeLengths l V g D cT v2.2 n3 x2 v4 v5 ev5) k_X8_writeLengths m_2026 rfl rfl ⟨Nat.le_of_ble_eq_true rfl, Nat.le_of_ble_eq_true rfl⟩ hI rfl rfl (h_me_eq ev5).1 rfl hl.1 rfl (Nat.le_of_ble_eq_true rfl) dL_law_3433 ⟨(by have := hcap.1; show _ ≤ 601024; omega), (by have := hcap.2; show _ ≤ 7293034; omega)⟩) hI (fun H locs hI => ?_)
  refine lv_istore (lv' := [(7, .int v5.1), (6, .int v2.1), (0, .ref x0), (1, .ref x1), (2, .ref x2), (3, .ref x3), (4, .ref x4), (5, .int x5)]) hx hb dL_law_3436 hl (by decide) rfl (fun ls hl => ?_)
  refine lv_aload_n hx hb dL_law_3438 rfl (lv_at hl 4 rfl) ?_
  obtain ⟨v6, ev6, hq⟩ := b_s hq
  refine gr_i (g_runV (As := []) (rest := []) (ci := 10) hC (c_X8_thrown l V g D cT v5.2 n3 x2 v6 ev6) k_X8_thrown m_1610 rfl rfl ⟨Nat.le_of_ble_eq_true rfl, Nat.le_of_ble_eq_true rfl⟩ hI rfl rfl (h_me_eq ev6).1 rfl hl.1 rfl (Nat.le_of_ble_eq_true rfl) dL_law_3439 ⟨(by have := hcap.1; show _ ≤ 601024; omega), (by have := hcap.2; show _ ≤ 7293034; omega)⟩) hI (fun H locs hI => ?_)
  refine lv_iload hx hb dL_law_3442 (lv_at hl 1 rfl) ?_
  refine lv_icmp_eq (tgt := 3449) hx hb dL_law_3444 (by decide) (fun c7 => ?_) (fun c7 => ?_)
  · replace hq := i_t c7 hq
    refine lv_iload hx hb dL_law_3449 (lv_at hl 1 rfl) ?_
    refine lv_if_ne (tgt := 3466) hx hb dL_law_3451 (by decide) (fun c8 => ?_) (fun c8 => ?_)
    · replace hq := i_f c8 hq
      refine lv_goto (tgt := 3637) hx hb dL_law_3466 (by decide) ?_
      obtain rfl := Option.some.inj hq
      refine W.widen (k := cells + 17) (n := slots + 3206) (by omega) (by omega) ?_
      exact kk _ _ _ _ (by omega) hI (lv_sub hl [2, 3, 4, 5, 6, 7] rfl)
    · replace hq := i_t c8 hq
      refine lv_aload_n hx hb dL_law_3454 rfl (lv_at hl 5 rfl) ?_
      refine lv_iconst (v := (0 : Int32)) hx hb dL_law_3455 (by decide) ?_
      obtain ⟨v9, ev9, hq⟩ := b_s hq
      refine fa_ll hx hb hI ev9 dL_law_3456 ?_
      refine lv_iload hx hb dL_law_3457 (lv_at hl 0 rfl) ?_
      refine lv_i2l (v := v5.1.toInt64) hx hb dL_law_3459 rfl ?_
      refine lv_lcmpN hx hb dL_law_3460 ?_
      refine lv_if_eq (tgt := 3466) hx hb dL_law_3461 (by decide) (fun c10 => ?_) (fun c10 => ?_)
      · replace hq := i_t c10 hq
        refine lv_goto (tgt := 3637) hx hb dL_law_3466 (by decide) ?_
        obtain rfl := Option.some.inj hq
        refine W.widen (k := cells + 17) (n := slots + 3206) (by omega) (by omega) ?_
        exact kk _ _ _ _ (by omega) hI (lv_sub hl [2, 3, 4, 5, 6, 7] rfl)
      · replace hq := i_f c10 hq
        refine lv_iconst (v := (0 : Int32)) hx hb dL_law_3464 (by decide) ?_
        cases hq
  · replace hq := i_f c7 hq
    refine lv_iconst (v := (0 : Int32)) hx hb dL_law_3447 (by decide) ?_
    cases hq

set_option maxHeartbeats 4000000 in
set_option maxRecDepth 100000 in
theorem cs_54 {p : Program} {l : Launch} {e : Env} {s : State} {m : MethodId} {args : Array Value} {below : List Frame} {meth : Method} {c : Code} {V : Nat → Nat} {g : GH} {D : va_G} {cT : Nat → ClassId} (hl0 : l.stackTraces = false) (hx : p.tables.exec = Jvm.exec) (hb : c.code = cL_law) (hC : CallFix p m c cL_law 9 s args g_B RL) {Q : State → Prop} {f : GH} {n : Nat} (x0 x1 x2 x3 x4 : Nat) (x5 : Int32) {f1 : GH} (hq : p_case_54 V g f n x0 x1 x2 x3 x4 x5 = some f1) {H : Heap} {locs : List Loc} {cells slots : Nat} {ls : Array Slot} (hcap : cells + 17 ≤ 601024 ∧ slots + 3206 ≤ 7293034) (hI : g_at (g_A V) V g D cT f n s H locs) (hl : lv_has ls 9 [(0, .ref x0), (1, .ref x1), (2, .ref x2), (3, .ref x3), (4, .ref x4), (5, .int x5)])
    (kk : ∀ (H : Heap) (locs : List Loc) (ls : Array Slot) (n1 : Nat), n ≤ n1 → g_at (g_A V) V g D cT f1 n1 s H locs → lv_has ls 9 [(0, .ref x0), (1, .ref x1), (2, .ref x2), (3, .ref x3), (4, .ref x4), (5, .int x5)] → W p l e room_1 s m args below meth c H locs (cells + 17) (slots + 3206) Q (F0 m 3637 ls [])) : W p l e room_1 s m args below meth c H locs cells slots Q (F0 m 3469 ls []) := by
  obtain ⟨_, _, hml, hown, hB⟩ := id hC
  unfold p_case_54 at hq
  refine lv_aload_n hx hb dL_law_3469 rfl (lv_at hl 1 rfl) ?_
  refine lv_aload_n hx hb dL_law_3470 rfl (lv_at hl 0 rfl) ?_
  refine lv_iload hx hb dL_law_3471 (lv_at hl 5 rfl) ?_
  refine lv_iconst (v := (1 : Int32)) hx hb dL_law_3473 (by decide) ?_
  refine lv_iadd hx hb dL_law_3474 ?_
  obtain ⟨v1, ev1, hq⟩ := b_s hq
  refine fs_li hx hb hI ev1 dL_law_3475 ?_
  refine lv_aload_n hx hb dL_law_3476 rfl (lv_at hl 3 rfl) ?_
  obtain ⟨v2, ev2, hq⟩ := b_s hq
  refine gl_i (g_runSW (As := [.ref x1, .int v1, .ref x3]) (rest := []) hC (c_L_outputByte l hl0 V g D cT f n x1 v1 x3 v2 ev2) k_L_outputByte m_1450 rfl rfl ⟨Nat.le_of_ble_eq_true rfl, Nat.le_of_ble_eq_true rfl⟩ hI rfl hl.1 rfl (Nat.le_of_ble_eq_true rfl) dL_law_3477 ⟨(by have := hcap.1; show _ ≤ 601024; omega), (by have := hcap.2; show _ ≤ 7293034; omega)⟩) hI (fun H locs n3 hn3 hI => ?_)
  refine lv_istore (lv' := [(6, .int v2.1), (0, .ref x0), (1, .ref x1), (2, .ref x2), (3, .ref x3), (4, .ref x4), (5, .int x5)]) hx hb dL_law_3480 hl (by decide) rfl (fun ls hl => ?_)
  refine lv_aload_n hx hb dL_law_3482 rfl (lv_at hl 3 rfl) ?_
  refine lv_aload_n hx hb dL_law_3483 rfl (lv_at hl 1 rfl) ?_
  refine lv_iload hx hb dL_law_3484 (lv_at hl 6 rfl) ?_
  refine lv_iconst (v := (1 : Int32)) hx hb dL_law_3486 (by decide) ?_
  refine lv_iadd hx hb dL_law_3487 ?_
  obtain ⟨v4, ev4, hq⟩ := b_s hq
  refine fs_li hx hb hI ev4 dL_law_3488 ?_
  obtain ⟨v5, ev5, hq⟩ := b_s hq
  refine gw_i (g_runV (As := [.int v4]) (rest := []) (ci := 10) hC (c_X8_outputByte l V g D cT v2.2 n3 x2 v4 v5 ev5) k_X8_outputByte m_2042 rfl rfl ⟨Nat.le_of_ble_eq_true rfl, Nat.le_of_ble_eq_true rfl⟩ hI rfl rfl (h_me_eq ev5).1 rfl hl.1 rfl (Nat.le_of_ble_eq_true rfl) dL_law_3489 ⟨(by have := hcap.1; show _ ≤ 601024; omega), (by have := hcap.2; show _ ≤ 7293034; omega)⟩) hI (fun H locs hI => ?_)
  refine lv_istore (lv' := [(7, .int v5.1), (6, .int v2.1), (0, .ref x0), (1, .ref x1), (2, .ref x2), (3, .ref x3), (4, .ref x4), (5, .int x5)]) hx hb dL_law_3492 hl (by decide) rfl (fun ls hl => ?_)
  refine lv_aload_n hx hb dL_law_3494 rfl (lv_at hl 4 rfl) ?_
  obtain ⟨v6, ev6, hq⟩ := b_s hq
  refine gr_i (g_runV (As := []) (rest := []) (ci := 10) hC (c_X8_thrown l V g D cT v5.2 n3 x2 v6 ev6) k_X8_thrown m_1610 rfl rfl ⟨Nat.le_of_ble_eq_true rfl, Nat.le_of_ble_eq_true rfl⟩ hI rfl rfl (h_me_eq ev6).1 rfl hl.1 rfl (Nat.le_of_ble_eq_true rfl) dL_law_3495 ⟨(by have := hcap.1; show _ ≤ 601024; omega), (by have := hcap.2; show _ ≤ 7293034; omega)⟩) hI (fun H locs hI => ?_)
  refine lv_iload hx hb dL_law_3498 (lv_at hl 1 rfl) ?_
  refine lv_icmp_eq (tgt := 3505) hx hb dL_law_3500 (by decide) (fun c7 => ?_) (fun c7 => ?_)
  · replace hq := i_t c7 hq
    refine lv_iload hx hb dL_law_3505 (lv_at hl 1 rfl) ?_
    refine lv_if_ne (tgt := 3522) hx hb dL_law_3507 (by decide) (fun c8 => ?_) (fun c8 => ?_)
    · replace hq := i_f c8 hq
      refine lv_goto (tgt := 3637) hx hb dL_law_3522 (by decide) ?_
      obtain rfl := Option.some.inj hq
      refine W.widen (k := cells + 17) (n := slots + 3206) (by omega) (by omega) ?_
      exact kk _ _ _ _ (by omega) hI (lv_sub hl [2, 3, 4, 5, 6, 7] rfl)
    · replace hq := i_t c8 hq
      refine lv_aload_n hx hb dL_law_3510 rfl (lv_at hl 5 rfl) ?_
      refine lv_iconst (v := (0 : Int32)) hx hb dL_law_3511 (by decide) ?_
      obtain ⟨v9, ev9, hq⟩ := b_s hq
      refine fa_ll hx hb hI ev9 dL_law_3512 ?_
      refine lv_iload hx hb dL_law_3513 (lv_at hl 0 rfl) ?_
      refine lv_i2l (v := v5.1.toInt64) hx hb dL_law_3515 rfl ?_
      refine lv_lcmpN hx hb dL_law_3516 ?_
      refine lv_if_eq (tgt := 3522) hx hb dL_law_3517 (by decide) (fun c10 => ?_) (fun c10 => ?_)
      · replace hq := i_t c10 hq
        refine lv_goto (tgt := 3637) hx hb dL_law_3522 (by decide) ?_
        obtain rfl := Option.some.inj hq
        refine W.widen (k := cells + 17) (n := slots + 3206) (by omega) (by omega) ?_
        exact kk _ _ _ _ (by omega) hI (lv_sub hl [2, 3, 4, 5, 6, 7] rfl)
      · replace hq := i_f c10 hq
        refine lv_iconst (v := (0 : Int32)) hx hb dL_law_3520 (by decide) ?_
        cases hq
  · replace hq := i_f c7 hq
    refine lv_iconst (v := (0 : Int32)) hx hb dL_law_3503 (by decide) ?_
    cases hq

set_option maxHeartbeats 4000000 in
set_option maxRecDepth 100000 in
theorem cs_55 {p : Program} {l : Launch} {e : Env} {s : State} {m : MethodId} {args : Array Value} {below : List Frame} {meth : Method} {c : Code} {V : Nat → Nat} {g : GH} {D : va_G} {cT : Nat → ClassId} (hl0 : l.stackTraces = false) (hx : p.tables.exec = Jvm.exec) (hb : c.code = cL_law) (hC : CallFix p m c cL_law 9 s args g_B RL) {Q : State → Prop} {f : GH} {n : Nat} (x0 x1 x2 x3 x4 : Nat) (x5 : Int32) {f1 : GH} (hq : p_case_55 V g f n x0 x1 x2 x3 x4 x5 = some f1) {H : Heap} {locs : List Loc} {cells slots : Nat} {ls : Array Slot} (hcap : cells + 17 ≤ 601024 ∧ slots + 3206 ≤ 7293034) (hI : g_at (g_A V) V g D cT f n s H locs) (hl : lv_has ls 9 [(0, .ref x0), (1, .ref x1), (2, .ref x2), (3, .ref x3), (4, .ref x4), (5, .int x5)])
    (kk : ∀ (H : Heap) (locs : List Loc) (ls : Array Slot) (n1 : Nat), n ≤ n1 → g_at (g_A V) V g D cT f1 n1 s H locs → lv_has ls 9 [(0, .ref x0), (1, .ref x1), (2, .ref x2), (3, .ref x3), (4, .ref x4), (5, .int x5)] → W p l e room_1 s m args below meth c H locs (cells + 17) (slots + 3206) Q (F0 m 3637 ls [])) : W p l e room_1 s m args below meth c H locs cells slots Q (F0 m 3525 ls []) := by
  obtain ⟨_, _, hml, hown, hB⟩ := id hC
  unfold p_case_55 at hq
  refine lv_aload_n hx hb dL_law_3525 rfl (lv_at hl 1 rfl) ?_
  obtain ⟨v1, ev1, hq⟩ := b_s hq
  refine gr_i (g_runV (As := []) (rest := []) (ci := 9) hC (c_X7_undoableCount l V g D cT f n x1 v1 ev1) k_X7_undoableCount m_598 rfl rfl ⟨Nat.le_of_ble_eq_true rfl, Nat.le_of_ble_eq_true rfl⟩ hI rfl rfl (h_me_eq ev1).1 rfl hl.1 rfl (Nat.le_of_ble_eq_true rfl) dL_law_3526 ⟨(by have := hcap.1; show _ ≤ 601024; omega), (by have := hcap.2; show _ ≤ 7293034; omega)⟩) hI (fun H locs hI => ?_)
  refine lv_aload_n hx hb dL_law_3529 rfl (lv_at hl 2 rfl) ?_
  obtain ⟨v2, ev2, hq⟩ := b_s hq
  refine gw_i (g_runV (As := []) (rest := [.int v1]) (ci := 10) hC (c_X8_undoableCount l V g D cT f n x2 v2 ev2) k_X8_undoableCount m_2046 rfl rfl ⟨Nat.le_of_ble_eq_true rfl, Nat.le_of_ble_eq_true rfl⟩ hI rfl rfl (h_me_eq ev2).1 rfl hl.1 rfl (Nat.le_of_ble_eq_true rfl) dL_law_3530 ⟨(by have := hcap.1; show _ ≤ 601024; omega), (by have := hcap.2; show _ ≤ 7293034; omega)⟩) hI (fun H locs hI => ?_)
  refine lv_icmp_eq (tgt := 3637) hx hb dL_law_3533 (by decide) (fun c3 => ?_) (fun c3 => ?_)
  · replace hq := i_t c3 hq
    obtain rfl := Option.some.inj hq
    refine W.widen (k := cells + 17) (n := slots + 3206) (by omega) (by omega) ?_
    exact kk _ _ _ _ (by omega) hI (lv_sub hl [0, 1, 2, 3, 4, 5] rfl)
  · replace hq := i_f c3 hq
    refine lv_iconst (v := (0 : Int32)) hx hb dL_law_3536 (by decide) ?_
    cases hq

set_option maxHeartbeats 4000000 in
set_option maxRecDepth 100000 in
theorem cs_56 {p : Program} {l : Launch} {e : Env} {s : State} {m : MethodId} {args : Array Value} {below : List Frame} {meth : Method} {c : Code} {V : Nat → Nat} {g : GH} {D : va_G} {cT : Nat → ClassId} (hl0 : l.stackTraces = false) (hx : p.tables.exec = Jvm.exec) (hb : c.code = cL_law) (hC : CallFix p m c cL_law 9 s args g_B RL) {Q : State → Prop} {f : GH} {n : Nat} (x0 x1 x2 x3 x4 : Nat) (x5 : Int32) {f1 : GH} (hq : p_case_56 V g f n x0 x1 x2 x3 x4 x5 = some f1) {H : Heap} {locs : List Loc} {cells slots : Nat} {ls : Array Slot} (hcap : cells + 17 ≤ 601024 ∧ slots + 3206 ≤ 7293034) (hI : g_at (g_A V) V g D cT f n s H locs) (hl : lv_has ls 9 [(0, .ref x0), (1, .ref x1), (2, .ref x2), (3, .ref x3), (4, .ref x4), (5, .int x5)])
    (kk : ∀ (H : Heap) (locs : List Loc) (ls : Array Slot) (n1 : Nat), n ≤ n1 → g_at (g_A V) V g D cT f1 n1 s H locs → lv_has ls 9 [(0, .ref x0), (1, .ref x1), (2, .ref x2), (3, .ref x3), (4, .ref x4), (5, .int x5)] → W p l e room_1 s m args below meth c H locs (cells + 17) (slots + 3206) Q (F0 m 3637 ls [])) : W p l e room_1 s m args below meth c H locs cells slots Q (F0 m 3538 ls []) := by
  obtain ⟨_, _, hml, hown, hB⟩ := id hC
  unfold p_case_56 at hq
  refine lv_aload_n hx hb dL_law_3538 rfl (lv_at hl 1 rfl) ?_
  refine lv_aload_n hx hb dL_law_3539 rfl (lv_at hl 3 rfl) ?_
  obtain ⟨v1, ev1, hq⟩ := b_s hq
  refine gl_i (g_runSW (As := [.ref x1, .ref x3]) (rest := []) hC (c_L_undo l hl0 V g D cT f n x1 x3 v1 ev1) k_L_undo m_1468 rfl rfl ⟨Nat.le_of_ble_eq_true rfl, Nat.le_of_ble_eq_true rfl⟩ hI rfl hl.1 rfl (Nat.le_of_ble_eq_true rfl) dL_law_3540 ⟨(by have := hcap.1; show _ ≤ 601024; omega), (by have := hcap.2; show _ ≤ 7293034; omega)⟩) hI (fun H locs n2 hn2 hI => ?_)
  refine lv_istore (lv' := [(6, .int v1.1), (0, .ref x0), (1, .ref x1), (2, .ref x2), (3, .ref x3), (4, .ref x4), (5, .int x5)]) hx hb dL_law_3543 hl (by decide) rfl (fun ls hl => ?_)
  refine lv_aload_n hx hb dL_law_3545 rfl (lv_at hl 3 rfl) ?_
  obtain ⟨v3, ev3, hq⟩ := b_s hq
  refine gw_i (g_runV (As := []) (rest := []) (ci := 10) hC (c_X8_undo l V g D cT v1.2 n2 x2 v3 ev3) k_X8_undo m_2050 rfl rfl ⟨Nat.le_of_ble_eq_true rfl, Nat.le_of_ble_eq_true rfl⟩ hI rfl rfl (h_me_eq ev3).1 rfl hl.1 rfl (Nat.le_of_ble_eq_true rfl) dL_law_3546 ⟨(by have := hcap.1; show _ ≤ 601024; omega), (by have := hcap.2; show _ ≤ 7293034; omega)⟩) hI (fun H locs hI => ?_)
  refine lv_istore (lv' := [(7, .int v3.1), (6, .int v1.1), (0, .ref x0), (1, .ref x1), (2, .ref x2), (3, .ref x3), (4, .ref x4), (5, .int x5)]) hx hb dL_law_3549 hl (by decide) rfl (fun ls hl => ?_)
  refine lv_aload_n hx hb dL_law_3551 rfl (lv_at hl 4 rfl) ?_
  obtain ⟨v4, ev4, hq⟩ := b_s hq
  refine gr_i (g_runV (As := []) (rest := []) (ci := 10) hC (c_X8_thrown l V g D cT v3.2 n2 x2 v4 ev4) k_X8_thrown m_1610 rfl rfl ⟨Nat.le_of_ble_eq_true rfl, Nat.le_of_ble_eq_true rfl⟩ hI rfl rfl (h_me_eq ev4).1 rfl hl.1 rfl (Nat.le_of_ble_eq_true rfl) dL_law_3552 ⟨(by have := hcap.1; show _ ≤ 601024; omega), (by have := hcap.2; show _ ≤ 7293034; omega)⟩) hI (fun H locs hI => ?_)
  refine lv_iload hx hb dL_law_3555 (lv_at hl 1 rfl) ?_
  refine lv_icmp_eq (tgt := 3562) hx hb dL_law_3557 (by decide) (fun c5 => ?_) (fun c5 => ?_)
  · replace hq := i_t c5 hq
    refine lv_iload hx hb dL_law_3562 (lv_at hl 1 rfl) ?_
    refine lv_if_ne (tgt := 3579) hx hb dL_law_3564 (by decide) (fun c6 => ?_) (fun c6 => ?_)
    · replace hq := i_f c6 hq
      refine lv_goto (tgt := 3637) hx hb dL_law_3579 (by decide) ?_
      obtain rfl := Option.some.inj hq
      refine W.widen (k := cells + 17) (n := slots + 3206) (by omega) (by omega) ?_
      exact kk _ _ _ _ (by omega) hI (lv_sub hl [2, 3, 4, 5, 6, 7] rfl)
    · replace hq := i_t c6 hq
      refine lv_aload_n hx hb dL_law_3567 rfl (lv_at hl 5 rfl) ?_
      refine lv_iconst (v := (0 : Int32)) hx hb dL_law_3568 (by decide) ?_
      obtain ⟨v7, ev7, hq⟩ := b_s hq
      refine fa_ll hx hb hI ev7 dL_law_3569 ?_
      refine lv_iload hx hb dL_law_3570 (lv_at hl 0 rfl) ?_
      refine lv_i2l (v := v3.1.toInt64) hx hb dL_law_3572 rfl ?_
      refine lv_lcmpN hx hb dL_law_3573 ?_
      refine lv_if_eq (tgt := 3579) hx hb dL_law_3574 (by decide) (fun c8 => ?_) (fun c8 => ?_)
      · replace hq := i_t c8 hq
        refine lv_goto (tgt := 3637) hx hb dL_law_3579 (by decide) ?_
        obtain rfl := Option.some.inj hq
        refine W.widen (k := cells + 17) (n := slots + 3206) (by omega) (by omega) ?_
        exact kk _ _ _ _ (by omega) hI (lv_sub hl [2, 3, 4, 5, 6, 7] rfl)
      · replace hq := i_f c8 hq
        refine lv_iconst (v := (0 : Int32)) hx hb dL_law_3577 (by decide) ?_
        cases hq
  · replace hq := i_f c5 hq
    refine lv_iconst (v := (0 : Int32)) hx hb dL_law_3560 (by decide) ?_
    cases hq

set_option maxHeartbeats 4000000 in
set_option maxRecDepth 100000 in
theorem cs_57 {p : Program} {l : Launch} {e : Env} {s : State} {m : MethodId} {args : Array Value} {below : List Frame} {meth : Method} {c : Code} {V : Nat → Nat} {g : GH} {D : va_G} {cT : Nat → ClassId} (hl0 : l.stackTraces = false) (hx : p.tables.exec = Jvm.exec) (hb : c.code = cL_law) (hC : CallFix p m c cL_law 9 s args g_B RL) {Q : State → Prop} {f : GH} {n : Nat} (x0 x1 x2 x3 x4 : Nat) (x5 : Int32) {f1 : GH} (hq : p_case_57 V g f n x0 x1 x2 x3 x4 x5 = some f1) {H : Heap} {locs : List Loc} {cells slots : Nat} {ls : Array Slot} (hcap : cells + 17 ≤ 601024 ∧ slots + 3206 ≤ 7293034) (hI : g_at (g_A V) V g D cT f n s H locs) (hl : lv_has ls 9 [(0, .ref x0), (1, .ref x1), (2, .ref x2), (3, .ref x3), (4, .ref x4), (5, .int x5)])
    (kk : ∀ (H : Heap) (locs : List Loc) (ls : Array Slot) (n1 : Nat), n ≤ n1 → g_at (g_A V) V g D cT f1 n1 s H locs → lv_has ls 9 [(0, .ref x0), (1, .ref x1), (2, .ref x2), (3, .ref x3), (4, .ref x4), (5, .int x5)] → W p l e room_1 s m args below meth c H locs (cells + 17) (slots + 3206) Q (F0 m 3637 ls [])) : W p l e room_1 s m args below meth c H locs cells slots Q (F0 m 3582 ls []) := by
  obtain ⟨_, _, hml, hown, hB⟩ := id hC
  unfold p_case_57 at hq
  refine lv_aload_n hx hb dL_law_3582 rfl (lv_at hl 1 rfl) ?_
  obtain ⟨v1, ev1, hq⟩ := b_s hq
  refine gw_v (g_runV (As := []) (rest := []) (ci := 9) hC (c_X7_saveSnapshot l V g D cT f n x1 v1 ev1) k_X7_saveSnapshot m_602 rfl rfl ⟨Nat.le_of_ble_eq_true rfl, Nat.le_of_ble_eq_true rfl⟩ hI rfl rfl (h_me_eq ev1).1 rfl hl.1 rfl (Nat.le_of_ble_eq_true rfl) dL_law_3583 ⟨(by have := hcap.1; show _ ≤ 601024; omega), (by have := hcap.2; show _ ≤ 7293034; omega)⟩) hI (fun H locs hI => ?_)
  refine lv_aload_n hx hb dL_law_3586 rfl (lv_at hl 2 rfl) ?_
  obtain ⟨v2, ev2, hq⟩ := b_s hq
  refine gw_v (g_runV (As := []) (rest := []) (ci := 10) hC (c_X8_saveSnapshot l V g D cT v1 n x2 v2 ev2) k_X8_saveSnapshot m_2054 rfl rfl ⟨Nat.le_of_ble_eq_true rfl, Nat.le_of_ble_eq_true rfl⟩ hI rfl rfl (h_me_eq ev2).1 rfl hl.1 rfl (Nat.le_of_ble_eq_true rfl) dL_law_3587 ⟨(by have := hcap.1; show _ ≤ 601024; omega), (by have := hcap.2; show _ ≤ 7293034; omega)⟩) hI (fun H locs hI => ?_)
  refine lv_goto (tgt := 3637) hx hb dL_law_3590 (by decide) ?_
  obtain rfl := Option.some.inj hq
  refine W.widen (k := cells + 17) (n := slots + 3206) (by omega) (by omega) ?_
  exact kk _ _ _ _ (by omega) hI (lv_sub hl [0, 1, 2, 3, 4, 5] rfl)

set_option maxHeartbeats 4000000 in
set_option maxRecDepth 100000 in
theorem cs_58 {p : Program} {l : Launch} {e : Env} {s : State} {m : MethodId} {args : Array Value} {below : List Frame} {meth : Method} {c : Code} {V : Nat → Nat} {g : GH} {D : va_G} {cT : Nat → ClassId} (hl0 : l.stackTraces = false) (hx : p.tables.exec = Jvm.exec) (hb : c.code = cL_law) (hC : CallFix p m c cL_law 9 s args g_B RL) {Q : State → Prop} {f : GH} {n : Nat} (x0 x1 x2 x3 x4 : Nat) (x5 : Int32) {f1 : GH} (hq : p_case_58 V g f n x0 x1 x2 x3 x4 x5 = some f1) {H : Heap} {locs : List Loc} {cells slots : Nat} {ls : Array Slot} (hcap : cells + 17 ≤ 601024 ∧ slots + 3206 ≤ 7293034) (hI : g_at (g_A V) V g D cT f n s H locs) (hl : lv_has ls 9 [(0, .ref x0), (1, .ref x1), (2, .ref x2), (3, .ref x3), (4, .ref x4), (5, .int x5)])
    (kk : ∀ (H : Heap) (locs : List Loc) (ls : Array Slot) (n1 : Nat), n ≤ n1 → g_at (g_A V) V g D cT f1 n1 s H locs → lv_has ls 9 [(0, .ref x0), (1, .ref x1), (2, .ref x2), (3, .ref x3), (4, .ref x4), (5, .int x5)] → W p l e room_1 s m args below meth c H locs (cells + 17) (slots + 3206) Q (F0 m 3637 ls [])) : W p l e room_1 s m args below meth c H locs cells slots Q (F0 m 3593 ls []) := by
  obtain ⟨_, _, hml, hown, hB⟩ := id hC
  unfold p_case_58 at hq
  refine lv_aload_n hx hb dL_law_3593 rfl (lv_at hl 1 rfl) ?_
  refine lv_aload_n hx hb dL_law_3594 rfl (lv_at hl 3 rfl) ?_
  obtain ⟨v1, ev1, hq⟩ := b_s hq
  refine gl_i (g_runSW (As := [.ref x1, .ref x3]) (rest := []) hC (c_L_restoreSnapshot l hl0 V g D cT f n x1 x3 v1 ev1) k_L_restoreSnapshot m_1476 rfl rfl ⟨Nat.le_of_ble_eq_true rfl, Nat.le_of_ble_eq_true rfl⟩ hI rfl hl.1 rfl (Nat.le_of_ble_eq_true rfl) dL_law_3595 ⟨(by have := hcap.1; show _ ≤ 601024; omega), (by have := hcap.2; show _ ≤ 7293034; omega)⟩) hI (fun H locs n2 hn2 hI => ?_)
  refine lv_istore (lv' := [(6, .int v1.1), (0, .ref x0), (1, .ref x1), (2, .ref x2), (3, .ref x3), (4, .ref x4), (5, .int x5)]) hx hb dL_law_3598 hl (by decide) rfl (fun ls hl => ?_)
  refine lv_aload_n hx hb dL_law_3600 rfl (lv_at hl 3 rfl) ?_
  obtain ⟨v3, ev3, hq⟩ := b_s hq
  refine gw_i (g_runV (As := []) (rest := []) (ci := 10) hC (c_X8_restoreSnapshot l V g D cT v1.2 n2 x2 v3 ev3) k_X8_restoreSnapshot m_2058 rfl rfl ⟨Nat.le_of_ble_eq_true rfl, Nat.le_of_ble_eq_true rfl⟩ hI rfl rfl (h_me_eq ev3).1 rfl hl.1 rfl (Nat.le_of_ble_eq_true rfl) dL_law_3601 ⟨(by have := hcap.1; show _ ≤ 601024; omega), (by have := hcap.2; show _ ≤ 7293034; omega)⟩) hI (fun H locs hI => ?_)
  refine lv_istore (lv' := [(7, .int v3.1), (6, .int v1.1), (0, .ref x0), (1, .ref x1), (2, .ref x2), (3, .ref x3), (4, .ref x4), (5, .int x5)]) hx hb dL_law_3604 hl (by decide) rfl (fun ls hl => ?_)
  refine lv_aload_n hx hb dL_law_3606 rfl (lv_at hl 4 rfl) ?_
  obtain ⟨v4, ev4, hq⟩ := b_s hq
  refine gr_i (g_runV (As := []) (rest := []) (ci := 10) hC (c_X8_thrown l V g D cT v3.2 n2 x2 v4 ev4) k_X8_thrown m_1610 rfl rfl ⟨Nat.le_of_ble_eq_true rfl, Nat.le_of_ble_eq_true rfl⟩ hI rfl rfl (h_me_eq ev4).1 rfl hl.1 rfl (Nat.le_of_ble_eq_true rfl) dL_law_3607 ⟨(by have := hcap.1; show _ ≤ 601024; omega), (by have := hcap.2; show _ ≤ 7293034; omega)⟩) hI (fun H locs hI => ?_)
  refine lv_iload hx hb dL_law_3610 (lv_at hl 1 rfl) ?_
  refine lv_icmp_eq (tgt := 3617) hx hb dL_law_3612 (by decide) (fun c5 => ?_) (fun c5 => ?_)
  · replace hq := i_t c5 hq
    refine lv_iload hx hb dL_law_3617 (lv_at hl 1 rfl) ?_
    refine lv_if_ne (tgt := 3634) hx hb dL_law_3619 (by decide) (fun c6 => ?_) (fun c6 => ?_)
    · replace hq := i_f c6 hq
      refine lv_goto (tgt := 3637) hx hb dL_law_3634 (by decide) ?_
      obtain rfl := Option.some.inj hq
      refine W.widen (k := cells + 17) (n := slots + 3206) (by omega) (by omega) ?_
      exact kk _ _ _ _ (by omega) hI (lv_sub hl [2, 3, 4, 5, 6, 7] rfl)
    · replace hq := i_t c6 hq
      refine lv_aload_n hx hb dL_law_3622 rfl (lv_at hl 5 rfl) ?_
      refine lv_iconst (v := (0 : Int32)) hx hb dL_law_3623 (by decide) ?_
      obtain ⟨v7, ev7, hq⟩ := b_s hq
      refine fa_ll hx hb hI ev7 dL_law_3624 ?_
      refine lv_iload hx hb dL_law_3625 (lv_at hl 0 rfl) ?_
      refine lv_i2l (v := v3.1.toInt64) hx hb dL_law_3627 rfl ?_
      refine lv_lcmpN hx hb dL_law_3628 ?_
      refine lv_if_eq (tgt := 3634) hx hb dL_law_3629 (by decide) (fun c8 => ?_) (fun c8 => ?_)
      · replace hq := i_t c8 hq
        refine lv_goto (tgt := 3637) hx hb dL_law_3634 (by decide) ?_
        obtain rfl := Option.some.inj hq
        refine W.widen (k := cells + 17) (n := slots + 3206) (by omega) (by omega) ?_
        exact kk _ _ _ _ (by omega) hI (lv_sub hl [2, 3, 4, 5, 6, 7] rfl)
      · replace hq := i_f c8 hq
        refine lv_iconst (v := (0 : Int32)) hx hb dL_law_3632 (by decide) ?_
        cases hq
  · replace hq := i_f c5 hq
    refine lv_iconst (v := (0 : Int32)) hx hb dL_law_3615 (by decide) ?_
    cases hq


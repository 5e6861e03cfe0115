set_option maxHeartbeats 8000000 in
set_option maxRecDepth 100000 in
theorem law_run {p : Program} {l : Launch} {e : Env} {s : State} {m : MethodId} {args : Array Value} {below : List Frame} {meth : Method} {c : Code} {V : Nat → Nat} {g : GH} {D : va_G} {cT : Nat → ClassId} {Q : State → Prop} {o : Int32 × GH × Nat} (hl0 : l.stackTraces = false) (hx : p.tables.exec = Jvm.exec) (hb : c.code = cL_law) (hC : CallFix p m c cL_law 12 s args g_B RL) (hend : ∀ (pc : Nat), decode cL_law pc = .ok (.ireturn, 1) → ∀ {f : GH} {n : Nat} (H : Heap) (locs : List Loc) (ls : Array Slot), g_at (g_A V) V g D cT f n s H locs → W p l e room_1 s m args below meth c H locs 600086 7301442 Q (F0 m pc ls [.int (1 : Int32)])) (ho : o.1 = 1) (a0 : Nat) (f : GH) (n : Nat) (H : Heap) (locs : List Loc) (ls : Array Slot) (hI : g_at (g_A V) V g D cT f n s H locs) (hl : lv_has ls 12 [(0, .ref a0)]) (hq : p_L_law V g f n a0 = some o) : W p l e room_1 s m args below meth c H locs 0 0 Q (F0 m 0 ls []) := by
  obtain ⟨_, _, hml, hown, hB⟩ := id hC
  unfold p_L_law at hq
  obtain ⟨f1, ef1, hq⟩ := b_s hq
  refine fa_new (own := RL) (ci := 9) hx hb hB inB_RX7 tyX7_ok hown m_27 m_28 m_1 hI rfl (by decide +kernel) (by decide) (by decide) ef1 dL_law_0 (fun H locs hI => ?_)
  refine lv_dup hx hb dL_law_3 rfl ?_
  obtain ⟨v2, ev2, hq⟩ := b_s hq
  refine gw_v (g_runI (As := []) (rest := [.ref n]) hC (c_X7_init l V g D cT f1 (n + 1) n v2 ev2) k_X7_init m_29 rfl rfl ⟨Nat.le_of_ble_eq_true rfl, Nat.le_of_ble_eq_true rfl⟩ hI rfl hl.1 rfl (Nat.le_of_ble_eq_true rfl) dL_law_4 ⟨by show _ ≤ 600086; omega, by show _ ≤ 7301442; omega⟩) hI (fun H locs hI => ?_)
  refine lv_astore_n (lv' := [(1, .ref n), (0, .ref a0)]) hx hb dL_law_7 rfl hl (by decide) rfl (fun ls hl => ?_)
  refine lv_bipush (v := (6 : Int32)) hx hb dL_law_8 (by decide) ?_
  obtain ⟨f3, ef3, hq⟩ := b_s hq
  refine fa_newa (atype := .int) (N := 6) (t := 0) hx hb hB m_71 rfl (by decide) hI (fun _ => rfl) (by decide) (by decide +kernel) (by decide +kernel) (by decide) (by decide) ef3 dL_law_10 (fun H locs hI => ?_)
  refine lv_astore_n (lv' := [(2, .ref v2.2), (1, .ref n), (0, .ref a0)]) hx hb dL_law_12 rfl hl (by decide) rfl (fun ls hl => ?_)
  refine lv_aload_n hx hb dL_law_13 rfl (lv_at hl 2 rfl) ?_
  refine lv_iconst (v := (0 : Int32)) hx hb dL_law_14 (by decide) ?_
  obtain ⟨v4, ev4, hq⟩ := b_s hq
  refine gr0_i (g_runS (As := [.ref a0, .int (0 : Int32)]) (rest := []) hC (c_L_cell l hl0 V g D cT f3 (v2.2 + 1) a0 (0 : Int32) v4 ev4) k_L_cell m_548 rfl rfl ⟨Nat.le_of_ble_eq_true rfl, Nat.le_of_ble_eq_true rfl⟩ hI rfl hl.1 rfl (Nat.le_of_ble_eq_true rfl) dL_law_15 ⟨by show _ ≤ 600086; omega, by show _ ≤ 7301442; omega⟩) hI (fun H locs hI => ?_)
  refine lv_istore_n (lv' := [(3, .int v4), (2, .ref v2.2), (1, .ref n), (0, .ref a0)]) hx hb dL_law_18 rfl hl (by decide) rfl (fun ls hl => ?_)
  obtain ⟨f5, ef5, hq⟩ := b_s hq
  refine fa_new (own := RL) (ci := 1) hx hb hB inB_RJ4 tyJ4_ok hown m_996 m_198 m_10 hI rfl (by decide +kernel) (by decide) (by decide) ef5 dL_law_19 (fun H locs hI => ?_)
  refine lv_dup hx hb dL_law_22 rfl ?_
  refine lv_iload_n hx hb dL_law_23 rfl (lv_at hl 0 rfl) ?_
  refine lv_iconst (v := (2 : Int32)) hx hb dL_law_24 (by decide) ?_
  obtain ⟨v6, ev6, hq⟩ := b_s hq
  refine gr0_i (g_runS (As := [.int v4, .int (2 : Int32)]) (rest := [.ref (v2.2 + 1), .ref (v2.2 + 1)]) hC (c_L_most l hl0 V g D cT f5 (v2.2 + 2) v4 (2 : Int32) v6 ev6) k_L_most m_544 rfl rfl ⟨Nat.le_of_ble_eq_true rfl, Nat.le_of_ble_eq_true rfl⟩ hI rfl hl.1 rfl (Nat.le_of_ble_eq_true rfl) dL_law_25 ⟨by show _ ≤ 600086; omega, by show _ ≤ 7301442; omega⟩) hI (fun H locs hI => ?_)
  have hj38 : ∀ (x0 : Nat) (x1 : Nat) (x2 : Nat) (x3 : Int32) (t0 : Nat) (t1 : Nat) (t2 : Nat) (f : GH) (n : Nat) (H : Heap) (locs : List Loc) (ls : Array Slot), g_at (g_A V) V g D cT f n s H locs → lv_has ls 12 [(0, .ref x0), (1, .ref x1), (2, .ref x2), (3, .int x3)] → p_L_law_j38 V g x0 x1 x2 x3 t0 t1 t2 f n = some o → W p l e room_1 s m args below meth c H locs 317 36797 Q (F0 m 38 ls [.ref t0, .ref t1, .ref t2]) := by
    intro x0 x1 x2 x3 t0 t1 t2 f n H locs ls hI hl hq
    unfold p_L_law_j38 at hq
    obtain ⟨v7, ev7, hq⟩ := b_s hq
    refine gw_v (g_runI (As := [.ref t0]) (rest := [.ref t2]) hC (c_J4_init_a7421 l V g D cT f n t1 t0 v7 ev7) k_J4_init_a7421 m_1237 rfl rfl ⟨Nat.le_of_ble_eq_true rfl, Nat.le_of_ble_eq_true rfl⟩ hI rfl hl.1 rfl (Nat.le_of_ble_eq_true rfl) dL_law_38 ⟨by show _ ≤ 600086; omega, by show _ ≤ 7301442; omega⟩) hI (fun H locs hI => ?_)
    refine lv_astore (lv' := [(4, .ref t2), (0, .ref x0), (1, .ref x1), (2, .ref x2), (3, .int x3)]) hx hb dL_law_41 hl (by decide) rfl (fun ls hl => ?_)
    refine lv_iload_n hx hb dL_law_43 rfl (lv_at hl 4 rfl) ?_
    refine lv_iconst (v := (1 : Int32)) hx hb dL_law_44 (by decide) ?_
    refine lv_ishr hx hb dL_law_45 ?_
    refine lv_iconst (v := (5 : Int32)) hx hb dL_law_46 (by decide) ?_
    obtain ⟨v8, ev8, hq⟩ := b_s hq
    refine gr0_i (g_runS (As := [.int (x3 >>> ((1 : Int32) &&& 31)), .int (5 : Int32)]) (rest := []) hC (c_L_most l hl0 V g D cT v7.1 v7.2 (x3 >>> ((1 : Int32) &&& 31)) (5 : Int32) v8 ev8) k_L_most m_544 rfl rfl ⟨Nat.le_of_ble_eq_true rfl, Nat.le_of_ble_eq_true rfl⟩ hI rfl hl.1 rfl (Nat.le_of_ble_eq_true rfl) dL_law_47 ⟨by show _ ≤ 600086; omega, by show _ ≤ 7301442; omega⟩) hI (fun H locs hI => ?_)
    refine lv_istore (lv' := [(5, .int v8), (4, .ref t2), (0, .ref x0), (1, .ref x1), (2, .ref x2), (3, .int x3)]) hx hb dL_law_50 hl (by decide) rfl (fun ls hl => ?_)
    refine lv_iconst (v := (0 : Int32)) hx hb dL_law_52 (by decide) ?_
    refine lv_istore (lv' := [(6, .int (0 : Int32)), (5, .int v8), (4, .ref t2), (0, .ref x0), (1, .ref x1), (2, .ref x2), (3, .int x3)]) hx hb dL_law_53 hl (by decide) rfl (fun ls hl => ?_)
    have hl55 : ∀ (K236 : Nat → Nat → Nat → Nat → Int32 → GH → Nat → Option (Int32 × GH × Nat)) (hK236 : ∀ (x0 : Nat) (x1 : Nat) (x2 : Nat) (x4 : Nat) (x5 : Int32) (f : GH) (n : Nat) (H : Heap) (locs : List Loc) (ls : Array Slot), g_at (g_A V) V g D cT f n s H locs → lv_has ls 12 [(0, .ref x0), (1, .ref x1), (2, .ref x2), (4, .ref x4), (5, .int x5)] → K236 x0 x1 x2 x4 x5 f n = some o → W p l e room_1 s m args below meth c H locs 487 138257 Q (F0 m 236 ls [])) (N55 : Nat) (_ : N55 ≤ 5) (x0 : Nat) (x1 : Nat) (x2 : Nat) (x4 : Nat) (x5 : Int32) (x6 : Int32) (f : GH) (n : Nat) (H : Heap) (locs : List Loc) (ls : Array Slot), g_at (g_A V) V g D cT f n s H locs → lv_has ls 12 [(0, .ref x0), (1, .ref x1), (2, .ref x2), (4, .ref x4), (5, .int x5), (6, .int x6)] → p_L_law_l55 V g K236 N55 x0 x1 x2 x4 x5 x6 f n = some o → W p l e room_1 s m args below meth c H locs (319 + 42 * (5 - N55)) (37457 + 25200 * (5 - N55)) Q (F0 m 55 ls []) := by
      intro K236 hK236 N55
      induction N55 with
      | zero =>
        intro _ x0 x1 x2 x4 x5 x6 f n H locs ls hI hl hq
        rw [p_L_law_l55] at hq
        cases hq
      | succ N55 ih550 =>
        intro hN55 x0 x1 x2 x4 x5 x6 f n H locs ls hI hl hq
        have ih55 := ih550 (by omega)
        rw [p_L_law_l55] at hq
        refine lv_iload hx hb dL_law_55 (lv_at hl 5 rfl) ?_
        refine lv_iload hx hb dL_law_57 (lv_at hl 4 rfl) ?_
        refine lv_icmp_ge (tgt := 236) hx hb dL_law_59 (by decide) (fun c9 => ?_) (fun c9 => ?_)
        · replace hq := i_t c9 hq
          refine W.widen (k := 487) (n := 138257) (by omega) (by omega) ?_
          exact hK236 x0 x1 x2 x4 x5 f n H locs ls hI (lv_sub hl [0, 1, 2, 3, 4] rfl) hq
        · replace hq := i_f c9 hq
          refine lv_aload_n hx hb dL_law_62 rfl (lv_at hl 0 rfl) ?_
          refine lv_iconst (v := (1 : Int32)) hx hb dL_law_63 (by decide) ?_
          refine lv_iload hx hb dL_law_64 (lv_at hl 5 rfl) ?_
          refine lv_iadd hx hb dL_law_66 ?_
          obtain ⟨v10, ev10, hq⟩ := b_s hq
          refine gr0_i (g_runS (As := [.ref x0, .int ((1 : Int32) + x6)]) (rest := []) hC (c_L_cell l hl0 V g D cT f n x0 ((1 : Int32) + x6) v10 ev10) k_L_cell m_548 rfl rfl ⟨Nat.le_of_ble_eq_true rfl, Nat.le_of_ble_eq_true rfl⟩ hI rfl hl.1 rfl (Nat.le_of_ble_eq_true rfl) dL_law_67 ⟨by show _ ≤ 600086; omega, by show _ ≤ 7301442; omega⟩) hI (fun H locs hI => ?_)
          refine lv_istore (lv' := [(7, .int v10), (0, .ref x0), (1, .ref x1), (2, .ref x2), (4, .ref x4), (5, .int x5), (6, .int x6)]) hx hb dL_law_70 hl (by decide) rfl (fun ls hl => ?_)
          refine lv_iload hx hb dL_law_72 (lv_at hl 0 rfl) ?_
          refine lv_iconst (v := (2 : Int32)) hx hb dL_law_74 (by decide) ?_
          obtain ⟨v11, ev11, hq⟩ := b_s hq
          refine gr0_i (g_runS (As := [.int v10, .int (2 : Int32)]) (rest := []) hC (c_L_most l hl0 V g D cT f n v10 (2 : Int32) v11 ev11) k_L_most m_544 rfl rfl ⟨Nat.le_of_ble_eq_true rfl, Nat.le_of_ble_eq_true rfl⟩ hI rfl hl.1 rfl (Nat.le_of_ble_eq_true rfl) dL_law_75 ⟨by show _ ≤ 600086; omega, by show _ ≤ 7301442; omega⟩) hI (fun H locs hI => ?_)
          have hj86 : ∀ (x0 : Nat) (x1 : Nat) (x2 : Nat) (x4 : Nat) (x5 : Int32) (x6 : Int32) (x7 : Int32) (t0 : Int32) (f : GH) (n : Nat) (H : Heap) (locs : List Loc) (ls : Array Slot), g_at (g_A V) V g D cT f n s H locs → lv_has ls 12 [(0, .ref x0), (1, .ref x1), (2, .ref x2), (4, .ref x4), (5, .int x5), (6, .int x6), (7, .int x7)] → p_L_law_j86 V g (p_L_law_l55 V g K236 N55) x0 x1 x2 x4 x5 x6 x7 t0 f n = some o → W p l e room_1 s m args below meth c H locs (319 + 42 * (5 - (N55 + 1))) (37457 + 25200 * (5 - (N55 + 1))) Q (F0 m 86 ls [.int t0]) := by
            intro x0 x1 x2 x4 x5 x6 x7 t0 f n H locs ls hI hl hq
            unfold p_L_law_j86 at hq
            refine lv_istore (lv' := [(8, .int t0), (0, .ref x0), (1, .ref x1), (2, .ref x2), (4, .ref x4), (5, .int x5), (6, .int x6), (7, .int x7)]) hx hb dL_law_86 hl (by decide) rfl (fun ls hl => ?_)
            refine lv_iconst (v := (3 : Int32)) hx hb dL_law_88 (by decide) ?_
            refine lv_iload hx hb dL_law_89 (lv_at hl 7 rfl) ?_
            refine lv_iconst (v := (1 : Int32)) hx hb dL_law_91 (by decide) ?_
            refine lv_ishr hx hb dL_law_92 ?_
            refine lv_bipush (v := (6 : Int32)) hx hb dL_law_93 (by decide) ?_
            obtain ⟨v12, ev12, hq⟩ := b_s hq
            refine gr0_i (g_runS (As := [.int (x7 >>> ((1 : Int32) &&& 31)), .int (6 : Int32)]) (rest := [.int (3 : Int32)]) hC (c_L_most l hl0 V g D cT f n (x7 >>> ((1 : Int32) &&& 31)) (6 : Int32) v12 ev12) k_L_most m_544 rfl rfl ⟨Nat.le_of_ble_eq_true rfl, Nat.le_of_ble_eq_true rfl⟩ hI rfl hl.1 rfl (Nat.le_of_ble_eq_true rfl) dL_law_95 ⟨by show _ ≤ 600086; omega, by show _ ≤ 7301442; omega⟩) hI (fun H locs hI => ?_)
            refine lv_iadd hx hb dL_law_98 ?_
            refine lv_istore (lv' := [(9, .int ((3 : Int32) + v12)), (8, .int t0), (0, .ref x0), (1, .ref x1), (2, .ref x2), (4, .ref x4), (5, .int x5), (6, .int x6), (7, .int x7)]) hx hb dL_law_99 hl (by decide) rfl (fun ls hl => ?_)
            refine lv_aload hx hb dL_law_101 (lv_at hl 5 rfl) ?_
            refine lv_iload hx hb dL_law_103 (lv_at hl 1 rfl) ?_
            have hj115 : ∀ (x0 : Nat) (x1 : Nat) (x2 : Nat) (x4 : Nat) (x5 : Int32) (x6 : Int32) (x7 : Int32) (x9 : Int32) (t0 : Nat) (t1 : Nat) (f : GH) (n : Nat) (H : Heap) (locs : List Loc) (ls : Array Slot), g_at (g_A V) V g D cT f n s H locs → lv_has ls 12 [(0, .ref x0), (1, .ref x1), (2, .ref x2), (4, .ref x4), (5, .int x5), (6, .int x6), (7, .int x7), (9, .int x9)] → p_L_law_j115 V g (p_L_law_l55 V g K236 N55) x0 x1 x2 x4 x5 x6 x7 x9 t0 t1 f n = some o → W p l e room_1 s m args below meth c H locs (319 + 42 * (5 - (N55 + 1))) (37457 + 25200 * (5 - (N55 + 1))) Q (F0 m 115 ls [.ref t0, .ref t1]) := by
              intro x0 x1 x2 x4 x5 x6 x7 x9 t0 t1 f n H locs ls hI hl hq
              unfold p_L_law_j115 at hq
              obtain ⟨v13, ev13, hq⟩ := b_s hq
              refine gw_r (g_runV (As := [.ref t0]) (rest := []) (ci := 1) hC (c_J4_append_15ec4 l V g D cT f n t1 t0 v13 ev13) k_J4_append_15ec4 m_1000 rfl rfl ⟨Nat.le_of_ble_eq_true rfl, Nat.le_of_ble_eq_true rfl⟩ hI rfl rfl (h_me_eq ev13).1 rfl hl.1 rfl (Nat.le_of_ble_eq_true rfl) dL_law_115 ⟨by show _ ≤ 600086; omega, by show _ ≤ 7301442; omega⟩) hI (fun H locs hI => ?_)
              refine lv_pop hx hb dL_law_118 rfl ?_
              refine lv_iconst (v := (0 : Int32)) hx hb dL_law_119 (by decide) ?_
              refine lv_istore (lv' := [(10, .int (0 : Int32)), (0, .ref x0), (1, .ref x1), (2, .ref x2), (4, .ref x4), (5, .int x5), (6, .int x6), (7, .int x7), (9, .int x9)]) hx hb dL_law_120 hl (by decide) rfl (fun ls hl => ?_)
              have hl122 : ∀ (K222 : Nat → Nat → Nat → Nat → Int32 → Int32 → GH → Nat → Option (Int32 × GH × Nat)) (hK222 : ∀ (x0 : Nat) (x1 : Nat) (x2 : Nat) (x4 : Nat) (x5 : Int32) (x6 : Int32) (f : GH) (n : Nat) (H : Heap) (locs : List Loc) (ls : Array Slot), g_at (g_A V) V g D cT f n s H locs → lv_has ls 12 [(0, .ref x0), (1, .ref x1), (2, .ref x2), (4, .ref x4), (5, .int x5), (6, .int x6)] → K222 x0 x1 x2 x4 x5 x6 f n = some o → W p l e room_1 s m args below meth c H locs (360 + 42 * (5 - (N55 + 1))) (62057 + 25200 * (5 - (N55 + 1))) Q (F0 m 222 ls [])) (N122 : Nat) (_ : N122 ≤ 9) (x0 : Nat) (x1 : Nat) (x2 : Nat) (x4 : Nat) (x5 : Int32) (x6 : Int32) (x7 : Int32) (x9 : Int32) (x10 : Int32) (f : GH) (n : Nat) (H : Heap) (locs : List Loc) (ls : Array Slot), g_at (g_A V) V g D cT f n s H locs → lv_has ls 12 [(0, .ref x0), (1, .ref x1), (2, .ref x2), (4, .ref x4), (5, .int x5), (6, .int x6), (7, .int x7), (9, .int x9), (10, .int x10)] → p_L_law_l122 V g K222 N122 x0 x1 x2 x4 x5 x6 x7 x9 x10 f n = some o → W p l e room_1 s m args below meth c H locs (320 + 42 * (5 - (N55 + 1)) + 5 * (9 - N122)) (38057 + 25200 * (5 - (N55 + 1)) + 3000 * (9 - N122)) Q (F0 m 122 ls []) := by
                intro K222 hK222 N122
                induction N122 with
                | zero =>
                  intro _ x0 x1 x2 x4 x5 x6 x7 x9 x10 f n H locs ls hI hl hq
                  rw [p_L_law_l122] at hq
                  cases hq
                | succ N122 ih1220 =>
                  intro hN122 x0 x1 x2 x4 x5 x6 x7 x9 x10 f n H locs ls hI hl hq
                  have ih122 := ih1220 (by omega)
                  rw [p_L_law_l122] at hq
                  refine lv_iload hx hb dL_law_122 (lv_at hl 8 rfl) ?_
                  refine lv_iload hx hb dL_law_124 (lv_at hl 7 rfl) ?_
                  refine lv_icmp_ge (tgt := 222) hx hb dL_law_126 (by decide) (fun c14 => ?_) (fun c14 => ?_)
                  · replace hq := i_t c14 hq
                    refine W.widen (k := (360 + 42 * (5 - (N55 + 1)))) (n := (62057 + 25200 * (5 - (N55 + 1)))) (by omega) (by omega) ?_
                    exact hK222 x0 x1 x2 x4 x5 x6 f n H locs ls hI (lv_sub hl [0, 1, 2, 3, 4, 5] rfl) hq
                  · replace hq := i_f c14 hq
                    refine lv_aload hx hb dL_law_129 (lv_at hl 3 rfl) ?_
                    refine lv_iload hx hb dL_law_131 (lv_at hl 8 rfl) ?_
                    have hj143 : ∀ (x0 : Nat) (x1 : Nat) (x2 : Nat) (x4 : Nat) (x5 : Int32) (x6 : Int32) (x7 : Int32) (x9 : Int32) (x10 : Int32) (t0 : Nat) (t1 : Nat) (f : GH) (n : Nat) (H : Heap) (locs : List Loc) (ls : Array Slot), g_at (g_A V) V g D cT f n s H locs → lv_has ls 12 [(0, .ref x0), (1, .ref x1), (2, .ref x2), (4, .ref x4), (5, .int x5), (6, .int x6), (7, .int x7), (9, .int x9), (10, .int x10)] → p_L_law_j143 V g (p_L_law_l122 V g K222 N122) x0 x1 x2 x4 x5 x6 x7 x9 x10 t0 t1 f n = some o → W p l e room_1 s m args below meth c H locs (320 + 42 * (5 - (N55 + 1)) + 5 * (9 - (N122 + 1))) (38057 + 25200 * (5 - (N55 + 1)) + 3000 * (9 - (N122 + 1))) Q (F0 m 143 ls [.ref t0, .ref t1]) := by
                      intro x0 x1 x2 x4 x5 x6 x7 x9 x10 t0 t1 f n H locs ls hI hl hq
                      unfold p_L_law_j143 at hq
                      obtain ⟨v15, ev15, hq⟩ := b_s hq
                      refine gw_r (g_runV (As := [.ref t0]) (rest := []) (ci := 1) hC (c_J4_append_15ec4 l V g D cT f n t1 t0 v15 ev15) k_J4_append_15ec4 m_1000 rfl rfl ⟨Nat.le_of_ble_eq_true rfl, Nat.le_of_ble_eq_true rfl⟩ hI rfl rfl (h_me_eq ev15).1 rfl hl.1 rfl (Nat.le_of_ble_eq_true rfl) dL_law_143 ⟨by show _ ≤ 600086; omega, by show _ ≤ 7301442; omega⟩) hI (fun H locs hI => ?_)
                      refine lv_iload hx hb dL_law_146 (lv_at hl 6 rfl) ?_
                      refine lv_iload hx hb dL_law_148 (lv_at hl 8 rfl) ?_
                      refine lv_iconst (v := (2 : Int32)) hx hb dL_law_150 (by decide) ?_
                      refine lv_iadd hx hb dL_law_151 ?_
                      refine lv_ishr hx hb dL_law_152 ?_
                      refine lv_iconst (v := (2 : Int32)) hx hb dL_law_153 (by decide) ?_
                      obtain ⟨v16, ev16, hq⟩ := b_s hq
                      refine gr0_i (g_runS (As := [.int (x7 >>> ((x10 + (2 : Int32)) &&& 31)), .int (2 : Int32)]) (rest := [.ref v15.1]) hC (c_L_most l hl0 V g D cT v15.2.1 v15.2.2 (x7 >>> ((x10 + (2 : Int32)) &&& 31)) (2 : Int32) v16 ev16) k_L_most m_544 rfl rfl ⟨Nat.le_of_ble_eq_true rfl, Nat.le_of_ble_eq_true rfl⟩ hI rfl hl.1 rfl (Nat.le_of_ble_eq_true rfl) dL_law_154 ⟨by show _ ≤ 600086; omega, by show _ ≤ 7301442; omega⟩) hI (fun H locs hI => ?_)
                      have hj167 : ∀ (x0 : Nat) (x1 : Nat) (x2 : Nat) (x4 : Nat) (x5 : Int32) (x6 : Int32) (x7 : Int32) (x9 : Int32) (x10 : Int32) (t0 : Nat) (t1 : Nat) (f : GH) (n : Nat) (H : Heap) (locs : List Loc) (ls : Array Slot), g_at (g_A V) V g D cT f n s H locs → lv_has ls 12 [(0, .ref x0), (1, .ref x1), (2, .ref x2), (4, .ref x4), (5, .int x5), (6, .int x6), (7, .int x7), (9, .int x9), (10, .int x10)] → p_L_law_j167 V g (p_L_law_l122 V g K222 N122) x0 x1 x2 x4 x5 x6 x7 x9 x10 t0 t1 f n = some o → W p l e room_1 s m args below meth c H locs (321 + 42 * (5 - (N55 + 1)) + 5 * (9 - (N122 + 1))) (38657 + 25200 * (5 - (N55 + 1)) + 3000 * (9 - (N122 + 1))) Q (F0 m 167 ls [.ref t0, .ref t1]) := by
                        intro x0 x1 x2 x4 x5 x6 x7 x9 x10 t0 t1 f n H locs ls hI hl hq
                        unfold p_L_law_j167 at hq
                        obtain ⟨v17, ev17, hq⟩ := b_s hq
                        refine gw_r (g_runV (As := [.ref t0]) (rest := []) (ci := 1) hC (c_J4_append_15ec4 l V g D cT f n t1 t0 v17 ev17) k_J4_append_15ec4 m_1000 rfl rfl ⟨Nat.le_of_ble_eq_true rfl, Nat.le_of_ble_eq_true rfl⟩ hI rfl rfl (h_me_eq ev17).1 rfl hl.1 rfl (Nat.le_of_ble_eq_true rfl) dL_law_167 ⟨by show _ ≤ 600086; omega, by show _ ≤ 7301442; omega⟩) hI (fun H locs hI => ?_)
                        refine lv_iload hx hb dL_law_170 (lv_at hl 6 rfl) ?_
                        refine lv_iload hx hb dL_law_172 (lv_at hl 8 rfl) ?_
                        refine lv_ishr hx hb dL_law_174 ?_
                        refine lv_bipush (v := (7 : Int32)) hx hb dL_law_175 (by decide) ?_
                        refine lv_iload hx hb dL_law_177 (lv_at hl 8 rfl) ?_
                        refine lv_imul hx hb dL_law_179 ?_
                        refine lv_iadd hx hb dL_law_180 ?_
                        refine lv_bipush (v := (80 : Int32)) hx hb dL_law_181 (by decide) ?_
                        obtain ⟨v18, ev18, hq⟩ := b_s hq
                        refine gr0_i (g_runS (As := [.int ((x7 >>> (x10 &&& 31)) + ((7 : Int32) * x10)), .int (80 : Int32)]) (rest := [.ref v17.1]) hC (c_L_most l hl0 V g D cT v17.2.1 v17.2.2 ((x7 >>> (x10 &&& 31)) + ((7 : Int32) * x10)) (80 : Int32) v18 ev18) k_L_most m_544 rfl rfl ⟨Nat.le_of_ble_eq_true rfl, Nat.le_of_ble_eq_true rfl⟩ hI rfl hl.1 rfl (Nat.le_of_ble_eq_true rfl) dL_law_183 ⟨by show _ ≤ 600086; omega, by show _ ≤ 7301442; omega⟩) hI (fun H locs hI => ?_)
                        obtain ⟨v19, ev19, hq⟩ := b_s hq
                        refine gw_r (g_runV (As := [.int v18]) (rest := []) (ci := 1) hC (c_J4_append_bf812 l V g D cT v17.2.1 v17.2.2 v17.1 v18 v19 ev19) k_J4_append_bf812 m_1095 rfl rfl ⟨Nat.le_of_ble_eq_true rfl, Nat.le_of_ble_eq_true rfl⟩ hI rfl rfl (h_me_eq ev19).1 rfl hl.1 rfl (Nat.le_of_ble_eq_true rfl) dL_law_186 ⟨by show _ ≤ 600086; omega, by show _ ≤ 7301442; omega⟩) hI (fun H locs hI => ?_)
                        refine lv_bipush (v := (32 : Int32)) hx hb dL_law_189 (by decide) ?_
                        obtain ⟨v20, ev20, hq⟩ := b_s hq
                        refine gw_r (g_runV (As := [.int (32 : Int32)]) (rest := []) (ci := 1) hC (c_J4_append_cf468 l V g D cT v19.2.1 v19.2.2 v19.1 (32 : Int32) v20 ev20) k_J4_append_cf468 m_1248 rfl rfl ⟨Nat.le_of_ble_eq_true rfl, Nat.le_of_ble_eq_true rfl⟩ hI rfl rfl (h_me_eq ev20).1 rfl hl.1 rfl (Nat.le_of_ble_eq_true rfl) dL_law_191 ⟨by show _ ≤ 600086; omega, by show _ ≤ 7301442; omega⟩) hI (fun H locs hI => ?_)
                        refine lv_iload hx hb dL_law_194 (lv_at hl 6 rfl) ?_
                        refine lv_iload hx hb dL_law_196 (lv_at hl 8 rfl) ?_
                        refine lv_iconst (v := (3 : Int32)) hx hb dL_law_198 (by decide) ?_
                        refine lv_iadd hx hb dL_law_199 ?_
                        refine lv_ishr hx hb dL_law_200 ?_
                        refine lv_bipush (v := (11 : Int32)) hx hb dL_law_201 (by decide) ?_
                        refine lv_iload hx hb dL_law_203 (lv_at hl 8 rfl) ?_
                        refine lv_imul hx hb dL_law_205 ?_
                        refine lv_iadd hx hb dL_law_206 ?_
                        refine lv_bipush (v := (80 : Int32)) hx hb dL_law_207 (by decide) ?_
                        obtain ⟨v21, ev21, hq⟩ := b_s hq
                        refine gr0_i (g_runS (As := [.int ((x7 >>> ((x10 + (3 : Int32)) &&& 31)) + ((11 : Int32) * x10)), .int (80 : Int32)]) (rest := [.ref v20.1]) hC (c_L_most l hl0 V g D cT v20.2.1 v20.2.2 ((x7 >>> ((x10 + (3 : Int32)) &&& 31)) + ((11 : Int32) * x10)) (80 : Int32) v21 ev21) k_L_most m_544 rfl rfl ⟨Nat.le_of_ble_eq_true rfl, Nat.le_of_ble_eq_true rfl⟩ hI rfl hl.1 rfl (Nat.le_of_ble_eq_true rfl) dL_law_209 ⟨by show _ ≤ 600086; omega, by show _ ≤ 7301442; omega⟩) hI (fun H locs hI => ?_)
                        obtain ⟨v22, ev22, hq⟩ := b_s hq
                        refine gw_r (g_runV (As := [.int v21]) (rest := []) (ci := 1) hC (c_J4_append_bf812 l V g D cT v20.2.1 v20.2.2 v20.1 v21 v22 ev22) k_J4_append_bf812 m_1095 rfl rfl ⟨Nat.le_of_ble_eq_true rfl, Nat.le_of_ble_eq_true rfl⟩ hI rfl rfl (h_me_eq ev22).1 rfl hl.1 rfl (Nat.le_of_ble_eq_true rfl) dL_law_212 ⟨by show _ ≤ 600086; omega, by show _ ≤ 7301442; omega⟩) hI (fun H locs hI => ?_)
                        refine lv_pop hx hb dL_law_215 rfl ?_
                        refine lv_iinc (v := x10 + (1 : Int32)) (lv' := [(10, .int (x10 + (1 : Int32))), (0, .ref x0), (1, .ref x1), (2, .ref x2), (4, .ref x4), (5, .int x5), (6, .int x6), (7, .int x7), (9, .int x9)]) hx hb dL_law_216 hl (k := 8) rfl rfl (by decide) rfl (fun ls hl => ?_)
                        refine lv_goto (tgt := 122) hx hb dL_law_219 (by decide) ?_
                        refine W.widen (k := (320 + 42 * (5 - (N55 + 1)) + 5 * (9 - N122))) (n := (38057 + 25200 * (5 - (N55 + 1)) + 3000 * (9 - N122))) (by omega) (by omega) ?_
                        exact ih122 x0 x1 x2 x4 x5 x6 x7 x9 (x10 + (1 : Int32)) v22.2.1 v22.2.2 H locs ls hI (lv_sub hl [1, 2, 3, 4, 5, 6, 7, 8, 0] rfl) hq
                      refine lv_if_ne (tgt := 165) hx hb dL_law_157 (by decide) (fun c23 => ?_) (fun c23 => ?_)
                      · replace hq := i_f c23 hq
                        refine lv_ldcS hx hb hown (g_rtq hI rt_20) dL_law_165 ?_
                        refine W.widen (k := (321 + 42 * (5 - (N55 + 1)) + 5 * (9 - (N122 + 1)))) (n := (38657 + 25200 * (5 - (N55 + 1)) + 3000 * (9 - (N122 + 1)))) (by omega) (by omega) ?_
                        exact hj167 x0 x1 x2 x4 x5 x6 x7 x9 x10 (V 57) v15.1 v15.2.1 v15.2.2 H locs ls hI (lv_sub hl [0, 1, 2, 3, 4, 5, 6, 7, 8] rfl) hq
                      · replace hq := i_t c23 hq
                        refine lv_ldcS hx hb hown (g_rtq hI rt_21) dL_law_160 ?_
                        refine lv_goto (tgt := 167) hx hb dL_law_162 (by decide) ?_
                        refine W.widen (k := (321 + 42 * (5 - (N55 + 1)) + 5 * (9 - (N122 + 1)))) (n := (38657 + 25200 * (5 - (N55 + 1)) + 3000 * (9 - (N122 + 1)))) (by omega) (by omega) ?_
                        exact hj167 x0 x1 x2 x4 x5 x6 x7 x9 x10 (V 58) v15.1 v15.2.1 v15.2.2 H locs ls hI (lv_sub hl [0, 1, 2, 3, 4, 5, 6, 7, 8] rfl) hq
                    refine lv_if_le (tgt := 141) hx hb dL_law_133 (by decide) (fun c24 => ?_) (fun c24 => ?_)
                    · replace hq := i_t c24 hq
                      refine lv_ldcS hx hb hown (g_rtq hI rt_20) dL_law_141 ?_
                      refine W.widen (k := (320 + 42 * (5 - (N55 + 1)) + 5 * (9 - (N122 + 1)))) (n := (38057 + 25200 * (5 - (N55 + 1)) + 3000 * (9 - (N122 + 1)))) (by omega) (by omega) ?_
                      exact hj143 x0 x1 x2 x4 x5 x6 x7 x9 x10 (V 57) x4 f n H locs ls hI (lv_sub hl [0, 1, 2, 3, 4, 5, 6, 7, 8] rfl) hq
                    · replace hq := i_f c24 hq
                      refine lv_ldcS hx hb hown (g_rtq hI rt_16) dL_law_136 ?_
                      refine lv_goto (tgt := 143) hx hb dL_law_138 (by decide) ?_
                      refine W.widen (k := (320 + 42 * (5 - (N55 + 1)) + 5 * (9 - (N122 + 1)))) (n := (38057 + 25200 * (5 - (N55 + 1)) + 3000 * (9 - (N122 + 1)))) (by omega) (by omega) ?_
                      exact hj143 x0 x1 x2 x4 x5 x6 x7 x9 x10 (V 53) x4 f n H locs ls hI (lv_sub hl [0, 1, 2, 3, 4, 5, 6, 7, 8] rfl) hq
              refine W.widen (k := (320 + 42 * (5 - (N55 + 1)) + 5 * (9 - 9))) (n := (38057 + 25200 * (5 - (N55 + 1)) + 3000 * (9 - 9))) (by omega) (by omega) ?_
              refine hl122 _ ?_ 9 (Nat.le_refl _) x0 x1 x2 x4 x5 x6 x7 x9 (0 : Int32) v13.2.1 v13.2.2 H locs ls hI (lv_sub hl [1, 2, 3, 4, 5, 6, 7, 8, 0] rfl) hq
              · intro x0 x1 x2 x4 x5 x6 f n H locs ls hI hl hq
                refine lv_aload hx hb dL_law_222 (lv_at hl 3 rfl) ?_
                refine lv_bipush (v := (59 : Int32)) hx hb dL_law_224 (by decide) ?_
                obtain ⟨v25, ev25, hq⟩ := b_s hq
                refine gw_r (g_runV (As := [.int (59 : Int32)]) (rest := []) (ci := 1) hC (c_J4_append_cf468 l V g D cT f n x4 (59 : Int32) v25 ev25) k_J4_append_cf468 m_1248 rfl rfl ⟨Nat.le_of_ble_eq_true rfl, Nat.le_of_ble_eq_true rfl⟩ hI rfl rfl (h_me_eq ev25).1 rfl hl.1 rfl (Nat.le_of_ble_eq_true rfl) dL_law_226 ⟨by show _ ≤ 600086; omega, by show _ ≤ 7301442; omega⟩) hI (fun H locs hI => ?_)
                refine lv_pop hx hb dL_law_229 rfl ?_
                refine lv_iinc (v := x6 + (1 : Int32)) (lv' := [(6, .int (x6 + (1 : Int32))), (0, .ref x0), (1, .ref x1), (2, .ref x2), (4, .ref x4), (5, .int x5)]) hx hb dL_law_230 hl (k := 5) rfl rfl (by decide) rfl (fun ls hl => ?_)
                refine lv_goto (tgt := 55) hx hb dL_law_233 (by decide) ?_
                refine W.widen (k := (319 + 42 * (5 - N55))) (n := (37457 + 25200 * (5 - N55))) (by omega) (by omega) ?_
                exact ih55 x0 x1 x2 x4 x5 (x6 + (1 : Int32)) v25.2.1 v25.2.2 H locs ls hI (lv_sub hl [1, 2, 3, 4, 5, 0] rfl) hq
            refine lv_if_eq (tgt := 113) hx hb dL_law_105 (by decide) (fun c26 => ?_) (fun c26 => ?_)
            · replace hq := i_t c26 hq
              refine lv_ldcS hx hb hown (g_rtq hI rt_14) dL_law_113 ?_
              refine W.widen (k := (319 + 42 * (5 - (N55 + 1)))) (n := (37457 + 25200 * (5 - (N55 + 1)))) (by omega) (by omega) ?_
              exact hj115 x0 x1 x2 x4 x5 x6 x7 ((3 : Int32) + v12) (V 51) x4 f n H locs ls hI (lv_sub hl [2, 3, 4, 5, 6, 7, 8, 0] rfl) hq
            · replace hq := i_f c26 hq
              refine lv_ldcS hx hb hown (g_rtq hI rt_13) dL_law_108 ?_
              refine lv_goto (tgt := 115) hx hb dL_law_110 (by decide) ?_
              refine W.widen (k := (319 + 42 * (5 - (N55 + 1)))) (n := (37457 + 25200 * (5 - (N55 + 1)))) (by omega) (by omega) ?_
              exact hj115 x0 x1 x2 x4 x5 x6 x7 ((3 : Int32) + v12) (V 50) x4 f n H locs ls hI (lv_sub hl [2, 3, 4, 5, 6, 7, 8, 0] rfl) hq
          refine lv_if_ne (tgt := 85) hx hb dL_law_78 (by decide) (fun c27 => ?_) (fun c27 => ?_)
          · replace hq := i_f c27 hq
            refine lv_iconst (v := (0 : Int32)) hx hb dL_law_85 (by decide) ?_
            refine W.widen (k := (319 + 42 * (5 - (N55 + 1)))) (n := (37457 + 25200 * (5 - (N55 + 1)))) (by omega) (by omega) ?_
            exact hj86 x0 x1 x2 x4 x5 x6 v10 (0 : Int32) f n H locs ls hI (lv_sub hl [1, 2, 3, 4, 5, 6, 0] rfl) hq
          · replace hq := i_t c27 hq
            refine lv_iconst (v := (1 : Int32)) hx hb dL_law_81 (by decide) ?_
            refine lv_goto (tgt := 86) hx hb dL_law_82 (by decide) ?_
            refine W.widen (k := (319 + 42 * (5 - (N55 + 1)))) (n := (37457 + 25200 * (5 - (N55 + 1)))) (by omega) (by omega) ?_
            exact hj86 x0 x1 x2 x4 x5 x6 v10 (1 : Int32) f n H locs ls hI (lv_sub hl [1, 2, 3, 4, 5, 6, 0] rfl) hq
    refine W.widen (k := (319 + 42 * (5 - 5))) (n := (37457 + 25200 * (5 - 5))) (by omega) (by omega) ?_
    refine hl55 _ ?_ 5 (Nat.le_refl _) x0 x1 x2 t2 v8 (0 : Int32) v7.1 v7.2 H locs ls hI (lv_sub hl [3, 4, 5, 2, 1, 0] rfl) hq
    · intro x0 x1 x2 x4 x5 f n H locs ls hI hl hq
      refine lv_aload_n hx hb dL_law_236 rfl (lv_at hl 1 rfl) ?_
      refine lv_aload_n hx hb dL_law_237 rfl (lv_at hl 2 rfl) ?_
      refine lv_aload hx hb dL_law_238 (lv_at hl 3 rfl) ?_
      obtain ⟨v28, ev28, hq⟩ := b_s hq
      refine gw_r (g_runV (As := []) (rest := [.ref x2, .ref x1]) (ci := 1) hC (c_J4_toString_0e30d l V g D cT f n x4 v28 ev28) k_J4_toString_0e30d m_1123 rfl rfl ⟨Nat.le_of_ble_eq_true rfl, Nat.le_of_ble_eq_true rfl⟩ hI rfl rfl (h_me_eq ev28).1 rfl hl.1 rfl (Nat.le_of_ble_eq_true rfl) dL_law_240 ⟨by show _ ≤ 600086; omega, by show _ ≤ 7301442; omega⟩) hI (fun H locs hI => ?_)
      obtain ⟨v29, ev29, hq⟩ := b_s hq
      refine gw_v (g_runS (As := [.ref x1, .ref x2, .ref v28.1]) (rest := []) hC (c_L_say l hl0 V g D cT v28.2.1 v28.2.2 x1 x2 v28.1 v29 ev29) k_L_say m_551 rfl rfl ⟨Nat.le_of_ble_eq_true rfl, Nat.le_of_ble_eq_true rfl⟩ hI rfl hl.1 rfl (Nat.le_of_ble_eq_true rfl) dL_law_243 ⟨by show _ ≤ 600086; omega, by show _ ≤ 7301442; omega⟩) hI (fun H locs hI => ?_)
      refine lv_aload_n hx hb dL_law_246 rfl (lv_at hl 1 rfl) ?_
      refine lv_aload_n hx hb dL_law_247 rfl (lv_at hl 1 rfl) ?_
      refine lv_aload_n hx hb dL_law_248 rfl (lv_at hl 2 rfl) ?_
      obtain ⟨v30, ev30, hq⟩ := b_s hq
      refine gw_i (g_runS (As := [.ref x1, .ref x2]) (rest := [.ref x1]) hC (c_L_end l hl0 V g D cT v29 v28.2.2 x1 x2 v30 ev30) k_L_end m_567 rfl rfl ⟨Nat.le_of_ble_eq_true rfl, Nat.le_of_ble_eq_true rfl⟩ hI rfl hl.1 rfl (Nat.le_of_ble_eq_true rfl) dL_law_249 ⟨by show _ ≤ 600086; omega, by show _ ≤ 7301442; omega⟩) hI (fun H locs hI => ?_)
      obtain ⟨v31, ev31, hq⟩ := b_s hq
      refine gy_i (g_runVX (As := [.int v30.1]) (rest := []) (ci := 9) hC (c_X7_loadMap l hl0 V g D cT v30.2 v28.2.2 x1 v30.1 (.inr v31) (h_nt_eq ev31)) k_X7_loadMap m_293 rfl rfl ⟨Nat.le_of_ble_eq_true rfl, Nat.le_of_ble_eq_true rfl⟩ hI rfl rfl (h_me_eq (h_nt_eq ev31)).1 rfl hl.1 rfl (Nat.le_of_ble_eq_true rfl) dL_law_252 ⟨by show _ ≤ 600086; omega, by show _ ≤ 7301442; omega⟩) hI (fun H locs hI => ?_)
      refine lv_iload hx hb dL_law_255 (lv_at hl 4 rfl) ?_
      refine lv_icmp_ne (tgt := 274) hx hb dL_law_257 (by decide) (fun c32 => ?_) (fun c32 => ?_)
      · replace hq := i_f c32 hq
        refine lv_iconst (v := (0 : Int32)) hx hb dL_law_274 (by decide) ?_
        have hv : (0 : Int32) = (1 : Int32) := by first | rfl | (rw [← Option.some.inj hq] at ho; exact ho)
        rw [hv]
        refine W.widen (k := 600086) (n := 7301442) (by omega) (by omega) ?_
        exact hend 275 dL_law_275 H locs ls hI
      · replace hq := i_t c32 hq
        refine lv_aload_n hx hb dL_law_260 rfl (lv_at hl 1 rfl) ?_
        obtain ⟨v33, ev33, hq⟩ := b_s hq
        refine gr_i (g_runV (As := []) (rest := []) (ci := 9) hC (c_X7_undoableCount l V g D cT v31.2 v28.2.2 x1 v33 ev33) k_X7_undoableCount m_511 rfl rfl ⟨Nat.le_of_ble_eq_true rfl, Nat.le_of_ble_eq_true rfl⟩ hI rfl rfl (h_me_eq ev33).1 rfl hl.1 rfl (Nat.le_of_ble_eq_true rfl) dL_law_261 ⟨by show _ ≤ 600086; omega, by show _ ≤ 7301442; omega⟩) hI (fun H locs hI => ?_)
        refine lv_if_ne (tgt := 274) hx hb dL_law_264 (by decide) (fun c34 => ?_) (fun c34 => ?_)
        · replace hq := i_f c34 hq
          refine lv_iconst (v := (0 : Int32)) hx hb dL_law_274 (by decide) ?_
          have hv : (0 : Int32) = (1 : Int32) := by first | rfl | (rw [← Option.some.inj hq] at ho; exact ho)
          rw [hv]
          refine W.widen (k := 600086) (n := 7301442) (by omega) (by omega) ?_
          exact hend 275 dL_law_275 H locs ls hI
        · replace hq := i_t c34 hq
          refine lv_aload_n hx hb dL_law_267 rfl (lv_at hl 1 rfl) ?_
          obtain ⟨v35, ev35, hq⟩ := b_s hq
          refine gr_i (g_runV (As := []) (rest := []) (ci := 9) hC (c_X7_addedPoints l V g D cT v31.2 v28.2.2 x1 v35 ev35) k_X7_addedPoints m_507 rfl rfl ⟨Nat.le_of_ble_eq_true rfl, Nat.le_of_ble_eq_true rfl⟩ hI rfl rfl (h_me_eq ev35).1 rfl hl.1 rfl (Nat.le_of_ble_eq_true rfl) dL_law_268 ⟨by show _ ≤ 600086; omega, by show _ ≤ 7301442; omega⟩) hI (fun H locs hI => ?_)
          refine lv_if_eq (tgt := 276) hx hb dL_law_271 (by decide) (fun c36 => ?_) (fun c36 => ?_)
          · replace hq := i_t c36 hq
            refine lv_iconst (v := (0 : Int32)) hx hb dL_law_276 (by decide) ?_
            refine lv_istore (lv' := [(6, .int (0 : Int32)), (0, .ref x0), (1, .ref x1), (2, .ref x2), (4, .ref x4), (5, .int x5)]) hx hb dL_law_277 hl (by decide) rfl (fun ls hl => ?_)
            have hl279 : ∀ (K362 : GH → Nat → Option (Int32 × GH × Nat)) (hK362 : ∀ (f : GH) (n : Nat) (H : Heap) (locs : List Loc) (ls : Array Slot), g_at (g_A V) V g D cT f n s H locs → lv_has ls 12 [] → K362 f n = some o → W p l e room_1 s m args below meth c H locs 2162 761399 Q (F0 m 362 ls [])) (K386 : GH → Nat → Option (Int32 × GH × Nat)) (hK386 : ∀ (f : GH) (n : Nat) (H : Heap) (locs : List Loc) (ls : Array Slot), g_at (g_A V) V g D cT f n s H locs → lv_has ls 12 [] → K386 f n = some o → W p l e room_1 s m args below meth c H locs 2185 771043 Q (F0 m 386 ls [])) (K455 : GH → Nat → Option (Int32 × GH × Nat)) (hK455 : ∀ (f : GH) (n : Nat) (H : Heap) (locs : List Loc) (ls : Array Slot), g_at (g_A V) V g D cT f n s H locs → lv_has ls 12 [] → K455 f n = some o → W p l e room_1 s m args below meth c H locs 2215 783917 Q (F0 m 455 ls [])) (K483 : GH → Nat → Option (Int32 × GH × Nat)) (hK483 : ∀ (f : GH) (n : Nat) (H : Heap) (locs : List Loc) (ls : Array Slot), g_at (g_A V) V g D cT f n s H locs → lv_has ls 12 [] → K483 f n = some o → W p l e room_1 s m args below meth c H locs 2215 783917 Q (F0 m 483 ls [])) (K491 : Nat → Nat → Nat → GH → Nat → Option (Int32 × GH × Nat)) (hK491 : ∀ (x0 : Nat) (x1 : Nat) (x2 : Nat) (f : GH) (n : Nat) (H : Heap) (locs : List Loc) (ls : Array Slot), g_at (g_A V) V g D cT f n s H locs → lv_has ls 12 [(0, .ref x0), (1, .ref x1), (2, .ref x2)] → K491 x0 x1 x2 f n = some o → W p l e room_1 s m args below meth c H locs 2146 758115 Q (F0 m 491 ls [])) (N279 : Nat) (_ : N279 ≤ 25) (x0 : Nat) (x1 : Nat) (x2 : Nat) (x6 : Int32) (f : GH) (n : Nat) (H : Heap) (locs : List Loc) (ls : Array Slot), g_at (g_A V) V g D cT f n s H locs → lv_has ls 12 [(0, .ref x0), (1, .ref x1), (2, .ref x2), (6, .int x6)] → p_L_law_l279 V g K362 K386 K455 K483 K491 N279 x0 x1 x2 x6 f n = some o → W p l e room_1 s m args below meth c H locs (490 + 69 * (25 - N279)) (138867 + 25802 * (25 - N279)) Q (F0 m 279 ls []) := by
              intro K362 hK362 K386 hK386 K455 hK455 K483 hK483 K491 hK491 N279
              induction N279 with
              | zero =>
                intro _ x0 x1 x2 x6 f n H locs ls hI hl hq
                rw [p_L_law_l279] at hq
                cases hq
              | succ N279 ih2790 =>
                intro hN279 x0 x1 x2 x6 f n H locs ls hI hl hq
                have ih279 := ih2790 (by omega)
                rw [p_L_law_l279] at hq
                refine lv_iload hx hb dL_law_279 (lv_at hl 3 rfl) ?_
                refine lv_bipush (v := (24 : Int32)) hx hb dL_law_281 (by decide) ?_
                refine lv_icmp_ge (tgt := 491) hx hb dL_law_283 (by decide) (fun c37 => ?_) (fun c37 => ?_)
                · replace hq := i_t c37 hq
                  refine W.widen (k := 2146) (n := 758115) (by omega) (by omega) ?_
                  exact hK491 x0 x1 x2 f n H locs ls hI (lv_sub hl [0, 1, 2] rfl) hq
                · replace hq := i_f c37 hq
                  refine lv_aload_n hx hb dL_law_286 rfl (lv_at hl 0 rfl) ?_
                  refine lv_bipush (v := (6 : Int32)) hx hb dL_law_287 (by decide) ?_
                  refine lv_iload hx hb dL_law_289 (lv_at hl 3 rfl) ?_
                  refine lv_iadd hx hb dL_law_291 ?_
                  obtain ⟨v38, ev38, hq⟩ := b_s hq
                  refine gr0_i (g_runS (As := [.ref x0, .int ((6 : Int32) + x6)]) (rest := []) hC (c_L_cell l hl0 V g D cT f n x0 ((6 : Int32) + x6) v38 ev38) k_L_cell m_548 rfl rfl ⟨Nat.le_of_ble_eq_true rfl, Nat.le_of_ble_eq_true rfl⟩ hI rfl hl.1 rfl (Nat.le_of_ble_eq_true rfl) dL_law_292 ⟨by show _ ≤ 600086; omega, by show _ ≤ 7301442; omega⟩) hI (fun H locs hI => ?_)
                  refine lv_istore (lv' := [(7, .int v38), (0, .ref x0), (1, .ref x1), (2, .ref x2), (6, .int x6)]) hx hb dL_law_295 hl (by decide) rfl (fun ls hl => ?_)
                  refine lv_aload_n hx hb dL_law_297 rfl (lv_at hl 2 rfl) ?_
                  obtain ⟨v39, ev39, hq⟩ := b_s hq
                  refine gr_i (g_runV (As := []) (rest := []) (ci := 9) hC (c_X7_coastCount l V g D cT f n x1 v39 ev39) k_X7_coastCount m_503 rfl rfl ⟨Nat.le_of_ble_eq_true rfl, Nat.le_of_ble_eq_true rfl⟩ hI rfl rfl (h_me_eq ev39).1 rfl hl.1 rfl (Nat.le_of_ble_eq_true rfl) dL_law_298 ⟨by show _ ≤ 600086; omega, by show _ ≤ 7301442; omega⟩) hI (fun H locs hI => ?_)
                  refine lv_istore (lv' := [(8, .int v39), (7, .int v38), (0, .ref x0), (1, .ref x1), (2, .ref x2), (6, .int x6)]) hx hb dL_law_301 hl (by decide) rfl (fun ls hl => ?_)
                  refine lv_iload hx hb dL_law_303 (lv_at hl 5 rfl) ?_
                  refine lv_iconst (v := (3 : Int32)) hx hb dL_law_305 (by decide) ?_
                  refine lv_irem hx hb dL_law_306 (by decide) ?_
                  have hj317 : ∀ (x0 : Nat) (x1 : Nat) (x2 : Nat) (x6 : Int32) (x7 : Int32) (x8 : Int32) (f : GH) (n : Nat) (H : Heap) (locs : List Loc) (ls : Array Slot), g_at (g_A V) V g D cT f n s H locs → lv_has ls 12 [(0, .ref x0), (1, .ref x1), (2, .ref x2), (6, .int x6), (7, .int x7), (8, .int x8)] → p_L_law_j317 V g (p_L_law_l279 V g K362 K386 K455 K483 K491 N279) K362 K386 K455 K483 x0 x1 x2 x6 x7 x8 f n = some o → W p l e room_1 s m args below meth c H locs (490 + 69 * (25 - (N279 + 1))) (138867 + 25802 * (25 - (N279 + 1))) Q (F0 m 317 ls []) := by
                    intro x0 x1 x2 x6 x7 x8 f n H locs ls hI hl hq
                    unfold p_L_law_j317 at hq
                    refine lv_iload hx hb dL_law_317 (lv_at hl 5 rfl) ?_
                    have hj364 : ∀ (x0 : Nat) (x1 : Nat) (x2 : Nat) (x6 : Int32) (x7 : Int32) (f : GH) (n : Nat) (H : Heap) (locs : List Loc) (ls : Array Slot), g_at (g_A V) V g D cT f n s H locs → lv_has ls 12 [(0, .ref x0), (1, .ref x1), (2, .ref x2), (6, .int x6), (7, .int x7)] → p_L_law_j364 V g (p_L_law_l279 V g K362 K386 K455 K483 K491 N279) K386 K455 K483 x0 x1 x2 x6 x7 f n = some o → W p l e room_1 s m args below meth c H locs (506 + 69 * (25 - (N279 + 1))) (142151 + 25802 * (25 - (N279 + 1))) Q (F0 m 364 ls []) := by
                      intro x0 x1 x2 x6 x7 f n H locs ls hI hl hq
                      unfold p_L_law_j364 at hq
                      refine lv_aload_n hx hb dL_law_364 rfl (lv_at hl 1 rfl) ?_
                      obtain ⟨v40, ev40, hq⟩ := b_s hq
                      refine gw_r (g_runS (As := [.ref x1]) (rest := []) hC (c_L_all l hl0 V g D cT f n x1 v40 ev40) k_L_all m_570 rfl rfl ⟨Nat.le_of_ble_eq_true rfl, Nat.le_of_ble_eq_true rfl⟩ hI rfl hl.1 rfl (Nat.le_of_ble_eq_true rfl) dL_law_365 ⟨by show _ ≤ 600086; omega, by show _ ≤ 7301442; omega⟩) hI (fun H locs hI => ?_)
                      refine lv_astore (lv' := [(9, .ref v40.1), (0, .ref x0), (1, .ref x1), (2, .ref x2), (6, .int x6), (7, .int x7)]) hx hb dL_law_368 hl (by decide) rfl (fun ls hl => ?_)
                      refine lv_aload_n hx hb dL_law_370 rfl (lv_at hl 2 rfl) ?_
                      obtain ⟨v41, ev41, hq⟩ := b_s hq
                      refine gr_i (g_runV (As := []) (rest := []) (ci := 9) hC (c_X7_undoableCount l V g D cT v40.2.1 v40.2.2 x1 v41 ev41) k_X7_undoableCount m_511 rfl rfl ⟨Nat.le_of_ble_eq_true rfl, Nat.le_of_ble_eq_true rfl⟩ hI rfl rfl (h_me_eq ev41).1 rfl hl.1 rfl (Nat.le_of_ble_eq_true rfl) dL_law_371 ⟨by show _ ≤ 600086; omega, by show _ ≤ 7301442; omega⟩) hI (fun H locs hI => ?_)
                      refine lv_istore (lv' := [(10, .int v41), (9, .ref v40.1), (0, .ref x0), (1, .ref x1), (2, .ref x2), (6, .int x6), (7, .int x7)]) hx hb dL_law_374 hl (by decide) rfl (fun ls hl => ?_)
                      refine lv_aload_n hx hb dL_law_376 rfl (lv_at hl 3 rfl) ?_
                      refine lv_aload_n hx hb dL_law_377 rfl (lv_at hl 4 rfl) ?_
                      refine lv_iload hx hb dL_law_378 (lv_at hl 6 rfl) ?_
                      obtain ⟨v42, ev42, hq⟩ := b_s hq
                      refine gw_i (g_runS (As := [.ref x1, .ref x2, .int x7]) (rest := []) hC (c_L_act l hl0 V g D cT v40.2.1 v40.2.2 x1 x2 x7 v42 ev42) k_L_act m_993 rfl rfl ⟨Nat.le_of_ble_eq_true rfl, Nat.le_of_ble_eq_true rfl⟩ hI rfl hl.1 rfl (Nat.le_of_ble_eq_true rfl) dL_law_380 ⟨by show _ ≤ 600086; omega, by show _ ≤ 7301442; omega⟩) hI (fun H locs hI => ?_)
                      refine lv_if_ne (tgt := 388) hx hb dL_law_383 (by decide) (fun c43 => ?_) (fun c43 => ?_)
                      · replace hq := i_f c43 hq
                        refine lv_aload_n hx hb dL_law_388 rfl (lv_at hl 3 rfl) ?_
                        obtain ⟨v44, ev44, hq⟩ := b_s hq
                        refine gw_r (g_runS (As := [.ref x1]) (rest := []) hC (c_L_all l hl0 V g D cT v42.2.1 v42.2.2 x1 v44 ev44) k_L_all m_570 rfl rfl ⟨Nat.le_of_ble_eq_true rfl, Nat.le_of_ble_eq_true rfl⟩ hI rfl hl.1 rfl (Nat.le_of_ble_eq_true rfl) dL_law_389 ⟨by show _ ≤ 600086; omega, by show _ ≤ 7301442; omega⟩) hI (fun H locs hI => ?_)
                        refine lv_astore (lv' := [(11, .ref v44.1), (10, .int v41), (9, .ref v40.1), (0, .ref x0), (1, .ref x1), (2, .ref x2), (6, .int x6), (7, .int x7)]) hx hb dL_law_392 hl (by decide) rfl (fun ls hl => ?_)
                        refine lv_aload_n hx hb dL_law_394 rfl (lv_at hl 4 rfl) ?_
                        obtain ⟨v45, ev45, hq⟩ := b_s hq
                        refine gr_i (g_runV (As := []) (rest := []) (ci := 9) hC (c_X7_undoableCount l V g D cT v44.2.1 v44.2.2 x1 v45 ev45) k_X7_undoableCount m_511 rfl rfl ⟨Nat.le_of_ble_eq_true rfl, Nat.le_of_ble_eq_true rfl⟩ hI rfl rfl (h_me_eq ev45).1 rfl hl.1 rfl (Nat.le_of_ble_eq_true rfl) dL_law_395 ⟨by show _ ≤ 600086; omega, by show _ ≤ 7301442; omega⟩) hI (fun H locs hI => ?_)
                        refine lv_iload hx hb dL_law_398 (lv_at hl 1 rfl) ?_
                        refine lv_iconst (v := (1 : Int32)) hx hb dL_law_400 (by decide) ?_
                        refine lv_iadd hx hb dL_law_401 ?_
                        have hj457 : ∀ (x0 : Nat) (x1 : Nat) (x2 : Nat) (x6 : Int32) (x9 : Nat) (x10 : Int32) (x11 : Nat) (f : GH) (n : Nat) (H : Heap) (locs : List Loc) (ls : Array Slot), g_at (g_A V) V g D cT f n s H locs → lv_has ls 12 [(0, .ref x0), (1, .ref x1), (2, .ref x2), (6, .int x6), (9, .ref x9), (10, .int x10), (11, .ref x11)] → p_L_law_j457 V g (p_L_law_l279 V g K362 K386 K455 K483 K491 N279) K483 x0 x1 x2 x6 x9 x10 x11 f n = some o → W p l e room_1 s m args below meth c H locs (559 + 69 * (25 - (N279 + 1))) (164669 + 25802 * (25 - (N279 + 1))) Q (F0 m 457 ls []) := by
                          intro x0 x1 x2 x6 x9 x10 x11 f n H locs ls hI hl hq
                          unfold p_L_law_j457 at hq
                          refine lv_aload_n hx hb dL_law_457 rfl (lv_at hl 1 rfl) ?_
                          obtain ⟨v46, ev46, hq⟩ := b_s hq
                          refine gr_i (g_runV (As := []) (rest := []) (ci := 9) hC (c_X7_undoableCount l V g D cT f n x1 v46 ev46) k_X7_undoableCount m_511 rfl rfl ⟨Nat.le_of_ble_eq_true rfl, Nat.le_of_ble_eq_true rfl⟩ hI rfl rfl (h_me_eq ev46).1 rfl hl.1 rfl (Nat.le_of_ble_eq_true rfl) dL_law_458 ⟨by show _ ≤ 600086; omega, by show _ ≤ 7301442; omega⟩) hI (fun H locs hI => ?_)
                          refine lv_iload hx hb dL_law_461 (lv_at hl 5 rfl) ?_
                          refine lv_icmp_ne (tgt := 485) hx hb dL_law_463 (by decide) (fun c47 => ?_) (fun c47 => ?_)
                          · replace hq := i_f c47 hq
                            refine lv_iinc (v := x6 + (1 : Int32)) (lv' := [(6, .int (x6 + (1 : Int32))), (0, .ref x0), (1, .ref x1), (2, .ref x2), (9, .ref x9), (10, .int x10), (11, .ref x11)]) hx hb dL_law_485 hl (k := 3) rfl rfl (by decide) rfl (fun ls hl => ?_)
                            refine lv_goto (tgt := 279) hx hb dL_law_488 (by decide) ?_
                            refine W.widen (k := (490 + 69 * (25 - N279))) (n := (138867 + 25802 * (25 - N279))) (by omega) (by omega) ?_
                            exact ih279 x0 x1 x2 (x6 + (1 : Int32)) f n H locs ls hI (lv_sub hl [1, 2, 3, 0] rfl) hq
                          · replace hq := i_t c47 hq
                            refine lv_iload hx hb dL_law_466 (lv_at hl 5 rfl) ?_
                            refine lv_bipush (v := (8 : Int32)) hx hb dL_law_468 (by decide) ?_
                            refine lv_icmp_ge (tgt := 485) hx hb dL_law_470 (by decide) (fun c48 => ?_) (fun c48 => ?_)
                            · replace hq := i_t c48 hq
                              refine lv_iinc (v := x6 + (1 : Int32)) (lv' := [(6, .int (x6 + (1 : Int32))), (0, .ref x0), (1, .ref x1), (2, .ref x2), (9, .ref x9), (10, .int x10), (11, .ref x11)]) hx hb dL_law_485 hl (k := 3) rfl rfl (by decide) rfl (fun ls hl => ?_)
                              refine lv_goto (tgt := 279) hx hb dL_law_488 (by decide) ?_
                              refine W.widen (k := (490 + 69 * (25 - N279))) (n := (138867 + 25802 * (25 - N279))) (by omega) (by omega) ?_
                              exact ih279 x0 x1 x2 (x6 + (1 : Int32)) f n H locs ls hI (lv_sub hl [1, 2, 3, 0] rfl) hq
                            · replace hq := i_f c48 hq
                              refine lv_aload hx hb dL_law_473 (lv_at hl 4 rfl) ?_
                              refine lv_aload hx hb dL_law_475 (lv_at hl 6 rfl) ?_
                              obtain ⟨v49, ev49, hq⟩ := b_s hq
                              refine gr0_i (g_runS (As := [.ref x9, .ref x11]) (rest := []) hC (c_L_alike l hl0 V g D cT f n x9 x11 v49 ev49) k_L_alike m_630 rfl rfl ⟨Nat.le_of_ble_eq_true rfl, Nat.le_of_ble_eq_true rfl⟩ hI rfl hl.1 rfl (Nat.le_of_ble_eq_true rfl) dL_law_477 ⟨by show _ ≤ 600086; omega, by show _ ≤ 7301442; omega⟩) hI (fun H locs hI => ?_)
                              refine lv_if_ne (tgt := 485) hx hb dL_law_480 (by decide) (fun c50 => ?_) (fun c50 => ?_)
                              · replace hq := i_f c50 hq
                                refine lv_iinc (v := x6 + (1 : Int32)) (lv' := [(6, .int (x6 + (1 : Int32))), (0, .ref x0), (1, .ref x1), (2, .ref x2), (9, .ref x9), (10, .int x10), (11, .ref x11)]) hx hb dL_law_485 hl (k := 3) rfl rfl (by decide) rfl (fun ls hl => ?_)
                                refine lv_goto (tgt := 279) hx hb dL_law_488 (by decide) ?_
                                refine W.widen (k := (490 + 69 * (25 - N279))) (n := (138867 + 25802 * (25 - N279))) (by omega) (by omega) ?_
                                exact ih279 x0 x1 x2 (x6 + (1 : Int32)) f n H locs ls hI (lv_sub hl [1, 2, 3, 0] rfl) hq
                              · replace hq := i_t c50 hq
                                refine W.widen (k := 2215) (n := 783917) (by omega) (by omega) ?_
                                exact hK483 f n H locs ls hI (lv_sub hl [] rfl) hq
                        refine lv_icmp_ne (tgt := 457) hx hb dL_law_402 (by decide) (fun c51 => ?_) (fun c51 => ?_)
                        · replace hq := i_f c51 hq
                          refine W.widen (k := (559 + 69 * (25 - (N279 + 1)))) (n := (164669 + 25802 * (25 - (N279 + 1)))) (by omega) (by omega) ?_
                          exact hj457 x0 x1 x2 x6 v40.1 v41 v44.1 v44.2.1 v44.2.2 H locs ls hI (lv_sub hl [3, 4, 5, 6, 2, 1, 0] rfl) hq
                        · replace hq := i_t c51 hq
                          refine lv_iload hx hb dL_law_405 (lv_at hl 6 rfl) ?_
                          refine lv_iconst (v := (3 : Int32)) hx hb dL_law_407 (by decide) ?_
                          refine lv_irem hx hb dL_law_408 (by decide) ?_
                          refine lv_if_ne (tgt := 457) hx hb dL_law_409 (by decide) (fun c52 => ?_) (fun c52 => ?_)
                          · replace hq := i_f c52 hq
                            refine W.widen (k := (559 + 69 * (25 - (N279 + 1)))) (n := (164669 + 25802 * (25 - (N279 + 1)))) (by omega) (by omega) ?_
                            exact hj457 x0 x1 x2 x6 v40.1 v41 v44.1 v44.2.1 v44.2.2 H locs ls hI (lv_sub hl [3, 4, 5, 6, 2, 1, 0] rfl) hq
                          · replace hq := i_t c52 hq
                            refine lv_aload_n hx hb dL_law_412 rfl (lv_at hl 4 rfl) ?_
                            obtain ⟨v53, ev53, hq⟩ := b_s hq
                            refine gy_i (g_runVX (As := []) (rest := []) (ci := 9) hC (c_X7_undo l hl0 V g D cT v44.2.1 v44.2.2 x1 (.inr v53) (h_nt_eq ev53)) k_X7_undo m_515 rfl rfl ⟨Nat.le_of_ble_eq_true rfl, Nat.le_of_ble_eq_true rfl⟩ hI rfl rfl (h_me_eq (h_nt_eq ev53)).1 rfl hl.1 rfl (Nat.le_of_ble_eq_true rfl) dL_law_413 ⟨by show _ ≤ 600086; omega, by show _ ≤ 7301442; omega⟩) hI (fun H locs hI => ?_)
                            refine lv_iload hx hb dL_law_416 (lv_at hl 1 rfl) ?_
                            refine lv_icmp_ne (tgt := 455) hx hb dL_law_418 (by decide) (fun c54 => ?_) (fun c54 => ?_)
                            · replace hq := i_f c54 hq
                              refine W.widen (k := 2215) (n := 783917) (by omega) (by omega) ?_
                              exact hK455 v53.2 v44.2.2 H locs ls hI (lv_sub hl [] rfl) hq
                            · replace hq := i_t c54 hq
                              refine lv_aload_n hx hb dL_law_421 rfl (lv_at hl 4 rfl) ?_
                              obtain ⟨v55, ev55, hq⟩ := b_s hq
                              refine gw_r (g_runS (As := [.ref x1]) (rest := []) hC (c_L_all l hl0 V g D cT v53.2 v44.2.2 x1 v55 ev55) k_L_all m_570 rfl rfl ⟨Nat.le_of_ble_eq_true rfl, Nat.le_of_ble_eq_true rfl⟩ hI rfl hl.1 rfl (Nat.le_of_ble_eq_true rfl) dL_law_422 ⟨by show _ ≤ 600086; omega, by show _ ≤ 7301442; omega⟩) hI (fun H locs hI => ?_)
                              refine lv_aload hx hb dL_law_425 (lv_at hl 2 rfl) ?_
                              obtain ⟨v56, ev56, hq⟩ := b_s hq
                              refine gr0_i (g_runS (As := [.ref v55.1, .ref v40.1]) (rest := []) hC (c_L_alike l hl0 V g D cT v55.2.1 v55.2.2 v55.1 v40.1 v56 ev56) k_L_alike m_630 rfl rfl ⟨Nat.le_of_ble_eq_true rfl, Nat.le_of_ble_eq_true rfl⟩ hI rfl hl.1 rfl (Nat.le_of_ble_eq_true rfl) dL_law_427 ⟨by show _ ≤ 600086; omega, by show _ ≤ 7301442; omega⟩) hI (fun H locs hI => ?_)
                              refine lv_if_eq (tgt := 455) hx hb dL_law_430 (by decide) (fun c57 => ?_) (fun c57 => ?_)
                              · replace hq := i_t c57 hq
                                refine W.widen (k := 2215) (n := 783917) (by omega) (by omega) ?_
                                exact hK455 v55.2.1 v55.2.2 H locs ls hI (lv_sub hl [] rfl) hq
                              · replace hq := i_f c57 hq
                                refine lv_aload_n hx hb dL_law_433 rfl (lv_at hl 4 rfl) ?_
                                refine lv_aload_n hx hb dL_law_434 rfl (lv_at hl 5 rfl) ?_
                                refine lv_iload hx hb dL_law_435 (lv_at hl 7 rfl) ?_
                                obtain ⟨v58, ev58, hq⟩ := b_s hq
                                refine gw_i (g_runS (As := [.ref x1, .ref x2, .int x7]) (rest := []) hC (c_L_act l hl0 V g D cT v55.2.1 v55.2.2 x1 x2 x7 v58 ev58) k_L_act m_993 rfl rfl ⟨Nat.le_of_ble_eq_true rfl, Nat.le_of_ble_eq_true rfl⟩ hI rfl hl.1 rfl (Nat.le_of_ble_eq_true rfl) dL_law_437 ⟨by show _ ≤ 600086; omega, by show _ ≤ 7301442; omega⟩) hI (fun H locs hI => ?_)
                                refine lv_if_eq (tgt := 455) hx hb dL_law_440 (by decide) (fun c59 => ?_) (fun c59 => ?_)
                                · replace hq := i_t c59 hq
                                  refine W.widen (k := 2215) (n := 783917) (by omega) (by omega) ?_
                                  exact hK455 v58.2.1 v58.2.2 H locs ls hI (lv_sub hl [] rfl) hq
                                · replace hq := i_f c59 hq
                                  refine lv_aload_n hx hb dL_law_443 rfl (lv_at hl 4 rfl) ?_
                                  obtain ⟨v60, ev60, hq⟩ := b_s hq
                                  refine gw_r (g_runS (As := [.ref x1]) (rest := []) hC (c_L_all l hl0 V g D cT v58.2.1 v58.2.2 x1 v60 ev60) k_L_all m_570 rfl rfl ⟨Nat.le_of_ble_eq_true rfl, Nat.le_of_ble_eq_true rfl⟩ hI rfl hl.1 rfl (Nat.le_of_ble_eq_true rfl) dL_law_444 ⟨by show _ ≤ 600086; omega, by show _ ≤ 7301442; omega⟩) hI (fun H locs hI => ?_)
                                  refine lv_aload hx hb dL_law_447 (lv_at hl 0 rfl) ?_
                                  obtain ⟨v61, ev61, hq⟩ := b_s hq
                                  refine gr0_i (g_runS (As := [.ref v60.1, .ref v44.1]) (rest := []) hC (c_L_alike l hl0 V g D cT v60.2.1 v60.2.2 v60.1 v44.1 v61 ev61) k_L_alike m_630 rfl rfl ⟨Nat.le_of_ble_eq_true rfl, Nat.le_of_ble_eq_true rfl⟩ hI rfl hl.1 rfl (Nat.le_of_ble_eq_true rfl) dL_law_449 ⟨by show _ ≤ 600086; omega, by show _ ≤ 7301442; omega⟩) hI (fun H locs hI => ?_)
                                  refine lv_if_ne (tgt := 457) hx hb dL_law_452 (by decide) (fun c62 => ?_) (fun c62 => ?_)
                                  · replace hq := i_f c62 hq
                                    refine W.widen (k := (559 + 69 * (25 - (N279 + 1)))) (n := (164669 + 25802 * (25 - (N279 + 1)))) (by omega) (by omega) ?_
                                    exact hj457 x0 x1 x2 x6 v40.1 v41 v44.1 v60.2.1 v60.2.2 H locs ls hI (lv_sub hl [3, 4, 5, 6, 2, 1, 0] rfl) hq
                                  · replace hq := i_t c62 hq
                                    refine W.widen (k := 2215) (n := 783917) (by omega) (by omega) ?_
                                    exact hK455 v60.2.1 v60.2.2 H locs ls hI (lv_sub hl [] rfl) hq
                      · replace hq := i_t c43 hq
                        refine W.widen (k := 2185) (n := 771043) (by omega) (by omega) ?_
                        exact hK386 v42.2.1 v42.2.2 H locs ls hI (lv_sub hl [] rfl) hq
                    refine lv_if_le (tgt := 364) hx hb dL_law_319 (by decide) (fun c63 => ?_) (fun c63 => ?_)
                    · replace hq := i_t c63 hq
                      refine W.widen (k := (506 + 69 * (25 - (N279 + 1)))) (n := (142151 + 25802 * (25 - (N279 + 1)))) (by omega) (by omega) ?_
                      exact hj364 x0 x1 x2 x6 x7 f n H locs ls hI (lv_sub hl [0, 1, 2, 3, 4] rfl) hq
                    · replace hq := i_f c63 hq
                      refine lv_aload_n hx hb dL_law_322 rfl (lv_at hl 1 rfl) ?_
                      refine lv_iload hx hb dL_law_323 (lv_at hl 4 rfl) ?_
                      refine lv_iload hx hb dL_law_325 (lv_at hl 5 rfl) ?_
                      obtain ⟨v64, ev64, hq⟩ := b_s hq
                      refine gr0_i (g_runS (As := [.int x7, .int x8]) (rest := [.ref x1]) hC (c_L_most l hl0 V g D cT f n x7 x8 v64 ev64) k_L_most m_544 rfl rfl ⟨Nat.le_of_ble_eq_true rfl, Nat.le_of_ble_eq_true rfl⟩ hI rfl hl.1 rfl (Nat.le_of_ble_eq_true rfl) dL_law_327 ⟨by show _ ≤ 600086; omega, by show _ ≤ 7301442; omega⟩) hI (fun H locs hI => ?_)
                      obtain ⟨v65, ev65, hq⟩ := b_s hq
                      refine gr0_i (g_runS (As := [.ref x1, .int v64]) (rest := []) hC (c_L_areSticks l hl0 V g D cT f n x1 v64 v65 ev65) k_L_areSticks m_633 rfl rfl ⟨Nat.le_of_ble_eq_true rfl, Nat.le_of_ble_eq_true rfl⟩ hI rfl hl.1 rfl (Nat.le_of_ble_eq_true rfl) dL_law_330 ⟨by show _ ≤ 600086; omega, by show _ ≤ 7301442; omega⟩) hI (fun H locs hI => ?_)
                      refine lv_if_eq (tgt := 362) hx hb dL_law_333 (by decide) (fun c66 => ?_) (fun c66 => ?_)
                      · replace hq := i_t c66 hq
                        refine W.widen (k := 2162) (n := 761399) (by omega) (by omega) ?_
                        exact hK362 f n H locs ls hI (lv_sub hl [] rfl) hq
                      · replace hq := i_f c66 hq
                        refine lv_iload hx hb dL_law_336 (lv_at hl 3 rfl) ?_
                        refine lv_iconst (v := (4 : Int32)) hx hb dL_law_338 (by decide) ?_
                        refine lv_irem hx hb dL_law_339 (by decide) ?_
                        refine lv_iconst (v := (1 : Int32)) hx hb dL_law_340 (by decide) ?_
                        refine lv_icmp_ne (tgt := 364) hx hb dL_law_341 (by decide) (fun c67 => ?_) (fun c67 => ?_)
                        · replace hq := i_f c67 hq
                          refine W.widen (k := (506 + 69 * (25 - (N279 + 1)))) (n := (142151 + 25802 * (25 - (N279 + 1)))) (by omega) (by omega) ?_
                          exact hj364 x0 x1 x2 x6 x7 f n H locs ls hI (lv_sub hl [0, 1, 2, 3, 4] rfl) hq
                        · replace hq := i_t c67 hq
                          refine lv_aload_n hx hb dL_law_344 rfl (lv_at hl 1 rfl) ?_
                          refine lv_iload hx hb dL_law_345 (lv_at hl 4 rfl) ?_
                          refine lv_iconst (v := (1 : Int32)) hx hb dL_law_347 (by decide) ?_
                          refine lv_ishr hx hb dL_law_348 ?_
                          refine lv_iload hx hb dL_law_349 (lv_at hl 5 rfl) ?_
                          obtain ⟨v68, ev68, hq⟩ := b_s hq
                          refine gr0_i (g_runS (As := [.int (x7 >>> ((1 : Int32) &&& 31)), .int x8]) (rest := [.ref x1]) hC (c_L_most l hl0 V g D cT f n (x7 >>> ((1 : Int32) &&& 31)) x8 v68 ev68) k_L_most m_544 rfl rfl ⟨Nat.le_of_ble_eq_true rfl, Nat.le_of_ble_eq_true rfl⟩ hI rfl hl.1 rfl (Nat.le_of_ble_eq_true rfl) dL_law_351 ⟨by show _ ≤ 600086; omega, by show _ ≤ 7301442; omega⟩) hI (fun H locs hI => ?_)
                          refine lv_iload hx hb dL_law_354 (lv_at hl 4 rfl) ?_
                          obtain ⟨v69, ev69, hq⟩ := b_s hq
                          refine gw_i (g_runS (As := [.ref x1, .int v68, .int x7]) (rest := []) hC (c_L_isFold l hl0 V g D cT f n x1 v68 x7 v69 ev69) k_L_isFold m_848 rfl rfl ⟨Nat.le_of_ble_eq_true rfl, Nat.le_of_ble_eq_true rfl⟩ hI rfl hl.1 rfl (Nat.le_of_ble_eq_true rfl) dL_law_356 ⟨by show _ ≤ 600086; omega, by show _ ≤ 7301442; omega⟩) hI (fun H locs hI => ?_)
                          refine lv_if_ne (tgt := 364) hx hb dL_law_359 (by decide) (fun c70 => ?_) (fun c70 => ?_)
                          · replace hq := i_f c70 hq
                            refine W.widen (k := (506 + 69 * (25 - (N279 + 1)))) (n := (142151 + 25802 * (25 - (N279 + 1)))) (by omega) (by omega) ?_
                            exact hj364 x0 x1 x2 x6 x7 v69.2.1 v69.2.2 H locs ls hI (lv_sub hl [0, 1, 2, 3, 4] rfl) hq
                          · replace hq := i_t c70 hq
                            refine W.widen (k := 2162) (n := 761399) (by omega) (by omega) ?_
                            exact hK362 v69.2.1 v69.2.2 H locs ls hI (lv_sub hl [] rfl) hq
                  refine lv_if_ne (tgt := 317) hx hb dL_law_307 (by decide) (fun c71 => ?_) (fun c71 => ?_)
                  · replace hq := i_f c71 hq
                    refine W.widen (k := (490 + 69 * (25 - (N279 + 1)))) (n := (138867 + 25802 * (25 - (N279 + 1)))) (by omega) (by omega) ?_
                    exact hj317 x0 x1 x2 x6 v38 v39 f n H locs ls hI (lv_sub hl [2, 3, 4, 5, 1, 0] rfl) hq
                  · replace hq := i_t c71 hq
                    refine lv_aload_n hx hb dL_law_310 rfl (lv_at hl 3 rfl) ?_
                    obtain ⟨v72, ev72, hq⟩ := b_s hq
                    refine gr0_i (g_runS (As := [.ref x1]) (rest := []) hC (c_L_areMaps l hl0 V g D cT f n x1 v72 ev72) k_L_areMaps m_731 rfl rfl ⟨Nat.le_of_ble_eq_true rfl, Nat.le_of_ble_eq_true rfl⟩ hI rfl hl.1 rfl (Nat.le_of_ble_eq_true rfl) dL_law_311 ⟨by show _ ≤ 600086; omega, by show _ ≤ 7301442; omega⟩) hI (fun H locs hI => ?_)
                    refine lv_if_eq (tgt := 362) hx hb dL_law_314 (by decide) (fun c73 => ?_) (fun c73 => ?_)
                    · replace hq := i_t c73 hq
                      refine W.widen (k := 2162) (n := 761399) (by omega) (by omega) ?_
                      exact hK362 f n H locs ls hI (lv_sub hl [] rfl) hq
                    · replace hq := i_f c73 hq
                      refine W.widen (k := (490 + 69 * (25 - (N279 + 1)))) (n := (138867 + 25802 * (25 - (N279 + 1)))) (by omega) (by omega) ?_
                      exact hj317 x0 x1 x2 x6 v38 v39 f n H locs ls hI (lv_sub hl [2, 3, 4, 5, 1, 0] rfl) hq
            refine W.widen (k := (490 + 69 * (25 - 25))) (n := (138867 + 25802 * (25 - 25))) (by omega) (by omega) ?_
            refine hl279 _ ?_ _ ?_ _ ?_ _ ?_ _ ?_ 25 (Nat.le_refl _) x0 x1 x2 (0 : Int32) v31.2 v28.2.2 H locs ls hI (lv_sub hl [1, 2, 3, 0] rfl) hq
            · intro f n H locs ls hI hl hq
              refine lv_iconst (v := (0 : Int32)) hx hb dL_law_362 (by decide) ?_
              have hv : (0 : Int32) = (1 : Int32) := by first | rfl | (rw [← Option.some.inj hq] at ho; exact ho)
              rw [hv]
              refine W.widen (k := 600086) (n := 7301442) (by omega) (by omega) ?_
              exact hend 363 dL_law_363 H locs ls hI
            · intro f n H locs ls hI hl hq
              refine lv_iconst (v := (0 : Int32)) hx hb dL_law_386 (by decide) ?_
              have hv : (0 : Int32) = (1 : Int32) := by first | rfl | (rw [← Option.some.inj hq] at ho; exact ho)
              rw [hv]
              refine W.widen (k := 600086) (n := 7301442) (by omega) (by omega) ?_
              exact hend 387 dL_law_387 H locs ls hI
            · intro f n H locs ls hI hl hq
              refine lv_iconst (v := (0 : Int32)) hx hb dL_law_455 (by decide) ?_
              have hv : (0 : Int32) = (1 : Int32) := by first | rfl | (rw [← Option.some.inj hq] at ho; exact ho)
              rw [hv]
              refine W.widen (k := 600086) (n := 7301442) (by omega) (by omega) ?_
              exact hend 456 dL_law_456 H locs ls hI
            · intro f n H locs ls hI hl hq
              refine lv_iconst (v := (0 : Int32)) hx hb dL_law_483 (by decide) ?_
              have hv : (0 : Int32) = (1 : Int32) := by first | rfl | (rw [← Option.some.inj hq] at ho; exact ho)
              rw [hv]
              refine W.widen (k := 600086) (n := 7301442) (by omega) (by omega) ?_
              exact hend 484 dL_law_484 H locs ls hI
            · intro x0 x1 x2 f n H locs ls hI hl hq
              refine lv_aload_n hx hb dL_law_491 rfl (lv_at hl 1 rfl) ?_
              obtain ⟨v74, ev74, hq⟩ := b_s hq
              refine gw_v (g_runV (As := []) (rest := []) (ci := 9) hC (c_X7_saveSnapshot l V g D cT f n x1 v74 ev74) k_X7_saveSnapshot m_535 rfl rfl ⟨Nat.le_of_ble_eq_true rfl, Nat.le_of_ble_eq_true rfl⟩ hI rfl rfl (h_me_eq ev74).1 rfl hl.1 rfl (Nat.le_of_ble_eq_true rfl) dL_law_492 ⟨by show _ ≤ 600086; omega, by show _ ≤ 7301442; omega⟩) hI (fun H locs hI => ?_)
              refine lv_aload_n hx hb dL_law_495 rfl (lv_at hl 1 rfl) ?_
              obtain ⟨v75, ev75, hq⟩ := b_s hq
              refine gw_r (g_runS (As := [.ref x1]) (rest := []) hC (c_L_all l hl0 V g D cT v74 n x1 v75 ev75) k_L_all m_570 rfl rfl ⟨Nat.le_of_ble_eq_true rfl, Nat.le_of_ble_eq_true rfl⟩ hI rfl hl.1 rfl (Nat.le_of_ble_eq_true rfl) dL_law_496 ⟨by show _ ≤ 600086; omega, by show _ ≤ 7301442; omega⟩) hI (fun H locs hI => ?_)
              refine lv_astore (lv' := [(6, .ref v75.1), (0, .ref x0), (1, .ref x1), (2, .ref x2)]) hx hb dL_law_499 hl (by decide) rfl (fun ls hl => ?_)
              refine lv_iconst (v := (0 : Int32)) hx hb dL_law_501 (by decide) ?_
              refine lv_istore (lv' := [(7, .int (0 : Int32)), (6, .ref v75.1), (0, .ref x0), (1, .ref x1), (2, .ref x2)]) hx hb dL_law_502 hl (by decide) rfl (fun ls hl => ?_)
              have hl504 : ∀ (K527 : GH → Nat → Option (Int32 × GH × Nat)) (hK527 : ∀ (f : GH) (n : Nat) (H : Heap) (locs : List Loc) (ls : Array Slot), g_at (g_A V) V g D cT f n s H locs → lv_has ls 12 [] → K527 f n = some o → W p l e room_1 s m args below meth c H locs 2269 807919 Q (F0 m 527 ls [])) (K535 : Nat → Nat → GH → Nat → Option (Int32 × GH × Nat)) (hK535 : ∀ (x1 : Nat) (x6 : Nat) (f : GH) (n : Nat) (H : Heap) (locs : List Loc) (ls : Array Slot), g_at (g_A V) V g D cT f n s H locs → lv_has ls 12 [(1, .ref x1), (6, .ref x6)] → K535 x1 x6 f n = some o → W p l e room_1 s m args below meth c H locs 2249 799887 Q (F0 m 535 ls [])) (N504 : Nat) (_ : N504 ≤ 6) (x0 : Nat) (x1 : Nat) (x2 : Nat) (x6 : Nat) (x7 : Int32) (f : GH) (n : Nat) (H : Heap) (locs : List Loc) (ls : Array Slot), g_at (g_A V) V g D cT f n s H locs → lv_has ls 12 [(0, .ref x0), (1, .ref x1), (2, .ref x2), (6, .ref x6), (7, .int x7)] → p_L_law_l504 V g K527 K535 N504 x0 x1 x2 x6 x7 f n = some o → W p l e room_1 s m args below meth c H locs (2149 + 20 * (6 - N504)) (759727 + 8032 * (6 - N504)) Q (F0 m 504 ls []) := by
                intro K527 hK527 K535 hK535 N504
                induction N504 with
                | zero =>
                  intro _ x0 x1 x2 x6 x7 f n H locs ls hI hl hq
                  rw [p_L_law_l504] at hq
                  cases hq
                | succ N504 ih5040 =>
                  intro hN504 x0 x1 x2 x6 x7 f n H locs ls hI hl hq
                  have ih504 := ih5040 (by omega)
                  rw [p_L_law_l504] at hq
                  refine lv_iload hx hb dL_law_504 (lv_at hl 4 rfl) ?_
                  refine lv_iconst (v := (5 : Int32)) hx hb dL_law_506 (by decide) ?_
                  refine lv_icmp_ge (tgt := 535) hx hb dL_law_507 (by decide) (fun c76 => ?_) (fun c76 => ?_)
                  · replace hq := i_t c76 hq
                    refine W.widen (k := 2249) (n := 799887) (by omega) (by omega) ?_
                    exact hK535 x1 x6 f n H locs ls hI (lv_sub hl [1, 3] rfl) hq
                  · replace hq := i_f c76 hq
                    refine lv_aload_n hx hb dL_law_510 rfl (lv_at hl 1 rfl) ?_
                    refine lv_aload_n hx hb dL_law_511 rfl (lv_at hl 2 rfl) ?_
                    refine lv_aload_n hx hb dL_law_512 rfl (lv_at hl 0 rfl) ?_
                    refine lv_bipush (v := (36 : Int32)) hx hb dL_law_513 (by decide) ?_
                    refine lv_iload hx hb dL_law_515 (lv_at hl 4 rfl) ?_
                    refine lv_iadd hx hb dL_law_517 ?_
                    obtain ⟨v77, ev77, hq⟩ := b_s hq
                    refine gr0_i (g_runS (As := [.ref x0, .int ((36 : Int32) + x7)]) (rest := [.ref x2, .ref x1]) hC (c_L_cell l hl0 V g D cT f n x0 ((36 : Int32) + x7) v77 ev77) k_L_cell m_548 rfl rfl ⟨Nat.le_of_ble_eq_true rfl, Nat.le_of_ble_eq_true rfl⟩ hI rfl hl.1 rfl (Nat.le_of_ble_eq_true rfl) dL_law_518 ⟨by show _ ≤ 600086; omega, by show _ ≤ 7301442; omega⟩) hI (fun H locs hI => ?_)
                    obtain ⟨v78, ev78, hq⟩ := b_s hq
                    refine gw_i (g_runS (As := [.ref x1, .ref x2, .int v77]) (rest := []) hC (c_L_act l hl0 V g D cT f n x1 x2 v77 v78 ev78) k_L_act m_993 rfl rfl ⟨Nat.le_of_ble_eq_true rfl, Nat.le_of_ble_eq_true rfl⟩ hI rfl hl.1 rfl (Nat.le_of_ble_eq_true rfl) dL_law_521 ⟨by show _ ≤ 600086; omega, by show _ ≤ 7301442; omega⟩) hI (fun H locs hI => ?_)
                    refine lv_if_ne (tgt := 529) hx hb dL_law_524 (by decide) (fun c79 => ?_) (fun c79 => ?_)
                    · replace hq := i_f c79 hq
                      refine lv_iinc (v := x7 + (1 : Int32)) (lv' := [(7, .int (x7 + (1 : Int32))), (0, .ref x0), (1, .ref x1), (2, .ref x2), (6, .ref x6)]) hx hb dL_law_529 hl (k := 4) rfl rfl (by decide) rfl (fun ls hl => ?_)
                      refine lv_goto (tgt := 504) hx hb dL_law_532 (by decide) ?_
                      refine W.widen (k := (2149 + 20 * (6 - N504))) (n := (759727 + 8032 * (6 - N504))) (by omega) (by omega) ?_
                      exact ih504 x0 x1 x2 x6 (x7 + (1 : Int32)) v78.2.1 v78.2.2 H locs ls hI (lv_sub hl [1, 2, 3, 4, 0] rfl) hq
                    · replace hq := i_t c79 hq
                      refine W.widen (k := 2269) (n := 807919) (by omega) (by omega) ?_
                      exact hK527 v78.2.1 v78.2.2 H locs ls hI (lv_sub hl [] rfl) hq
              refine W.widen (k := (2149 + 20 * (6 - 6))) (n := (759727 + 8032 * (6 - 6))) (by omega) (by omega) ?_
              refine hl504 _ ?_ _ ?_ 6 (Nat.le_refl _) x0 x1 x2 v75.1 (0 : Int32) v75.2.1 v75.2.2 H locs ls hI (lv_sub hl [2, 3, 4, 1, 0] rfl) hq
              · intro f n H locs ls hI hl hq
                refine lv_iconst (v := (0 : Int32)) hx hb dL_law_527 (by decide) ?_
                have hv : (0 : Int32) = (1 : Int32) := by first | rfl | (rw [← Option.some.inj hq] at ho; exact ho)
                rw [hv]
                refine W.widen (k := 600086) (n := 7301442) (by omega) (by omega) ?_
                exact hend 528 dL_law_528 H locs ls hI
              · intro x1 x6 f n H locs ls hI hl hq
                refine lv_aload_n hx hb dL_law_535 rfl (lv_at hl 0 rfl) ?_
                obtain ⟨v80, ev80, hq⟩ := b_s hq
                refine gy_i (g_runVX (As := []) (rest := []) (ci := 9) hC (c_X7_restoreSnapshot l hl0 V g D cT f n x1 (.inr v80) (h_nt_eq ev80)) k_X7_restoreSnapshot m_539 rfl rfl ⟨Nat.le_of_ble_eq_true rfl, Nat.le_of_ble_eq_true rfl⟩ hI rfl rfl (h_me_eq (h_nt_eq ev80)).1 rfl hl.1 rfl (Nat.le_of_ble_eq_true rfl) dL_law_536 ⟨by show _ ≤ 600086; omega, by show _ ≤ 7301442; omega⟩) hI (fun H locs hI => ?_)
                refine lv_aload hx hb dL_law_539 (lv_at hl 1 rfl) ?_
                refine lv_iconst (v := (0 : Int32)) hx hb dL_law_541 (by decide) ?_
                obtain ⟨v81, ev81, hq⟩ := b_s hq
                refine fa_li hx hb hI ev81 dL_law_542 ?_
                refine lv_icmp_ne (tgt := 569) hx hb dL_law_543 (by decide) (fun c82 => ?_) (fun c82 => ?_)
                · replace hq := i_f c82 hq
                  refine lv_iconst (v := (0 : Int32)) hx hb dL_law_569 (by decide) ?_
                  have hv : (0 : Int32) = (1 : Int32) := by first | rfl | (rw [← Option.some.inj hq] at ho; exact ho)
                  rw [hv]
                  refine W.widen (k := 600086) (n := 7301442) (by omega) (by omega) ?_
                  exact hend 570 dL_law_570 H locs ls hI
                · replace hq := i_t c82 hq
                  refine lv_aload_n hx hb dL_law_546 rfl (lv_at hl 0 rfl) ?_
                  obtain ⟨v83, ev83, hq⟩ := b_s hq
                  refine gw_r (g_runS (As := [.ref x1]) (rest := []) hC (c_L_all l hl0 V g D cT v80.2 n x1 v83 ev83) k_L_all m_570 rfl rfl ⟨Nat.le_of_ble_eq_true rfl, Nat.le_of_ble_eq_true rfl⟩ hI rfl hl.1 rfl (Nat.le_of_ble_eq_true rfl) dL_law_547 ⟨by show _ ≤ 600086; omega, by show _ ≤ 7301442; omega⟩) hI (fun H locs hI => ?_)
                  refine lv_aload hx hb dL_law_550 (lv_at hl 1 rfl) ?_
                  obtain ⟨v84, ev84, hq⟩ := b_s hq
                  refine gr0_i (g_runS (As := [.ref v83.1, .ref x6]) (rest := []) hC (c_L_alike l hl0 V g D cT v83.2.1 v83.2.2 v83.1 x6 v84 ev84) k_L_alike m_630 rfl rfl ⟨Nat.le_of_ble_eq_true rfl, Nat.le_of_ble_eq_true rfl⟩ hI rfl hl.1 rfl (Nat.le_of_ble_eq_true rfl) dL_law_552 ⟨by show _ ≤ 600086; omega, by show _ ≤ 7301442; omega⟩) hI (fun H locs hI => ?_)
                  refine lv_if_eq (tgt := 569) hx hb dL_law_555 (by decide) (fun c85 => ?_) (fun c85 => ?_)
                  · replace hq := i_t c85 hq
                    refine lv_iconst (v := (0 : Int32)) hx hb dL_law_569 (by decide) ?_
                    have hv : (0 : Int32) = (1 : Int32) := by first | rfl | (rw [← Option.some.inj hq] at ho; exact ho)
                    rw [hv]
                    refine W.widen (k := 600086) (n := 7301442) (by omega) (by omega) ?_
                    exact hend 570 dL_law_570 H locs ls hI
                  · replace hq := i_f c85 hq
                    refine lv_aload_n hx hb dL_law_558 rfl (lv_at hl 0 rfl) ?_
                    obtain ⟨v86, ev86, hq⟩ := b_s hq
                    refine gr_i (g_runV (As := []) (rest := []) (ci := 9) hC (c_X7_undoableCount l V g D cT v83.2.1 v83.2.2 x1 v86 ev86) k_X7_undoableCount m_511 rfl rfl ⟨Nat.le_of_ble_eq_true rfl, Nat.le_of_ble_eq_true rfl⟩ hI rfl rfl (h_me_eq ev86).1 rfl hl.1 rfl (Nat.le_of_ble_eq_true rfl) dL_law_559 ⟨by show _ ≤ 600086; omega, by show _ ≤ 7301442; omega⟩) hI (fun H locs hI => ?_)
                    refine lv_if_ne (tgt := 569) hx hb dL_law_562 (by decide) (fun c87 => ?_) (fun c87 => ?_)
                    · replace hq := i_f c87 hq
                      refine lv_iconst (v := (0 : Int32)) hx hb dL_law_569 (by decide) ?_
                      have hv : (0 : Int32) = (1 : Int32) := by first | rfl | (rw [← Option.some.inj hq] at ho; exact ho)
                      rw [hv]
                      refine W.widen (k := 600086) (n := 7301442) (by omega) (by omega) ?_
                      exact hend 570 dL_law_570 H locs ls hI
                    · replace hq := i_t c87 hq
                      refine lv_iconst (v := (1 : Int32)) hx hb dL_law_565 (by decide) ?_
                      refine lv_goto (tgt := 570) hx hb dL_law_566 (by decide) ?_
                      have hv : (1 : Int32) = (1 : Int32) := by first | rfl | (rw [← Option.some.inj hq] at ho; exact ho)
                      rw [hv]
                      refine W.widen (k := 600086) (n := 7301442) (by omega) (by omega) ?_
                      exact hend 570 dL_law_570 H locs ls hI
          · replace hq := i_f c36 hq
            refine lv_iconst (v := (0 : Int32)) hx hb dL_law_274 (by decide) ?_
            have hv : (0 : Int32) = (1 : Int32) := by first | rfl | (rw [← Option.some.inj hq] at ho; exact ho)
            rw [hv]
            refine W.widen (k := 600086) (n := 7301442) (by omega) (by omega) ?_
            exact hend 275 dL_law_275 H locs ls hI
  refine lv_if_ne (tgt := 36) hx hb dL_law_28 (by decide) (fun c88 => ?_) (fun c88 => ?_)
  · replace hq := i_f c88 hq
    refine lv_ldcS hx hb hown (g_rtq hI rt_19) dL_law_36 ?_
    refine W.widen (k := 317) (n := 36797) (by omega) (by omega) ?_
    exact hj38 a0 n v2.2 v4 (V 56) (v2.2 + 1) (v2.2 + 1) f5 (v2.2 + 2) H locs ls hI (lv_sub hl [3, 2, 1, 0] rfl) hq
  · replace hq := i_t c88 hq
    refine lv_ldcS hx hb hown (g_rtq hI rt_18) dL_law_31 ?_
    refine lv_goto (tgt := 38) hx hb dL_law_33 (by decide) ?_
    refine W.widen (k := 317) (n := 36797) (by omega) (by omega) ?_
    exact hj38 a0 n v2.2 v4 (V 55) (v2.2 + 1) (v2.2 + 1) f5 (v2.2 + 2) H locs ls hI (lv_sub hl [3, 2, 1, 0] rfl) hq


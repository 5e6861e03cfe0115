def p_X7_restoreSnapshot (V : Nat → Nat) (g f : GH) (a0 : Nat) : Option ((Nat × GH) ⊕ (Int32 × GH)) :=
  h_me f a0 9 <|
  (h_gi f a0 9 3).bind fun v1 =>
  (if v1 = (0 : Int32) then
    some (.inl (2, f))
  else
    (h_gr f a0 9 0).bind fun v3 =>
    (h_gr f a0 9 2).bind fun v4 =>
    (p_X1_copyFrom V g f v3 v4).bind fun v5 =>
    (h_pt v5 a0 9 5 (.int (0 : Int32))).bind fun f6 =>
    (h_gr f6 a0 9 0).bind fun v7 =>
    (h_gi f6 v7 4 1).bind fun v8 =>
    some (.inr (v8, f6)))
abbrev rm_X7_restoreSnapshot : Room := { frames := 8, cells := 1, slots := 6, locals := 163 }
theorem k_X7_restoreSnapshot : g_CV yX7_restoreSnapshot cX7_restoreSnapshot 1 (some .int) 0 := ⟨⟨m_1482, m_1, by decide +kernel⟩, m_1480, m_1481⟩
set_option maxHeartbeats 4000000 in
set_option maxRecDepth 100000 in
theorem c_X7_restoreSnapshot (l : Launch) (hl0 : l.stackTraces = false) (V : Nat → Nat) (g : GH) (D : va_G) (cT : Nat → ClassId) (f : GH) (n : Nat) (a0 : Nat) (o : (Nat × GH) ⊕ (Int32 × GH)) (hq : p_X7_restoreSnapshot V g f a0 = some o) : vx_Met l yX7_restoreSnapshot (Cond.code yX7_restoreSnapshot cX7_restoreSnapshot 1 (some .int) :: g_B) rm_X7_restoreSnapshot (va_Pc [.ref a0] (g_I V g D cT f n)) (g_Yi V D cT o n) (g_YX V D cT o) 1 6 (g_A V) := by
  refine g_beginX (own := RX7) [.ref a0] [(0, .ref a0)] (g_A V) (fun _ h => h) (by decide) rfl (Nat.le_of_ble_eq_true rfl) rfl ?_
  intro p e s m args below meth c hx hb hr hlocks ht0 hC hI ls hl
  obtain ⟨hx, hb, hml, hown, hB⟩ := id hC
  obtain ⟨H, hH⟩ : ∃ H, H = s.heap := ⟨_, rfl⟩
  obtain ⟨locs, hlocs⟩ : ∃ L : List Loc, L = [] := ⟨_, rfl⟩
  rw [← hH, ← hlocs] at hI ⊢
  clear hH hlocs
  unfold p_X7_restoreSnapshot at hq
  replace hq := (h_me_eq hq).2
  refine lv_aload_n hx hb dX7_restoreSnapshot_0 rfl (lv_at hl 0 rfl) ?_
  obtain ⟨v1, ev1, hq⟩ := b_s hq
  refine fa_gi (own := RX7) (ref := "CoastlineRuler") (k := 3) hx hb hB inB_RX7 hown hI rfl (by decide) m_268 (fun _ h9 => h9) ev1 dX7_restoreSnapshot_1 ?_
  refine lv_if_ne (tgt := 18) hx hb dX7_restoreSnapshot_4 (by decide) (fun c2 => ?_) (fun c2 => ?_)
  · replace hq := i_f c2 hq
    refine lv_aload_n hx hb dX7_restoreSnapshot_18 rfl (lv_at hl 0 rfl) ?_
    obtain ⟨v3, ev3, hq⟩ := b_s hq
    refine fa_gr (own := RX7) (ref := "CoastlineRuler") (k := 0) hx hb hB inB_RX7 hown hI rfl (by decide) m_265 (fun _ h9 => h9) ev3 dX7_restoreSnapshot_19 ?_
    refine lv_aload_n hx hb dX7_restoreSnapshot_22 rfl (lv_at hl 0 rfl) ?_
    obtain ⟨v4, ev4, hq⟩ := b_s hq
    refine fa_gr (own := RX7) (ref := "CoastlineRuler") (k := 2) hx hb hB inB_RX7 hown hI rfl (by decide) m_267 (fun _ h9 => h9) ev4 dX7_restoreSnapshot_23 ?_
    obtain ⟨v5, ev5, hq⟩ := b_s hq
    refine gw_v (g_runV (As := [.ref v4]) (rest := []) (ci := 4) hC (c_X1_copyFrom l V g D cT f n v3 v4 v5 ev5) k_X1_copyFrom m_541 rfl rfl ⟨Nat.le_of_ble_eq_true rfl, Nat.le_of_ble_eq_true rfl⟩ hI rfl rfl (h_me_eq ev5).1 rfl hl.1 rfl (Nat.le_of_ble_eq_true rfl) dX7_restoreSnapshot_26 ⟨by decide, by decide⟩) hI (fun H locs hI => ?_)
    refine lv_aload_n hx hb dX7_restoreSnapshot_29 rfl (lv_at hl 0 rfl) ?_
    refine lv_iconst (v := (0 : Int32)) hx hb dX7_restoreSnapshot_30 (by decide) ?_
    obtain ⟨f6, ef6, hq⟩ := b_s hq
    refine fa_pt (own := RX7) (ref := "CoastlineRuler") (k := 5) hx hb hB inB_RX7 tyX7_ok nmX7 hown hI rfl (by decide) m_270 (fun _ h9 => h9) (by decide) rfl rfl ef6 dX7_restoreSnapshot_31 (fun H locs hI => ?_)
    refine lv_aload_n hx hb dX7_restoreSnapshot_34 rfl (lv_at hl 0 rfl) ?_
    obtain ⟨v7, ev7, hq⟩ := b_s hq
    refine fa_gr (own := RX7) (ref := "CoastlineRuler") (k := 0) hx hb hB inB_RX7 hown hI rfl (by decide) m_265 (fun _ h9 => h9) ev7 dX7_restoreSnapshot_35 ?_
    obtain ⟨v8, ev8, hq⟩ := b_s hq
    refine fa_gi (own := RX7) (ref := "CoastlineRuler$Chart") (k := 1) hx hb hB inB_RX1 hown hI rfl (by decide) m_80 (fun _ h9 => h9) ev8 dX7_restoreSnapshot_38 ?_
    refine W.widen (k := 1) (n := 6) (by decide) (by decide) ?_
    exact ge_Yi hx hb hlocks hr rfl hI hq dX7_restoreSnapshot_41
  · replace hq := i_t c2 hq
    exact vx_throwSW (own := RX7) (cls := "java/lang/IllegalStateException") (names := ["java/lang/RuntimeException", "java/lang/Exception"]) hx hb hl0 hown (by decide +kernel) (by decide +kernel) (hB _ m_521) (hB _ m_23) (g_rtx hI (i := 19) rfl) (g_hat hB hI xat_RX7_330) xgd_RX7_330 (g_uns hI) (g_sup hI) hI.2.2.2.2.2.2.1 (hl.1.trans hml.symm) dX7_restoreSnapshot_7 dX7_restoreSnapshot_10 dX7_restoreSnapshot_11 dX7_restoreSnapshot_14 dX7_restoreSnapshot_17 (fun x hx => (ht0 x hx).elim) (by decide) (by decide) (by decide) (by decide) hlocks (g_thrW hI hq) hI.2.2.2.2.2.2.1.2.2 (by decide) (by decide)

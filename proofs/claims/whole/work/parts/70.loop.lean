/-! ===== the law's loop ===== -/
theorem law_gt {L t : Nat} (hL : L ≤ 3072) (h2 : 6 * t ≤ L) (h : L < 6 * t + 6) : nn L - (6 : Int32) < nn (6 * t) := by
  rw [Int32.lt_iff_toInt_lt, nn_i (by omega), Int32.toInt_sub, nn_i (by omega), show (6 : Int32).toInt = 6 by decide]
  have h1 : ((L : Int) - 6).bmod (2 ^ 32) = (L : Int) - 6 := by
    rw [Int.bmod_eq_of_le] <;> omega
  rw [h1]
  omega
section LL
variable {p : Program} {l : Launch} {e : Env} {s : State} {m : MethodId} {args : Array Value} {below : List Frame} {meth : Method} {c : Code} {V : Nat → Nat} {g : GH} {D : va_G} {cT : Nat → ClassId} {Q : State → Prop} {x0 x1 x2 x3 x4 L : Nat}
theorem law_out (hx : p.tables.exec = Jvm.exec) (hb : c.code = cL_law) (hV : s.heap.size ≤ V 0) (hend : ∀ (H : Heap) (ls : Array Slot), W p l e room_1 s m args below meth c H [] 601024 7293034 Q (F0 m 3644 ls [.int 1])) {f : GH} {n cells slots : Nat} {H : Heap} {locs : List Loc} {ls : Array Slot} (hcap : cells ≤ 601024 ∧ slots ≤ 7293034) (hI : g_at (g_A V) V g D cT f n s H locs) : W p l e room_1 s m args below meth c H locs cells slots Q (F0 m 3643 ls []) := by
  refine lv_iconst (v := 1) hx hb dL_law_3643 (by decide) ?_
  refine va_forget (fun q hq => Nat.le_trans hV (hI.2.2.2.2.2.2.1.2.2 q hq)) ?_
  refine W.widen (k := 601024) (n := 7293034) hcap.1 hcap.2 ?_
  exact hend _ _
set_option maxRecDepth 100000 in
theorem law_loop (hl0 : l.stackTraces = false) (hx : p.tables.exec = Jvm.exec) (hb : c.code = cL_law) (hC : CallFix p m c cL_law 9 s args g_B RL) (hV : s.heap.size ≤ V 0) (hend : ∀ (H : Heap) (ls : Array Slot), W p l e room_1 s m args below meth c H [] 601024 7293034 Q (F0 m 3644 ls [.int 1]))
    (hL : L ≤ 3072) (hal : h_al (gA g) x0 0 = some (nn L)) (Inv : GH → Nat → Prop) (hstep : ∀ (f : GH) (n t : Nat), 6 * t + 6 ≤ L → Inv f n → ∃ f1, p_step V g f n x0 x1 x2 x3 x4 (nn (6 * t)) = some f1 ∧ ∀ n1, n ≤ n1 → (∀ a e, f1 a = some e → a < n1) → Inv f1 n1) :
    ∀ (N t : Nat) (f : GH) (n : Nat) (H : Heap) (locs : List Loc) (cells slots : Nat) (ls : Array Slot), L < 6 * t + 6 * N + 6 → 6 * t ≤ L → cells + 17 * N ≤ 601024 → slots + 3206 * N ≤ 7293034 → Inv f n → g_at (g_A V) V g D cT f n s H locs → lv_has ls 9 [(0, .ref x0), (1, .ref x1), (2, .ref x2), (3, .ref x3), (4, .ref x4), (5, .int (nn (6 * t)))] → W p l e room_1 s m args below meth c H locs cells slots Q (F0 m 28 ls []) := by
  intro N
  induction N with
  | zero =>
    intro t f n H locs cells slots ls h1 h2 h3 h4 hi hI hl
    refine lv_iload hx hb dL_law_28 (lv_at hl 5 rfl) ?_
    refine lv_aload_n hx hb dL_law_30 rfl (lv_at hl 0 rfl) ?_
    refine fs_al hx hb hI (by decide) hal dL_law_31 ?_
    refine lv_bipush (v := (6 : Int32)) hx hb dL_law_32 (by decide) ?_
    refine lv_isub hx hb dL_law_34 ?_
    refine lv_icmp_gt (tgt := 3643) hx hb dL_law_35 (by decide) (fun c1 => ?_) (fun c1 => ?_)
    · exact law_out hx hb hV hend ⟨by omega, by omega⟩ hI
    · exact absurd (law_gt hL h2 (by omega)) c1
  | succ N ih =>
    intro t f n H locs cells slots ls h1 h2 h3 h4 hi hI hl
    refine lv_iload hx hb dL_law_28 (lv_at hl 5 rfl) ?_
    refine lv_aload_n hx hb dL_law_30 rfl (lv_at hl 0 rfl) ?_
    refine fs_al hx hb hI (by decide) hal dL_law_31 ?_
    refine lv_bipush (v := (6 : Int32)) hx hb dL_law_32 (by decide) ?_
    refine lv_isub hx hb dL_law_34 ?_
    refine lv_icmp_gt (tgt := 3643) hx hb dL_law_35 (by decide) (fun c1 => ?_) (fun c1 => ?_)
    · exact law_out hx hb hV hend ⟨by omega, by omega⟩ hI
    · have h6 : 6 * t + 6 ≤ L := by
        rcases Nat.lt_or_ge L (6 * t + 6) with q | q
        · exact absurd (law_gt hL h2 q) c1
        · exact q
      obtain ⟨f1, hq, hi1⟩ := hstep f n t h6 hi
      have hcap : cells + 17 ≤ 601024 ∧ slots + 3206 ≤ 7293034 := ⟨by omega, by omega⟩
      refine law_turn hl0 hx hb hC x0 x1 x2 x3 x4 (nn (6 * t)) hq hcap hI hl (fun H locs ls n1 hn hI hl => ?_)
      refine lv_iinc (v := nn (6 * (t + 1))) (lv' := [(5, .int (nn (6 * (t + 1)))), (0, .ref x0), (1, .ref x1), (2, .ref x2), (3, .ref x3), (4, .ref x4)]) hx hb dL_law_3637 hl (k := 5) rfl (nn_add (6 * t) 6) (by decide) rfl (fun ls hl => ?_)
      refine lv_goto (tgt := 28) hx hb dL_law_3640 (by decide) ?_
      exact ih (t + 1) f1 n1 H locs (cells + 17) (slots + 3206) ls (by omega) (by omega) (by omega) (by omega) (hi1 n1 hn (fun a e h => by have q := (hI.2.2.1 a e h).2.lt; rw [hI.1] at q; exact q)) hI (lv_sub hl [1, 2, 3, 4, 5, 0] rfl)
end LL

/-! ===== changes: all commands, the class's side ===== -/
section CC3
variable {V : Nat → Nat} {g f f1 : GH} {h q r v i : Nat} {T : TS} {c c0 : CS} {a p u w k : Int32}
theorem C_add (C : ChA f h T) (h6 : tN T < 6) (D : CoA f q 33 c) (h01 : cI c = 0 ∨ cI c = 1) (hd : q + 3 ≤ h ∨ h + 20 ≤ q) : ∃ f1, p_X1_add V g f h q = some (nn (tN T), f1) ∧ ChA f1 h (ts_add T c) ∧ h_out h (h + 20) f f1 := by
  obtain ⟨r, cr, r1, r2, r3, r4, -, -, r5⟩ := C.slot h6
  obtain ⟨f2, g1, g2, g3⟩ := C_copy (V := V) (g := g) D r2 (by omega) h01 (by have := D.2.2.2.1; omega)
  have p1 : f2 h = some (.inr (4, [.ref (h + 1), .int (nn (tN T)), .int (tK T), .int (tL T), .int (tA T), .int (tR T)])) := by rw [g3 h (by omega)]; exact C.1
  have D2 : CoA f2 q 33 c := D.frame (fun b h1 h2 => g3 b (by omega))
  refine ⟨_, ?_, r5 f2 c (tA T + nn (cN c)) g2 g3 rfl, fun b hb => ?_⟩
  · unfold p_X1_add
    rw [C.me, C.arr, ob_s, C.n, ob_s, r1, ob_s, g1, ob_s, hgi_of p1 rfl, ob_s, D2.n, ob_s, hpt_of p1 (by decide : 4 < 6), ob_s, hgi_of (h_up_s _ _ _) rfl, ob_s, hpt_of (h_up_s _ _ _) (by decide : 1 < 6), ob_s, up_up, hgi_of (h_up_s _ _ _) rfl, ob_s, nn_s, nn_p (by omega)]
    rfl
  · rw [h_up_n _ _ (by omega)]
    exact g3 b (by omega)
theorem C_met (C : ChA f h T) (h01 : k = 0 ∨ k = 1) (hk : tK T = 0 ∨ tK T = 1) (K : CmA f q V v a p u w k c0) : ∃ f1, (h_gi f h 4 2).bind (fun v9 => if v9 = (0 : Int32) then (h_gi f q 6 5).bind fun v11 => (h_bz v11).bind fun _ => (h_pt f h 4 2 (.int v11)).bind fun f13 => some ((0 : Int32), f13) else (h_gi f q 6 5).bind fun v14 => (h_bz v14).bind fun _ => (h_pt f h 4 2 (.int v14)).bind fun f16 => some ((1 : Int32), f16)) = some (tK T, f1) ∧ ChA f1 h (ts_met T k) ∧ h_out h (h + 20) f f1 := by
  obtain ⟨f1, e1, e2, e3⟩ := C.sK k
  refine ⟨f1, ?_, e2, e3.wide (Nat.le_refl _) (by omega)⟩
  rw [C.k, ob_s, K.gk]
  rcases hk with e | e
  · rw [e, if_pos rfl, ob_s, hbz01 h01, ob_s, e1, ob_s]
  · rw [e, if_neg (by decide), ob_s, hbz01 h01, ob_s, e1, ob_s]
theorem C_move (D : CoA f r 129 c) (C : ChA f h T) (K : CmA f q V v a p u w k c0) (hr : h + 2 ≤ r) (hr2 : r + 3 ≤ h + 20) (hd : q + 4 ≤ h ∨ h + 20 ≤ q) (hp : inC (cN c) p = true) : ∃ f1, p_X1_move V g f h r q = some (s_dist (tK T) (cX c (ix p) - u) (cY c (ix p) - w), f1) ∧ CoA f1 r 129 (s_put c (ix p) u w) ∧ h_out r (r + 3) f f1 := by
  have hb := D.nb
  obtain ⟨e1, e2⟩ := inC_t (by omega) hp
  have hdt := C_dTo (V := V) (g := g) D e2 u w (tK T)
  obtain ⟨d1, ⟨xa, d2, d3⟩, ⟨ya, d4, d5⟩, d6, d7⟩ := id D
  refine ⟨h_up (h_up f (r + 1) (.inl (0, 129, .inl (upd xa (ix p) u)))) (r + 2) (.inl (0, 129, .inl (upd ya (ix p) w))), ?_, ⟨?_, ⟨upd xa (ix p) u, ?_, fun j hj => ?_⟩, ⟨upd ya (ix p) w, h_up_s _ _ _, fun j hj => ?_⟩, d6, d7⟩, ((h_out.rf _ _ _).up (by omega) (by omega)).up (by omega) (by omega)⟩
  · unfold p_X1_move
    have s1 := hsi_of (v := u) d2 (show ix p < 129 by omega) (by omega)
    rw [← e1] at s1 hdt
    have K2 : CmA (h_up f (r + 1) (.inl (0, 129, .inl (upd xa (ix p) u)))) q V v a p u w k c0 := K.frame (fun b h1 h2 => h_up_n f _ (by omega))
    have d4' : h_up f (r + 1) (.inl (0, 129, .inl (upd xa (ix p) u))) (r + 2) = some (.inl (0, 129, .inl ya)) := by rw [h_up_n _ _ (by omega)]; exact d4
    have s2 := hsi_of (v := w) d4' (show ix p < 129 by omega) (by omega)
    rw [← e1] at s2
    rw [C.me, K.gp, ob_s, K.gu, ob_s, K.gw, ob_s, C.k, ob_s, hdt, ob_s, D.xs, ob_s, ob_s, s1, ob_s, hgr_of (show h_up f (r + 1) (.inl (0, 129, .inl (upd xa (ix p) u))) r = some (.inr (5, [.ref (r + 1), .ref (r + 2), .int (nn (cN c)), .int (cI c)])) by rw [h_up_n _ _ (by omega)]; exact d1) rfl, ob_s, K2.gw, ob_s, s2, ob_s]
  · rw [h_up_n _ _ (by omega), h_up_n _ _ (by omega)]
    exact d1
  · rw [h_up_n _ _ (by omega), h_up_s]
  · show upd xa (ix p) u j = upd (cX c) (ix p) u j
    unfold upd
    split
    · rfl
    · exact d3 j hj
  · show upd ya (ix p) w j = upd (cY c) (ix p) w j
    unfold upd
    split
    · rfl
    · exact d5 j hj
theorem C_rem_l {n : Nat} {fs : List Value} {ra : Nat → Option Nat} {b : Nat → Nat} (h6 : n ≤ 6) (p1 : f h = some (.inr (4, .ref (h + 1) :: .int (nn n) :: fs))) (p4 : ∀ i, i < 6 → ra i = some (b i)) (p5 : ∀ i, i < 6 → b i ≠ h + 1 ∧ ∃ fs, f (b i) = some (.inr (5, fs))) (K : Nat → Nat → GH → Option (Int32 × GH)) :
    ∀ (d N t : Nat) (f1 : GH) (rt : Nat → Option Nat), t + d + 1 = n → d < N → i ≤ t → f1 (h + 1) = some (.inl (5, 6, .inr (.inr (.inr (.inr rt))))) → (∀ j, rt j = if i ≤ j ∧ j < t then ra (j + 1) else ra j) → h_out (h + 1) (h + 2) f f1 →
      ∃ f2 r2, p_X1_remove_l9 V g K N h r (nn t) f1 = K h r f2 ∧ f2 (h + 1) = some (.inl (5, 6, .inr (.inr (.inr (.inr r2))))) ∧ (∀ j, r2 j = if i ≤ j ∧ j + 1 < n then ra (j + 1) else ra j) ∧ h_out (h + 1) (h + 2) f f2 := by
  intro d
  induction d with
  | zero =>
    intro N t f1 rt he hN hi e1 e2 ho
    obtain ⟨N, rfl⟩ : ∃ M, N = M + 1 := ⟨N - 1, by omega⟩
    refine ⟨f1, rt, ?_, e1, fun j => ?_, ho⟩
    · rw [p_X1_remove_l9, hgi_of ((ho h (by omega)).trans p1) rfl, ob_s, nn_s, if_pos (by rw [nn_le (by omega) (by omega)]; omega)]
    · rw [e2 j]
      by_cases c1 : i ≤ j ∧ j < t
      · rw [if_pos c1, if_pos (by omega)]
      · rw [if_neg c1, if_neg (by omega)]
  | succ d ih =>
    intro N t f1 rt he hN hi e1 e2 ho
    obtain ⟨N, rfl⟩ : ∃ M, N = M + 1 := ⟨N - 1, by omega⟩
    have q1 := (ho h (by omega)).trans p1
    obtain ⟨fv, hfv⟩ := (p5 (t + 1) (by omega)).2
    have hrt : rt (t + 1) = some (b (t + 1)) := by rw [e2, if_neg (by omega)]; exact p4 _ (by omega)
    have hq : h_lq f1 (h + 1) 5 (nn (t + 1)) = some (b (t + 1)) := hlq_of e1 (by omega) (by omega) hrt
    have hs := hsq_of e1 (show f1 (b (t + 1)) = some (.inr (5, fv)) by rw [ho _ (by have := (p5 (t + 1) (by omega)).1; omega)]; exact hfv) (show t < 6 by omega) (by omega)
    obtain ⟨f2, r2, g1, g2, g3, g4⟩ := ih N (t + 1) _ (va_up rt t (some (b (t + 1)))) (by omega) (by omega) (by omega) (h_up_s f1 (h + 1) _) (fun j => by
      unfold va_up
      by_cases c1 : j = t
      · rw [if_pos c1, if_pos (by omega), c1]; exact (p4 _ (by omega)).symm
      · rw [if_neg c1, e2 j]
        by_cases c2 : i ≤ j ∧ j < t
        · rw [if_pos c2, if_pos (by omega)]
        · rw [if_neg c2, if_neg (by omega)]) (ho.up (Nat.le_refl _) (by omega))
    refine ⟨f2, r2, ?_, g2, g3, g4⟩
    rw [p_X1_remove_l9, hgi_of q1 rfl, ob_s, nn_s, if_neg (by rw [nn_le (by omega) (by omega)]; omega), hgr_of q1 rfl, ob_s, ob_s, hq, ob_s, hs, ob_s]
    exact g1
theorem C_remove (C : ChA f h T) (hi : i < tN T) : ∃ f1, p_X1_remove V g f h (nn i) = some (nn (cN (tC T i)), f1) ∧ ChA f1 h (ts_rem T i) ∧ h_out h (h + 20) f f1 := by
  obtain ⟨r, q1, q2, q3, q4⟩ := C.co hi
  have hme := C.me (α := Int32 × GH)
  have harr := C.arr
  obtain ⟨p1, p2, ra, b, p3, p4, p5, p6, p7⟩ := C
  have hr : r = b i := by
    have := hlq_of p3 (show i < 6 by omega) (by omega) (p4 i (by omega)).1
    rw [q1] at this
    exact Option.some.inj this
  have hbx : ∀ j, j < 6 → h + 2 ≤ b j ∧ b j + 3 ≤ h + 20 := fun j hj => by
    obtain ⟨jj, hjj, ej⟩ := (p4 j hj).2
    omega
  obtain ⟨f2, r2, g1, g2, g3, g4⟩ := C_rem_l (V := V) (g := g) (r := r) (i := i) p2 p1 (fun j hj => (p4 j hj).1) (fun j hj => ⟨by have := hbx j hj; omega, by obtain ⟨d, hd⟩ := p7 j hj; exact ⟨_, hd.1⟩⟩) _ (tN T - 1 - i) FU i f ra (by omega) (by unfold FU; omega) (Nat.le_refl _) p3 (fun j => by rw [if_neg (by omega)]) (h_out.rf _ _ _)
  have p1' : f2 h = some (.inr (4, [.ref (h + 1), .int (nn (tN T)), .int (tK T), .int (tL T), .int (tA T), .int (tR T)])) := by rw [g4 h (by omega)]; exact p1
  have hs := hsq_of g2 (show f2 r = some (.inr (5, [.ref (r + 1), .ref (r + 2), .int (nn (cN (tC T i))), .int (cI (tC T i))])) by rw [g4 r (by omega)]; exact q2.1) (show tN T - 1 < 6 by omega) (by omega)
  have u1 : h_up f2 (h + 1) (.inl (5, 6, .inr (.inr (.inr (.inr (va_up r2 (tN T - 1) (some r))))))) h = some (.inr (4, [.ref (h + 1), .int (nn (tN T)), .int (tK T), .int (tL T), .int (tA T), .int (tR T)])) := by rw [h_up_n _ _ (by omega)]; exact p1'
  have fr : ∀ (a : Nat) (d : CS) (e1 e2 : GE), h + 2 ≤ a → CoA f a 129 d → CoA (h_up (h_up f2 (h + 1) e1) h e2) a 129 d := fun a d e1 e2 ha hd => hd.frame (fun b h1 h2 => by rw [h_up_n _ _ (by omega), h_up_n _ _ (by omega)]; exact g4 b (by omega))
  refine ⟨h_up (h_up f2 (h + 1) (.inl (5, 6, .inr (.inr (.inr (.inr (va_up r2 (tN T - 1) (some r)))))))) h (.inr (4, [.ref (h + 1), .int (nn (tN T - 1)), .int (tK T), .int (tL T), .int (tA T), .int (tR T + nn (cN (tC T i)))])), ?_, ⟨h_up_s _ _ _, by show tN T - 1 ≤ 6; omega, va_up r2 (tN T - 1) (some r), fun j => if i ≤ j ∧ j + 1 < tN T then b (j + 1) else if j = tN T - 1 then b i else b j, ?_, fun j hj => ⟨?_, ?_⟩, fun j j2 hj hj2 he => ?_, fun j hj => ?_, fun j hj => ?_⟩, fun a ha => ?_⟩
  · unfold p_X1_remove
    have q2' : ∀ e1 e2 : GE, h_gi (h_up (h_up f2 (h + 1) e1) h e2) r 5 2 = some (nn (cN (tC T i))) := fun e1 e2 => (fr r _ e1 e2 q3 q2).n
    rw [hme, harr, ob_s, q1, ob_s]
    refine g1.trans ?_
    show ((h_gr f2 h 4 0).bind _) = _
    rw [hgr_of p1' rfl, ob_s, hgi_of p1' rfl, ob_s, nn_p (by omega), hs, ob_s, hgi_of u1 rfl, ob_s, nn_p (by omega), hpt_of u1 (by decide : 1 < 6), ob_s, hgi_of (h_up_s _ _ _) rfl, ob_s, q2', ob_s, hpt_of (h_up_s _ _ _) (by decide : 5 < 6), ob_s, up_up, q2', ob_s]
    rfl
  · rw [h_up_n _ _ (by omega), h_up_s]
  · show va_up r2 (tN T - 1) (some r) j = some (if i ≤ j ∧ j + 1 < tN T then b (j + 1) else if j = tN T - 1 then b i else b j)
    unfold va_up
    by_cases c1 : j = tN T - 1
    · rw [if_pos c1, if_neg (by omega), if_pos c1, hr]
    · rw [if_neg c1, g3 j]
      by_cases c2 : i ≤ j ∧ j + 1 < tN T
      · rw [if_pos c2, if_pos c2]; exact (p4 _ (by omega)).1
      · rw [if_neg c2, if_neg c2, if_neg c1]; exact (p4 _ hj).1
  · by_cases c2 : i ≤ j ∧ j + 1 < tN T
    · simp only [if_pos c2]; exact (p4 _ (by omega)).2
    · by_cases c1 : j = tN T - 1
      · simp only [if_neg c2, if_pos c1]; exact (p4 _ (by omega)).2
      · simp only [if_neg c2, if_neg c1]; exact (p4 _ hj).2
  · by_cases a1 : i ≤ j ∧ j + 1 < tN T
    · by_cases b1 : i ≤ j2 ∧ j2 + 1 < tN T
      · simp only [if_pos a1, if_pos b1] at he
        have := p5 _ _ (by omega) (by omega) he
        omega
      · by_cases b2 : j2 = tN T - 1
        · simp only [if_pos a1, if_neg b1, if_pos b2] at he
          have := p5 _ _ (by omega) (by omega) he
          omega
        · simp only [if_pos a1, if_neg b1, if_neg b2] at he
          have := p5 _ _ (by omega) (by omega) he
          omega
    · by_cases a2 : j = tN T - 1
      · by_cases b1 : i ≤ j2 ∧ j2 + 1 < tN T
        · simp only [if_neg a1, if_pos a2, if_pos b1] at he
          have := p5 _ _ (by omega) (by omega) he
          omega
        · by_cases b2 : j2 = tN T - 1
          · omega
          · simp only [if_neg a1, if_pos a2, if_neg b1, if_neg b2] at he
            have := p5 _ _ (by omega) (by omega) he
            omega
      · by_cases b1 : i ≤ j2 ∧ j2 + 1 < tN T
        · simp only [if_neg a1, if_neg a2, if_pos b1] at he
          have := p5 _ _ (by omega) (by omega) he
          omega
        · by_cases b2 : j2 = tN T - 1
          · simp only [if_neg a1, if_neg a2, if_neg b1, if_pos b2] at he
            have := p5 _ _ (by omega) (by omega) he
            omega
          · simp only [if_neg a1, if_neg a2, if_neg b1, if_neg b2] at he
            exact p5 _ _ hj hj2 he
  · have hj : j < tN T - 1 := hj
    show CoA _ (if i ≤ j ∧ j + 1 < tN T then b (j + 1) else if j = tN T - 1 then b i else b j) 129 (if j < i then tC T j else tC T (j + 1))
    by_cases c2 : i ≤ j
    · rw [if_pos ⟨c2, by omega⟩, if_neg (by omega)]
      exact fr _ _ _ _ (hbx _ (by omega)).1 (p6 _ (by omega))
    · rw [if_neg (by omega), if_neg (by omega), if_pos (by omega)]
      exact fr _ _ _ _ (hbx _ (by omega)).1 (p6 _ (by omega))
  · by_cases c2 : i ≤ j ∧ j + 1 < tN T
    · simp only [if_pos c2]; obtain ⟨d, hd⟩ := p7 (j + 1) (by omega); exact ⟨d, fr _ _ _ _ (hbx _ (by omega)).1 hd⟩
    · by_cases c1 : j = tN T - 1
      · simp only [if_neg c2, if_pos c1]; obtain ⟨d, hd⟩ := p7 i (by omega); exact ⟨d, fr _ _ _ _ (hbx _ (by omega)).1 hd⟩
      · simp only [if_neg c2, if_neg c1]; obtain ⟨d, hd⟩ := p7 j hj; exact ⟨d, fr _ _ _ _ (hbx _ (by omega)).1 hd⟩
  · rw [h_up_n _ _ (by omega), h_up_n _ _ (by omega)]
    exact g4 a (by omega)
theorem C_apply (S : StOK V g) (C : ChA f h T) (hv : TV T) (K : CmA f q V v a p u w k c0) (h1 : 1 ≤ v) (h11 : v ≤ 11) (hd : q + 4 ≤ h ∨ h + 20 ≤ q) (hr : s_ref v T a p u w = 0) (hk : v = 11 → k = 0 ∨ k = 1) (hs : v ≤ 2 → CoV c0) :
    ∃ f1, p_X1_apply V g f h q = some (s_ans v T a p u w, f1) ∧ ChA f1 h (ts_do v T a p u w k c0) ∧ h_out h (h + 20) f f1 := by
  have h6 := hv.1
  unfold s_ref at hr
  unfold p_X1_apply s_ans ts_do
  rw [C.me, K.gv, ob_s, S.or f (by omega) (by omega), ob_s, S.sw (by omega) (by omega), ob_s]
  by_cases c1 : v ≤ 2
  · rw [if_pos c1] at hr
    have hn : tN T < 6 := by
      split at hr
      · assumption
      · exact absurd hr (by decide)
    obtain ⟨f1, q1, q2⟩ := C_add (V := V) (g := g) C hn K.2 (hs c1).i01 (by omega)
    have hv2 : v = 1 ∨ v = 2 := by omega
    rcases hv2 with rfl | rfl
    · refine ⟨f1, ?_, q2⟩
      show (if (6 : Int32) = 6 then _ else _) = _
      rw [if_pos rfl, K.gs, ob_s, q1, ob_s]
      rfl
    · refine ⟨f1, ?_, q2⟩
      show (if (7 : Int32) = 6 then _ else if (7 : Int32) = 7 then _ else _) = _
      rw [if_neg (by decide), if_pos rfl, K.gs, ob_s, q1, ob_s]
      rfl
  · rw [if_neg c1] at hr
    rw [if_neg c1, if_neg c1]
    by_cases c2 : v = 11
    · subst c2
      obtain ⟨f1, q1, q2⟩ := C_met C (hk rfl) hv.2.1 K
      refine ⟨f1, ?_, q2⟩
      show (if (8 : Int32) = 6 then _ else if (8 : Int32) = 7 then _ else if (8 : Int32) = 8 then _ else _) = _
      rw [if_neg (by decide), if_neg (by decide), if_pos rfl]
      exact q1
    · rw [if_neg c2] at hr
      rw [if_neg c2, if_neg c2]
      have ha : inC (tN T) a = true := by
        split at hr
        · assumption
        · exact absurd hr (by decide)
      rw [if_pos ha] at hr
      obtain ⟨ea, hia⟩ := inC_t (by omega) ha
      have hcan := s_refC_0 hr
      have cv := hv.2.2 _ hia
      by_cases c3 : v = 10
      · subst c3
        obtain ⟨f1, q1, q2⟩ := C_remove (V := V) (g := g) C hia
        refine ⟨f1, ?_, q2⟩
        show (if (9 : Int32) = 6 then _ else if (9 : Int32) = 7 then _ else if (9 : Int32) = 8 then _ else if (9 : Int32) = 9 then _ else _) = _
        rw [if_neg (by decide), if_neg (by decide), if_neg (by decide), if_pos rfl, K.ga, ob_s, show p_X1_remove V g f h a = _ from (congrArg _ ea).trans q1, ob_s]
        rfl
      · rw [if_neg c3, if_neg c3]
        obtain ⟨r, cr, r1, -, r3, r4, r6, r5, -⟩ := C.slot (show ix a < 6 by omega)
        have D := r6 hia
        have hlq : h_lq f (h + 1) 5 a = some r := by rw [ea]; exact r1
        by_cases c4 : v = 5
        · subst c4
          obtain ⟨f1, q1, q2, q3⟩ := C_move (V := V) (g := g) D C K r3 r4 hd (by simpa [s_hp] using hcan.1 rfl)
          refine ⟨f1, ?_, ?_, q3.wide (by omega) (by omega)⟩
          · show (if (10 : Int32) = 6 then _ else if (10 : Int32) = 7 then _ else if (10 : Int32) = 8 then _ else if (10 : Int32) = 9 then _ else if (10 : Int32) = 10 then _ else _) = _
            rw [if_neg (by decide), if_neg (by decide), if_neg (by decide), if_neg (by decide), if_pos rfl, C.arr, ob_s, K.ga, ob_s, hlq, ob_s, q1, ob_s]
            rfl
          · have e := r5 f1 _ q2 q3 hia
            unfold ts_set
            show ChA f1 h (tN T, tK T, tL T, tA T + nn (cN (tC T (ix a)) - cN (tC T (ix a))), tR T + nn (cN (tC T (ix a)) - cN (tC T (ix a))), _)
            rw [Nat.sub_self, i_a0, i_a0]
            exact e
        · obtain ⟨f2, q1, q2, q3⟩ := C_reshape (V := V) (g := g) S C K D cv (by omega) hcan
          have cv2 := cv.nc (by omega) (by omega) hcan
          have n2 := cv.n2
          have n3 := cv2.n2
          have C2 := r5 f2 _ q2 q3 hia
          obtain ⟨f3, s1, s2, s3⟩ := C2.sA (tA T + nn (cN (s_nc v (tC T (ix a)) p u w) - cN (tC T (ix a))))
          obtain ⟨f4, s4, s5, s6⟩ := s2.sR (tR T + nn (cN (tC T (ix a)) - cN (s_nc v (tC T (ix a)) p u w)))
          have D3 : CoA f3 r 129 (s_nc v (tC T (ix a)) p u w) := q2.frame (fun b h1 h2 => s3 b (by omega))
          have D4 : CoA f4 r 129 (s_nc v (tC T (ix a)) p u w) := D3.frame (fun b h1 h2 => s6 b (by omega))
          refine ⟨f4, ?_, s5, (q3.wide (by omega) (by omega)).tr ((s3.wide (Nat.le_refl _) (by omega)).tr (s6.wide (Nat.le_refl _) (by omega)))⟩
          have hsw : al_sw.getD (v - 1) 0 ≠ 6 ∧ al_sw.getD (v - 1) 0 ≠ 7 ∧ al_sw.getD (v - 1) 0 ≠ 8 ∧ al_sw.getD (v - 1) 0 ≠ 9 ∧ al_sw.getD (v - 1) 0 ≠ 10 := by
            have : v = 3 ∨ v = 4 ∨ v = 6 ∨ v = 7 ∨ v = 8 ∨ v = 9 := by omega
            rcases this with rfl | rfl | rfl | rfl | rfl | rfl <;> decide
          rw [if_neg hsw.1, if_neg hsw.2.1, if_neg hsw.2.2.1, if_neg hsw.2.2.2.1, if_neg hsw.2.2.2.2, C.arr, ob_s, K.ga, ob_s, hlq, ob_s, D.n, ob_s, q1, ob_s, C2.a, ob_s, q2.n, ob_s, pm_max, ob_s, mx_sub (by omega) (by omega)]
          show ((h_pt f2 h 4 4 (.int (tA T + _))).bind _) = _
          rw [s1, ob_s, s2.r, ob_s, D3.n, ob_s, pm_max, ob_s, mx_sub (by omega) (by omega)]
          show ((h_pt f3 h 4 5 (.int (tR T + _))).bind _) = _
          rw [s4, ob_s, D4.n, ob_s, if_neg c4]
end CC3


/-! ===== a chart copied ===== -/
theorem up_up (f : GH) (a : Nat) (e e1 : GE) : h_up (h_up f a e) a e1 = h_up f a e1 := by
  funext b
  unfold h_up
  split <;> rfl
section DC
variable {V : Nat → Nat} {g f : GH} {p q : Nat} {T T0 : TS}
theorem C_cc_l (C : ChA f q T) (hv : TV T) {n0 k0 l0 a0 r0 : Int32} (p1 : f p = some (.inr (4, [.ref (p + 1), .int n0, .int k0, .int l0, .int a0, .int r0]))) {ra : Nat → Option Nat} {a : Nat → Nat} (p3 : f (p + 1) = some (.inl (5, 6, .inr (.inr (.inr (.inr ra)))))) (p4 : ∀ i, i < 6 → ra i = some (a i) ∧ ∃ j, j < 6 ∧ a i = p + 2 + 3 * j) (p5 : ∀ i j, i < 6 → j < 6 → a i = a j → i = j) (hd : p + 20 ≤ q ∨ q + 20 ≤ p) (K : Nat → Nat → GH → Option GH) :
    ∀ (d N t : Nat) (f1 : GH), t + d = tN T → d < N → h_out p (p + 20) f f1 → f1 p = f p → f1 (p + 1) = f (p + 1) → (∀ i, i < t → CoA f1 (a i) 129 (tC T i)) → (∀ i, i < 6 → ∃ c, CoA f1 (a i) 129 c) →
      ∃ f2, p_X1_copyFrom_l2 V g K N p q (nn t) f1 = K p q f2 ∧ h_out p (p + 20) f f2 ∧ f2 p = f p ∧ f2 (p + 1) = f (p + 1) ∧ (∀ i, i < tN T → CoA f2 (a i) 129 (tC T i)) ∧ ∀ i, i < 6 → ∃ c, CoA f2 (a i) 129 c := by
  have h6 := hv.1
  intro d
  induction d with
  | zero =>
    intro N t f1 he hN ho e0 e1 hc hs
    obtain ⟨N, rfl⟩ : ∃ M, N = M + 1 := ⟨N - 1, by omega⟩
    have C1 : ChA f1 q T := C.frame (fun b h1 h2 => ho b (by omega))
    refine ⟨f1, ?_, ho, e0, e1, fun i hi => hc i (by omega), hs⟩
    rw [p_X1_copyFrom_l2, C1.n, ob_s, if_pos (by rw [nn_le (by omega) (by omega)]; omega)]
  | succ d ih =>
    intro N t f1 he hN ho e0 e1 hc hs
    obtain ⟨N, rfl⟩ : ∃ M, N = M + 1 := ⟨N - 1, by omega⟩
    have C1 : ChA f1 q T := C.frame (fun b h1 h2 => ho b (by omega))
    obtain ⟨s, s1, s2, s3, s4⟩ := C1.co (show t < tN T by omega)
    obtain ⟨c0, k0⟩ := hs t (by omega)
    obtain ⟨jt, hjt, et⟩ := (p4 t (by omega)).2
    have cv := hv.2.2 t (by omega)
    have n2 := cv.n2
    obtain ⟨f3, g1, g2, g3⟩ := C_copy (V := V) (g := g) s2 k0 (by omega) cv.i01 (by omega)
    have hoth : ∀ i, i < 6 → i ≠ t → ∀ c, CoA f1 (a i) 129 c → CoA f3 (a i) 129 c := by
      intro i hi hne c h
      obtain ⟨ji, hji, ei⟩ := (p4 i hi).2
      have hj : ji ≠ jt := fun e => hne (p5 i t hi (by omega) (by rw [ei, et, e]))
      exact h.frame (fun b h1 h2 => g3 b (by omega))
    have hgr : h_gr f1 p 4 0 = some (p + 1) := hgr_of (e0.trans p1) rfl
    have hlq : h_lq f1 (p + 1) 5 (nn t) = some (a t) := hlq_of (e1.trans p3) (by omega) (by omega) (p4 t (by omega)).1
    obtain ⟨f2, q1, q2⟩ := ih N (t + 1) f3 (by omega) (by omega) (ho.tr (fun b hb => g3 b (by omega))) ((g3 p (by omega)).trans e0) ((g3 (p + 1) (by omega)).trans e1) (fun i hi => by
      by_cases e : i = t
      · rw [e]; exact g2
      · exact hoth i (by omega) e _ (hc i (by omega))) (fun i hi => by
      by_cases e : i = t
      · rw [e]; exact ⟨_, g2⟩
      · obtain ⟨c, h⟩ := hs i hi
        exact ⟨c, hoth i hi e c h⟩)
    refine ⟨f2, ?_, q2⟩
    rw [p_X1_copyFrom_l2, C1.n, ob_s, if_neg (by rw [nn_le (by omega) (by omega)]; omega), hgr, ob_s, hlq, ob_s, C1.arr, ob_s, s1, ob_s, g1, ob_s, nn_s]
    exact q1
theorem C_copyChart (C : ChA f q T) (hv : TV T) (P : ChA f p T0) (hd : p + 20 ≤ q ∨ q + 20 ≤ p) : ∃ f1, p_X1_copyFrom V g f p q = some f1 ∧ ChA f1 p T ∧ h_out p (p + 20) f f1 := by
  have h6 := hv.1
  have hme := P.me (α := GH)
  obtain ⟨p1, p2, ra, a, p3, p4, p5, p6, p7⟩ := P
  unfold p_X1_copyFrom
  rw [hme]
  obtain ⟨f2, q1, ho, e0, e1, hc, hs⟩ := C_cc_l (V := V) (g := g) C hv p1 p3 p4 p5 hd _ (tN T) FU 0 f (by omega) (by unfold FU; omega) (h_out.rf _ _ _) rfl rfl (fun i hi => absurd hi (by omega)) p7
  refine ⟨h_up f2 p (.inr (4, [.ref (p + 1), .int (nn (tN T)), .int (tK T), .int (tL T), .int (tA T), .int (tR T)])), ?_, ⟨h_up_s _ _ _, hv.1, ra, a, ?_, p4, p5, fun i hi => ?_, fun i hi => ?_⟩, fun b hb => ?_⟩
  · refine Eq.trans q1 ?_
    have C2 : ChA f2 q T := C.frame (fun b h1 h2 => ho b (by omega))
    have C3 : ∀ e : GE, ChA (h_up f2 p e) q T := fun e => C2.frame (fun b h1 h2 => h_up_n f2 e (by omega))
    have pt : ∀ (fs : List Value) (k : Nat) (v : Value), k < fs.length → h_pt (h_up f2 p (.inr (4, fs))) p 4 k v = some (h_up f2 p (.inr (4, fs.set k v))) := fun fs k v hk => by
      rw [hpt_of (h_up_s _ _ _) hk, up_up]
    show ((h_gi f2 q 4 1).bind _) = _
    rw [C2.n, ob_s, hpt_of (e0.trans p1) (by decide : 1 < 6), ob_s, (C3 _).k, ob_s, hbz01 hv.2.1, ob_s, pt _ _ _ (by simp), ob_s, (C3 _).l, ob_s, pt _ _ _ (by simp), ob_s, (C3 _).a, ob_s, pt _ _ _ (by simp), ob_s, (C3 _).r, ob_s, pt _ _ _ (by simp), ob_s]
    rfl
  · rw [h_up_n _ _ (by omega), e1]
    exact p3
  · obtain ⟨j, hj, e⟩ := (p4 i (by omega)).2
    exact (hc i hi).frame (fun b h1 h2 => h_up_n f2 _ (by omega))
  · obtain ⟨j, hj, e⟩ := (p4 i hi).2
    obtain ⟨c, h⟩ := hs i hi
    exact ⟨c, h.frame (fun b h1 h2 => h_up_n f2 _ (by omega))⟩
  · rw [h_up_n _ _ (by omega)]
    exact ho b hb
end DC


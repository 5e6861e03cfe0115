/-! ===== the history, on both sides ===== -/
/-- the changes that can be undone: what lies where -/
def PaA (f : GH) (x u p : Nat) (H : Nat → TS) : Prop := (∃ ra : Nat → Option Nat, f (x + 61) = some (.inl (4, 8, .inr (.inr (.inr (.inr ra))))) ∧ ∀ j, j < 8 → ra j = some (x + 75 + 20 * j)) ∧ (∀ j, j < 8 → ∃ T0, ChA f (x + 75 + 20 * j) T0) ∧ ∀ k, k < u → ChA f (x + 75 + 20 * ((p + 8 - u + k) % 8)) (H k)
def h_pu (u : Nat) : Nat := if u < 8 then u + 1 else 8
def h_pp (p : Nat) : Nat := if p = 7 then 0 else p + 1
def h_pH (u : Nat) (H : Nat → TS) (T : TS) : Nat → TS := fun k => if k + (if u = 8 then 1 else 0) < u then H (k + (if u = 8 then 1 else 0)) else T
theorem h_pH_v {u : Nat} {H : Nat → TS} {T : TS} (hv : TV T) (hH : ∀ k, k < u → TV (H k)) : ∀ k, k < h_pu u → TV (h_pH u H T k) := by
  intro k hk
  unfold h_pH
  by_cases e : k + (if u = 8 then 1 else 0) < u
  · rw [if_pos e]; exact hH _ e
  · rw [if_neg e]; exact hv
section HC
variable {V : Nat → Nat} {g f f1 : GH} {x u p : Nat} {T : TS} {H : Nat → TS} {hs : Int32}
theorem PaA.frame (P : PaA f x u p H) (e : ∀ a, (a = x + 61 ∨ x + 75 ≤ a ∧ a < x + 235) → f1 a = f a) : PaA f1 x u p H := by
  obtain ⟨⟨ra, p1, p2⟩, p3, p4⟩ := P
  refine ⟨⟨ra, by rw [e _ (Or.inl rfl)]; exact p1, p2⟩, fun j hj => ?_, fun k hk => ?_⟩
  · obtain ⟨T0, h0⟩ := p3 j hj
    exact ⟨T0, h0.frame (fun a h1 h2 => e a (Or.inr (by omega)))⟩
  · exact (p4 k hk).frame (fun a h1 h2 => e a (Or.inr (by omega)))
theorem PaA.at (P : PaA f x u p H) {j : Nat} (hj : j < 8) : h_lq f (x + 61) 4 (nn j) = some (x + 75 + 20 * j) := by
  obtain ⟨⟨ra, p1, p2⟩, -⟩ := P
  exact hlq_of p1 hj (by omega) (p2 j hj)
theorem XoA.sPN (X : XoA f x hs (nn u) (nn p)) (y : Int32) : ∃ f1, h_pt f x 9 6 (.int y) = some f1 ∧ XoA f1 x hs (nn u) y ∧ ∀ a, a ≠ x → f1 a = f a :=
  ⟨_, hpt_of X (by decide : 6 < 13), h_up_s _ _ _, fun _ ha => h_up_n f _ ha⟩
theorem XoA.sPC {y : Int32} (X : XoA f x hs (nn u) y) (w : Int32) : ∃ f1, h_pt f x 9 5 (.int w) = some f1 ∧ XoA f1 x hs w y ∧ ∀ a, a ≠ x → f1 a = f a :=
  ⟨_, hpt_of X (by decide : 5 < 13), h_up_s _ _ _, fun _ ha => h_up_n f _ ha⟩
theorem P_remember (X : XoA f x hs (nn u) (nn p)) (C : ChA f (x + 1) T) (hv : TV T) (P : PaA f x u p H) (hu : u ≤ 8) (hp : p < 8) : ∃ f1, p_X7_rememberChart V g f x = some f1 ∧ XoA f1 x hs (nn (h_pu u)) (nn (h_pp p)) ∧ ChA f1 (x + 1) T ∧ PaA f1 x (h_pu u) (h_pp p) (h_pH u H T) ∧ ∀ a, a ≠ x → (a < x + 75 ∨ x + 235 ≤ a) → f1 a = f a := by
  obtain ⟨T0, S0⟩ := P.2.1 p hp
  obtain ⟨f2, e2, S2, o2⟩ := C_copyChart (V := V) (g := g) C hv S0 (by omega)
  have X2 : XoA f2 x hs (nn u) (nn p) := X.fr (o2 x (by omega))
  obtain ⟨f3, e3, X3, o3⟩ := X2.sPN (nn (h_pp p))
  have hj : ∃ f4, p_X7_rememberChart_j36 V g x (nn (h_pp p)) x f2 = some f4 ∧ XoA f4 x hs (nn (h_pu u)) (nn (h_pp p)) ∧ ∀ a, a ≠ x → f4 a = f2 a := by
    unfold p_X7_rememberChart_j36 h_pu
    rw [e3, ob_s, X3.pC, ob_s]
    by_cases c : u < 8
    · obtain ⟨f4, e4, X4, o4⟩ := X3.sPC (nn u + 1)
      refine ⟨f4, ?_, ?_, fun a ha => (o4 a ha).trans (o3 a ha)⟩
      · rw [if_neg (by rw [show (8 : Int32) = nn 8 from rfl, nn_le (by omega) (by omega)]; omega), ob_s, e4, ob_s]
      · rw [if_pos c, ← nn_s]; exact X4
    · refine ⟨f3, ?_, ?_, o3⟩
      · rw [if_pos (by rw [show (8 : Int32) = nn 8 from rfl, nn_le (by omega) (by omega)]; omega)]
      · rw [if_neg c, show 8 = u by omega]; exact X3
  obtain ⟨f4, e4, X4, o4⟩ := hj
  have oo : ∀ a, a ≠ x → (a < x + 75 + 20 * p ∨ x + 75 + 20 * p + 20 ≤ a) → f4 a = f a := fun a ha hb => (o4 a ha).trans (o2 a hb)
  have other : ∀ (j : Nat) (T1 : TS), j < 8 → j ≠ p → ChA f (x + 75 + 20 * j) T1 → ChA f4 (x + 75 + 20 * j) T1 := fun j T1 hj hne h => h.frame (fun a h1 h2 => oo a (by omega) (by omega))
  have self : ChA f4 (x + 75 + 20 * p) T := S2.frame (fun a h1 h2 => o4 a (by omega))
  refine ⟨f4, ?_, X4, C.frame (fun a h1 h2 => oo a (by omega) (by omega)), ⟨?_, fun j hj => ?_, fun k hk => ?_⟩, fun a ha hb => oo a ha (by omega)⟩
  · unfold p_X7_rememberChart
    rw [X.me, X.pa, ob_s, X.pN, ob_s, P.at hp, ob_s, X.ch, ob_s, e2, ob_s, X2.pN, ob_s]
    unfold h_pp at e4
    by_cases c : p = 7
    · rw [if_pos c] at e4
      rw [if_pos (by rw [c]; rfl)]
      exact e4
    · rw [if_neg c] at e4
      rw [if_neg (fun e => c (by rw [n_7, nn_eq (by omega) (by omega)] at e; exact e)), ob_s, nn_s]
      exact e4
  · obtain ⟨ra, p1, p2⟩ := P.1
    exact ⟨ra, by rw [oo _ (by omega) (by omega)]; exact p1, p2⟩
  · by_cases e : j = p
    · exact ⟨T, by rw [e]; exact self⟩
    · obtain ⟨T1, h1⟩ := P.2.1 j hj
      exact ⟨T1, other j T1 hj e h1⟩
  · unfold h_pH
    by_cases c : k + (if u = 8 then 1 else 0) < u
    · rw [if_pos c]
      have h1 := P.2.2 _ c
      have e1 : (h_pp p + 8 - h_pu u + k) % 8 = (p + 8 - u + (k + (if u = 8 then 1 else 0))) % 8 := by
        unfold h_pp h_pu
        by_cases e8 : u = 8
        · rw [if_pos e8, if_neg (show ¬ u < 8 by omega)]
          split <;> omega
        · rw [if_neg e8, if_pos (show u < 8 by omega)]
          split <;> omega
      rw [e1]
      refine other _ _ (Nat.mod_lt _ (by decide)) ?_ h1
      by_cases e8 : u = 8
      · rw [if_pos e8] at c ⊢
        omega
      · rw [if_neg e8] at c ⊢
        omega
    · rw [if_neg c]
      have e1 : (h_pp p + 8 - h_pu u + k) % 8 = p := by
        unfold h_pp h_pu at *
        by_cases e8 : u = 8
        · rw [if_pos e8] at c
          rw [if_neg (show ¬ u < 8 by omega)] at hk ⊢
          split <;> omega
        · rw [if_neg e8] at c
          rw [if_pos (show u < 8 by omega)] at hk ⊢
          split <;> omega
      rw [e1]
      exact self
theorem P_undo (X : XoA f x hs (nn u) (nn p)) (C : ChA f (x + 1) T) (P : PaA f x u p H) (hH : ∀ k, k < u → TV (H k)) (hu : u ≤ 8) (hp : p < 8) (h0 : u ≠ 0) : ∃ f1, p_X7_undo V g f x = some (.inr (nn (u - 1), f1)) ∧ XoA f1 x hs (nn (u - 1)) (nn ((p + 7) % 8)) ∧ ChA f1 (x + 1) (H (u - 1)) ∧ PaA f1 x (u - 1) ((p + 7) % 8) H ∧ ∀ a, (a < x ∨ x + 21 ≤ a) → f1 a = f a := by
  obtain ⟨f3, e3, X3, o3⟩ := X.sPN (nn ((p + 7) % 8))
  obtain ⟨f4, e4, X4, o4⟩ := X3.sPC (nn (u - 1))
  have oo : ∀ a, a ≠ x → f4 a = f a := fun a ha => (o4 a ha).trans (o3 a ha)
  have P4 : PaA f4 x u p H := P.frame (fun a ha => oo a (by omega))
  have L : ChA f4 (x + 75 + 20 * ((p + 7) % 8)) (H (u - 1)) := by
    have := P4.2.2 (u - 1) (by omega)
    rwa [show (p + 8 - u + (u - 1)) % 8 = (p + 7) % 8 by omega] at this
  have C4 : ChA f4 (x + 1) T := C.frame (fun a h1 h2 => oo a (by omega))
  obtain ⟨f5, e5, C5, o5⟩ := C_copyChart (V := V) (g := g) L (hH _ (by omega)) C4 (by omega)
  have X5 : XoA f5 x hs (nn (u - 1)) (nn ((p + 7) % 8)) := X4.fr (o5 x (by omega))
  have hj : p_X7_undo_j37 V g x (nn ((p + 7) % 8)) x f = some (.inr (nn (u - 1), f5)) := by
    unfold p_X7_undo_j37
    rw [e3, ob_s, X3.pC, ob_s, nn_p (by omega), e4, ob_s, X4.ch, ob_s, X4.pa, ob_s, X4.pN, ob_s, P4.at (Nat.mod_lt _ (by decide)), ob_s, e5, ob_s, X5.pC, ob_s]
  refine ⟨f5, ?_, X5, C5, ?_, fun a ha => (o5 a (by omega)).trans (oo a (by omega))⟩
  · unfold p_X7_undo
    rw [X.me, X.pC, ob_s, if_neg (fun e => h0 (by rw [n_0, nn_eq (by omega) (by omega)] at e; exact e)), X.pN, ob_s]
    by_cases c : p = 0
    · rw [if_pos (by rw [c]; rfl)]
      rw [c] at hj
      exact hj
    · rw [if_neg (fun e => c (by rw [n_0, nn_eq (by omega) (by omega)] at e; exact e)), ob_s, nn_p (by omega), show p - 1 = (p + 7) % 8 by omega]
      exact hj
  · refine ⟨?_, fun j hj => ?_, fun k hk => ?_⟩
    · obtain ⟨ra, p1, p2⟩ := P4.1
      exact ⟨ra, by rw [o5 _ (by omega)]; exact p1, p2⟩
    · obtain ⟨T1, h1⟩ := P4.2.1 j hj
      exact ⟨T1, h1.frame (fun a h1 h2 => o5 a (by omega))⟩
    · have := P4.2.2 k (by omega)
      rw [show ((p + 7) % 8 + 8 - (u - 1) + k) % 8 = (p + 8 - u + k) % 8 by omega]
      exact this.frame (fun a h1 h2 => o5 a (by omega))
/-- a change asked for by the single command -/
theorem P_change {v : Nat} {a q r w k : Int32} {c0 : CS} (S : StOK V g) (X : XoA f x hs (nn u) (nn p)) (C : ChA f (x + 1) T) (hv : TV T) (P : PaA f x u p H) (hu : u ≤ 8) (hp : p < 8) (K : CmA f (x + 66) V v a q r w k c0) (h1 : 1 ≤ v) (h11 : v ≤ 11) (hk : v = 11 → k = 0 ∨ k = 1) (hs0 : v ≤ 2 → CoV c0) :
    (s_ref v T a q r w = 0 → ∃ f1, p_X7_change V g f x = some (.inr (s_ans v T a q r w, f1)) ∧ XoA f1 x hs (nn (h_pu u)) (nn (h_pp p)) ∧ ChA f1 (x + 1) (ts_do v T a q r w k c0) ∧ PaA f1 x (h_pu u) (h_pp p) (h_pH u H T) ∧ ∀ a, (a < x ∨ x + 21 ≤ a ∧ a < x + 75 ∨ x + 235 ≤ a) → f1 a = f a) ∧
    (s_ref v T a q r w = 1 → p_X7_change V g f x = some (.inl (0, f))) ∧ (s_ref v T a q r w = 2 → p_X7_change V g f x = some (.inl (1, f))) ∧ (s_ref v T a q r w = 3 → p_X7_change V g f x = some (.inl (2, f))) := by
  have hr := C_refusal S C hv K h1 h11
  have hun : ∀ y, p_X1_refusalOf V g f (x + 1) (x + 66) = some y → p_X7_change V g f x = x_b (p_X7_refuse V g f y) (fun z => (z, f)) fun v4 => (p_X7_rememberChart V g f x).bind fun v5 => (h_gr v5 x 9 0).bind fun v6 => (h_gr v5 x 9 10).bind fun v7 => (p_X1_apply V g v5 v6 v7).bind fun v8 => some (.inr (v8.1, v8.2)) := by
    intro y hy
    unfold p_X7_change
    rw [X.me, X.ch, ob_s, X.sg, ob_s, hy, ob_s]
  have hy := hun _ hr
  refine ⟨fun h0 => ?_, fun h0 => ?_, fun h0 => ?_, fun h0 => ?_⟩
  · obtain ⟨f1, e1, X1, C1, P1, o1⟩ := P_remember (V := V) (g := g) X C hv P hu hp
    have K1 : CmA f1 (x + 66) V v a q r w k c0 := K.frame (fun b b1 b2 => o1 b (by omega) (by omega))
    obtain ⟨f2, e2, C2, o2⟩ := C_apply S C1 hv K1 h1 h11 (by omega) h0 hk hs0
    refine ⟨f2, ?_, X1.fr (o2 x (by omega)), C2, P1.frame (fun a ha => o2 a (by omega)), fun a ha => (o2 a (by omega)).trans (o1 a (by omega) (by omega))⟩
    rw [hy, h0]
    show x_b (some (.inr ())) _ _ = _
    rw [xb_r, e1, ob_s, X1.ch, ob_s, X1.sg, ob_s, e2, ob_s]
  · rw [hy, h0]; rfl
  · rw [hy, h0]; rfl
  · rw [hy, h0]; rfl
end HC
/-! the reference's -/
def HsA (A : Nat → Nat → Int32) (u : Nat) (H : Nat → TS) : Prop := ∀ k, k < u → RT (fun i => A 4 (1825 * k + i)) (H k)
section HM
variable {V : Nat → Nat} {g f0 : GH} {m b : Nat} {z : Nat → Int32} {A : Nat → Nat → Int32} {T : TS} {u : Nat} {H : Nat → TS}
theorem n_1825 (k : Nat) : (1825 : Int32) * nn k = nn (1825 * k) := by rw [show (1825 : Int32) = nn 1825 from rfl, nn_mul]
end HM


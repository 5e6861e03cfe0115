/-! ===== the history, on both sides ===== -/
/-- the changes that can be undone: what lies where -/
def PaA (f : GH) (x u p : Nat) (H : Nat → TS) : Prop := (∃ ra : Nat → Option Nat, f (x + 61) = some (.inl (4, 8, .inr (.inr (.inr (.inr ra))))) ∧ ∀ j, j < 8 → ra j = some (x + 75 + 20 * j)) ∧ (∀ j, j < 8 → ∃ T0, ChA f (x + 75 + 20 * j) T0) ∧ ∀ k, k < u → ChA f (x + 75 + 20 * ((p + 8 - u + k) % 8)) (H k)
def h_pu (u : Nat) : Nat := if u < 8 then u + 1 else 8
def h_pp (p : Nat) : Nat := if p = 7 then 0 else p + 1
def h_pH (u : Nat) (H : Nat → TS) (T : TS) : Nat → TS := fun k => if k + (if u = 8 then 1 else 0) < u then H (k + (if u = 8 then 1 else 0)) else T
theorem h_pH_v {u : Nat} {H : Nat → TS} {T : TS} (hv : TV T) (hH : ∀ k, k < u → TV (H k)) : ∀ k, k < h_pu u → TV (h_pH u H T k) := by
  intro k hk
  unfold h_pH
  by_cases e : k + (if u = 8 then 1 else 0) < u
  · rw [if_pos e]; exact hH _ e
  · rw [if_neg e]; exact hv
section HC
variable {V : Nat → Nat} {g f f1 : GH} {x u p : Nat} {T : TS} {H : Nat → TS} {hs : Int32}
theorem PaA.frame (P : PaA f x u p H) (e : ∀ a, (a = x + 61 ∨ x + 75 ≤ a ∧ a < x + 235) → f1 a = f a) : PaA f1 x u p H := by
  obtain ⟨⟨ra, p1, p2⟩, p3, p4⟩ := P
  refine ⟨⟨ra, by rw [e _ (Or.inl rfl)]; exact p1, p2⟩, fun j hj => ?_, fun k hk => ?_⟩
  · obtain ⟨T0, h0⟩ := p3 j hj
    exact ⟨T0, h0.frame (fun a h1 h2 => e a (Or.inr (by omega)))⟩
  · exact (p4 k hk).frame (fun a h1 h2 => e a (Or.inr (by omega)))
theorem PaA.at (P : PaA f x u p H) {j : Nat} (hj : j < 8) : h_lq f (x + 61) 4 (nn j) = some (x + 75 + 20 * j) := by
  obtain ⟨⟨ra, p1, p2⟩, -⟩ := P
  exact hlq_of p1 hj (by omega) (p2 j hj)
theorem XoA.sPN (X : XoA f x hs (nn u) (nn p)) (y : Int32) : ∃ f1, h_pt f x 9 6 (.int y) = some f1 ∧ XoA f1 x hs (nn u) y ∧ ∀ a, a ≠ x → f1 a = f a :=
  ⟨_, hpt_of X (by decide : 6 < 13), h_up_s _ _ _, fun _ ha => h_up_n f _ ha⟩
theorem XoA.sPC {y : Int32} (X : XoA f x hs (nn u) y) (w : Int32) : ∃ f1, h_pt f x 9 5 (.int w) = some f1 ∧ XoA f1 x hs w y ∧ ∀ a, a ≠ x → f1 a = f a :=
  ⟨_, hpt_of X (by decide : 5 < 13), h_up_s _ _ _, fun _ ha => h_up_n f _ ha⟩
theorem P_remember (X : XoA f x hs (nn u) (nn p)) (C : ChA f (x + 1) T) (hv : TV T) (P : PaA f x u p H) (hu : u ≤ 8) (hp : p < 8) : ∃ f1, p_X7_rememberChart V g f x = some f1 ∧ XoA f1 x hs (nn (h_pu u)) (nn (h_pp p)) ∧ ChA f1 (x + 1) T ∧ PaA f1 x (h_pu u) (h_pp p) (h_pH u H T) ∧ ∀ a, a ≠ x → (a < x + 75 ∨ x + 235 ≤ a) → f1 a = f a := by
  obtain ⟨T0, S0⟩ := P.2.1 p hp
  obtain ⟨f2, e2, S2, o2⟩ := C_copyChart (V := V) (g := g) C hv S0 (by omega)
  have X2 : XoA f2 x hs (nn u) (nn p) := X.fr (o2 x (by omega))
  obtain ⟨f3, e3, X3, o3⟩ := X2.sPN (nn (h_pp p))
  have hj : ∃ f4, p_X7_rememberChart_j36 V g x (nn (h_pp p)) x f2 = some f4 ∧ XoA f4 x hs (nn (h_pu u)) (nn (h_pp p)) ∧ ∀ a, a ≠ x → f4 a = f2 a := by
    unfold p_X7_rememberChart_j36 h_pu
    rw [e3, ob_s, X3.pC, ob_s]
    by_cases c : u < 8
    · obtain ⟨f4, e4, X4, o4⟩ := X3.sPC (nn u + 1)
      refine ⟨f4, ?_, ?_, fun a ha => (o4 a ha).trans (o3 a ha)⟩
      · rw [if_neg (by rw [show (8 : Int32) = nn 8 from rfl, nn_le (by omega) (by omega)]; omega), ob_s, e4, ob_s]
      · rw [if_pos c, ← nn_s]; exact X4
    · refine ⟨f3, ?_, ?_, o3⟩
      · rw [if_pos (by rw [show (8 : Int32) = nn 8 from rfl, nn_le (by omega) (by omega)]; omega)]
      · rw [if_neg c, show 8 = u by omega]; exact X3
  obtain ⟨f4, e4, X4, o4⟩ := hj
  have oo : ∀ a, a ≠ x → (a < x + 75 + 20 * p ∨ x + 75 + 20 * p + 20 ≤ a) → f4 a = f a := fun a ha hb => (o4 a ha).trans (o2 a hb)
  have other : ∀ (j : Nat) (T1 : TS), j < 8 → j ≠ p → ChA f (x + 75 + 20 * j) T1 → ChA f4 (x + 75 + 20 * j) T1 := fun j T1 hj hne h => h.frame (fun a h1 h2 => oo a (by omega) (by omega))
  have self : ChA f4 (x + 75 + 20 * p) T := S2.frame (fun a h1 h2 => o4 a (by omega))
  refine ⟨f4, ?_, X4, C.frame (fun a h1 h2 => oo a (by omega) (by omega)), ⟨?_, fun j hj => ?_, fun k hk => ?_⟩, fun a ha hb => oo a ha (by omega)⟩
  · unfold p_X7_rememberChart
    rw [X.me, X.pa, ob_s, X.pN, ob_s, P.at hp, ob_s, X.ch, ob_s, e2, ob_s, X2.pN, ob_s]
    unfold h_pp at e4
    by_cases c : p = 7
    · rw [if_pos c] at e4
      rw [if_pos (by rw [c]; rfl)]
      exact e4
    · rw [if_neg c] at e4
      rw [if_neg (fun e => c (by rw [n_7, nn_eq (by omega) (by omega)] at e; exact e)), ob_s, nn_s]
      exact e4
  · obtain ⟨ra, p1, p2⟩ := P.1
    exact ⟨ra, by rw [oo _ (by omega) (by omega)]; exact p1, p2⟩
  · by_cases e : j = p
    · exact ⟨T, by rw [e]; exact self⟩
    · obtain ⟨T1, h1⟩ := P.2.1 j hj
      exact ⟨T1, other j T1 hj e h1⟩
  · unfold h_pH
    by_cases c : k + (if u = 8 then 1 else 0) < u
    · rw [if_pos c]
      have h1 := P.2.2 _ c
      have e1 : (h_pp p + 8 - h_pu u + k) % 8 = (p + 8 - u + (k + (if u = 8 then 1 else 0))) % 8 := by
        unfold h_pp h_pu
        by_cases e8 : u = 8
        · rw [if_pos e8, if_neg (show ¬ u < 8 by omega)]
          split <;> omega
        · rw [if_neg e8, if_pos (show u < 8 by omega)]
          split <;> omega
      rw [e1]
      refine other _ _ (Nat.mod_lt _ (by decide)) ?_ h1
      by_cases e8 : u = 8
      · rw [if_pos e8] at c ⊢
        omega
      · rw [if_neg e8] at c ⊢
        omega
    · rw [if_neg c]
      have e1 : (h_pp p + 8 - h_pu u + k) % 8 = p := by
        unfold h_pp h_pu at *
        by_cases e8 : u = 8
        · rw [if_pos e8] at c
          rw [if_neg (show ¬ u < 8 by omega)] at hk ⊢
          split <;> omega
        · rw [if_neg e8] at c
          rw [if_pos (show u < 8 by omega)] at hk ⊢
          split <;> omega
      rw [e1]
      exact self
theorem P_undo (X : XoA f x hs (nn u) (nn p)) (C : ChA f (x + 1) T) (P : PaA f x u p H) (hH : ∀ k, k < u → TV (H k)) (hu : u ≤ 8) (hp : p < 8) (h0 : u ≠ 0) : ∃ f1, p_X7_undo V g f x = some (.inr (nn (u - 1), f1)) ∧ XoA f1 x hs (nn (u - 1)) (nn ((p + 7) % 8)) ∧ ChA f1 (x + 1) (H (u - 1)) ∧ PaA f1 x (u - 1) ((p + 7) % 8) H ∧ ∀ a, (a < x ∨ x + 21 ≤ a) → f1 a = f a := by
  obtain ⟨f3, e3, X3, o3⟩ := X.sPN (nn ((p + 7) % 8))
  obtain ⟨f4, e4, X4, o4⟩ := X3.sPC (nn (u - 1))
  have oo : ∀ a, a ≠ x → f4 a = f a := fun a ha => (o4 a ha).trans (o3 a ha)
  have P4 : PaA f4 x u p H := P.frame (fun a ha => oo a (by omega))
  have L : ChA f4 (x + 75 + 20 * ((p + 7) % 8)) (H (u - 1)) := by
    have := P4.2.2 (u - 1) (by omega)
    rwa [show (p + 8 - u + (u - 1)) % 8 = (p + 7) % 8 by omega] at this
  have C4 : ChA f4 (x + 1) T := C.frame (fun a h1 h2 => oo a (by omega))
  obtain ⟨f5, e5, C5, o5⟩ := C_copyChart (V := V) (g := g) L (hH _ (by omega)) C4 (by omega)
  have X5 : XoA f5 x hs (nn (u - 1)) (nn ((p + 7) % 8)) := X4.fr (o5 x (by omega))
  have hj : p_X7_undo_j37 V g x (nn ((p + 7) % 8)) x f = some (.inr (nn (u - 1), f5)) := by
    unfold p_X7_undo_j37
    rw [e3, ob_s, X3.pC, ob_s, nn_p (by omega), e4, ob_s, X4.ch, ob_s, X4.pa, ob_s, X4.pN, ob_s, P4.at (Nat.mod_lt _ (by decide)), ob_s, e5, ob_s, X5.pC, ob_s]
  refine ⟨f5, ?_, X5, C5, ?_, fun a ha => (o5 a (by omega)).trans (oo a (by omega))⟩
  · unfold p_X7_undo
    rw [X.me, X.pC, ob_s, if_neg (fun e => h0 (by rw [n_0, nn_eq (by omega) (by omega)] at e; exact e)), X.pN, ob_s]
    by_cases c : p = 0
    · rw [if_pos (by rw [c]; rfl)]
      rw [c] at hj
      exact hj
    · rw [if_neg (fun e => c (by rw [n_0, nn_eq (by omega) (by omega)] at e; exact e)), ob_s, nn_p (by omega), show p - 1 = (p + 7) % 8 by omega]
      exact hj
  · refine ⟨?_, fun j hj => ?_, fun k hk => ?_⟩
    · obtain ⟨ra, p1, p2⟩ := P4.1
      exact ⟨ra, by rw [o5 _ (by omega)]; exact p1, p2⟩
    · obtain ⟨T1, h1⟩ := P4.2.1 j hj
      exact ⟨T1, h1.frame (fun a h1 h2 => o5 a (by omega))⟩
    · have := P4.2.2 k (by omega)
      rw [show ((p + 7) % 8 + 8 - (u - 1) + k) % 8 = (p + 8 - u + k) % 8 by omega]
      exact this.frame (fun a h1 h2 => o5 a (by omega))
/-- a change asked for by the single command -/
theorem P_change {v : Nat} {a q r w k : Int32} {c0 : CS} (S : StOK V g) (X : XoA f x hs (nn u) (nn p)) (C : ChA f (x + 1) T) (hv : TV T) (P : PaA f x u p H) (hu : u ≤ 8) (hp : p < 8) (K : CmA f (x + 66) V v a q r w k c0) (h1 : 1 ≤ v) (h11 : v ≤ 11) (hk : v = 11 → k = 0 ∨ k = 1) (hs0 : v ≤ 2 → CoV c0) :
    (s_ref v T a q r w = 0 → ∃ f1, p_X7_change V g f x = some (.inr (s_ans v T a q r w, f1)) ∧ XoA f1 x hs (nn (h_pu u)) (nn (h_pp p)) ∧ ChA f1 (x + 1) (ts_do v T a q r w k c0) ∧ PaA f1 x (h_pu u) (h_pp p) (h_pH u H T) ∧ ∀ a, (a < x ∨ x + 21 ≤ a ∧ a < x + 75 ∨ x + 235 ≤ a) → f1 a = f a) ∧
    (s_ref v T a q r w = 1 → p_X7_change V g f x = some (.inl (0, f))) ∧ (s_ref v T a q r w = 2 → p_X7_change V g f x = some (.inl (1, f))) ∧ (s_ref v T a q r w = 3 → p_X7_change V g f x = some (.inl (2, f))) := by
  have hr := C_refusal S C hv K h1 h11
  have hun : ∀ y, p_X1_refusalOf V g f (x + 1) (x + 66) = some y → p_X7_change V g f x = x_b (p_X7_refuse V g f y) (fun z => (z, f)) fun v4 => (p_X7_rememberChart V g f x).bind fun v5 => (h_gr v5 x 9 0).bind fun v6 => (h_gr v5 x 9 10).bind fun v7 => (p_X1_apply V g v5 v6 v7).bind fun v8 => some (.inr (v8.1, v8.2)) := by
    intro y hy
    unfold p_X7_change
    rw [X.me, X.ch, ob_s, X.sg, ob_s, hy, ob_s]
  have hy := hun _ hr
  refine ⟨fun h0 => ?_, fun h0 => ?_, fun h0 => ?_, fun h0 => ?_⟩
  · obtain ⟨f1, e1, X1, C1, P1, o1⟩ := P_remember (V := V) (g := g) X C hv P hu hp
    have K1 : CmA f1 (x + 66) V v a q r w k c0 := K.frame (fun b b1 b2 => o1 b (by omega) (by omega))
    obtain ⟨f2, e2, C2, o2⟩ := C_apply S C1 hv K1 h1 h11 (by omega) h0 hk hs0
    refine ⟨f2, ?_, X1.fr (o2 x (by omega)), C2, P1.frame (fun a ha => o2 a (by omega)), fun a ha => (o2 a (by omega)).trans (o1 a (by omega) (by omega))⟩
    rw [hy, h0]
    show x_b (some (.inr ())) _ _ = _
    rw [xb_r, e1, ob_s, X1.ch, ob_s, X1.sg, ob_s, e2, ob_s]
  · rw [hy, h0]; rfl
  · rw [hy, h0]; rfl
  · rw [hy, h0]; rfl
end HC
/-! the reference's -/
def HsA (A : Nat → Nat → Int32) (u : Nat) (H : Nat → TS) : Prop := ∀ k, k < u → RT (fun i => A 4 (1825 * k + i)) (H k)
section HM
variable {V : Nat → Nat} {g f0 : GH} {m b : Nat} {z : Nat → Int32} {A : Nat → Nat → Int32} {T : TS} {u : Nat} {H : Nat → TS}
theorem n_1825 (k : Nat) : (1825 : Int32) * nn k = nn (1825 * k) := by rw [show (1825 : Int32) = nn 1825 from rfl, nn_mul]
theorem M_copyR {i j k l : Nat} (hi : i < 9) (hj : j < 9) (h0 : 1825 * k + 1825 ≤ mL i) (h1 : 1825 * l + 1825 ≤ mL j) : p_X8_copy V g (mH V m b z A f0) (m + 1 + i) (nn k) (m + 1 + j) (nn l) = some (mH V m b z (upA A j (va_cpy (A i) (A j) (1825 * k) (1825 * l) 1825)) f0) := by
  unfold p_X8_copy
  rw [n_1825, n_1825, show (1825 : Int32) = nn 1825 from rfl, m_cp hi hj (by omega) (by omega), ob_s]
theorem M_keep : p_X8_keep V g (mH V m b z A f0) m = some (mH V m b z (upA A 2 (va_cpy (A 0) (A 2) 0 0 1825)) f0) := by
  have h := M_copyR (V := V) (g := g) (m := m) (b := b) (z := z) (A := A) (f0 := f0) (i := 0) (j := 2) (k := 0) (l := 0) (by decide) (by decide) (by decide) (by decide)
  unfold p_X8_keep
  rw [m_me, m_r0, ob_s, m_r2, ob_s]
  show ((p_X8_copy V g (mH V m b z A f0) (m + 1 + 0) (nn 0) (m + 1 + 2) (nn 0)).bind _) = _
  rw [h, ob_s]
theorem M_rec_l (K : Nat → GH → Option GH) : ∀ (d N t : Nat) (r : Nat → Int32), t + d = 8 → d < N → 1 ≤ t → (∀ i, i < 1825 * (t - 1) → r i = A 4 (i + 1825)) → (∀ i, 1825 * (t - 1) ≤ i → r i = A 4 i) → ∃ r1, p_X8_record_l11 V g K N m (nn t) (mH V m b z (upA A 4 r) f0) = K m (mH V m b z (upA A 4 r1) f0) ∧ ∀ i, i < 12775 → r1 i = A 4 (i + 1825) := by
  intro d
  induction d with
  | zero =>
    intro N t r he hN h1 e1 e2
    obtain ⟨N, rfl⟩ : ∃ M, N = M + 1 := ⟨N - 1, by omega⟩
    refine ⟨r, ?_, fun i hi => e1 i (by omega)⟩
    rw [p_X8_record_l11, if_pos (by rw [show (8 : Int32) = nn 8 from rfl, nn_le (by omega) (by omega)]; omega)]
  | succ d ih =>
    intro N t r he hN h1 e1 e2
    obtain ⟨N, rfl⟩ : ∃ M, N = M + 1 := ⟨N - 1, by omega⟩
    have hc := M_copyR (V := V) (g := g) (m := m) (b := b) (z := z) (A := upA A 4 r) (f0 := f0) (i := 4) (j := 4) (k := t) (l := t - 1) (by decide) (by decide) (by show _ ≤ 14600; omega) (by show _ ≤ 14600; omega)
    rw [upA_up, upA_s] at hc
    obtain ⟨r1, g1, g2⟩ := ih N (t + 1) (va_cpy r r (1825 * t) (1825 * (t - 1)) 1825) (by omega) (by omega) (by omega) (fun i hi => by
      by_cases c : i < 1825 * (t - 1)
      · rw [cpy_out (by omega)]; exact e1 i c
      · rw [cpy_in (by omega) (by omega), e2 _ (by omega)]; congr 1; omega) (fun i hi => by rw [cpy_out (by omega)]; exact e2 i (by omega))
    refine ⟨r1, ?_, g2⟩
    rw [p_X8_record_l11, if_neg (by rw [show (8 : Int32) = nn 8 from rfl, nn_le (by omega) (by omega)]; omega), m_r4, ob_s, ob_s, nn_p (by omega), hc, ob_s, nn_s]
    exact g1
theorem M_rec_j {r : Nat → Int32} {k : Nat} (hk : k < 8) (hz : z 6 = nn k) : p_X8_record_j48 V g m (mH V m b z (upA A 4 r) f0) = some (mH V m b (upd z 6 (nn (k + 1))) (upA A 4 (va_cpy (A 2) r 0 (1825 * k) 1825)) f0) := by
  have hc := M_copyR (V := V) (g := g) (m := m) (b := b) (z := z) (A := upA A 4 r) (f0 := f0) (i := 2) (j := 4) (k := 0) (l := k) (by decide) (by decide) (by decide) (by show _ ≤ 14600; omega)
  rw [upA_up, upA_s, upA_n _ _ (by decide : 2 ≠ 4)] at hc
  unfold p_X8_record_j48
  rw [m_r2, ob_s, m_r4, ob_s, m_gi (k := 6) (by decide), ob_s, hz]
  show ((p_X8_copy V g (mH V m b z (upA A 4 r) f0) (m + 1 + 2) (nn 0) (m + 1 + 4) (nn k)).bind _) = _
  rw [hc, ob_s, m_gi (k := 6) (by decide), ob_s, hz, nn_s, m_pt (k := 6) (by decide), ob_s]
theorem M_record (R : RT (A 2) T) (hv : TV T) (hz : z 6 = nn u) (hu : u ≤ 8) (hH : HsA A u H) (hHv : ∀ k, k < u → TV (H k)) : ∃ r, p_X8_record V g (mH V m b z A f0) m = some (mH V m b (upd z 6 (nn (h_pu u))) (upA A 4 r) f0) ∧ HsA (upA A 4 r) (h_pu u) (h_pH u H T) := by
  have Rc : ∀ (r : Nat → Int32) (k : Nat), RT (fun i => va_cpy (A 2) r 0 (1825 * k) 1825 (1825 * k + i)) T := fun r k => R.cg hv (fun i hi => by
    rw [cpy_in (by omega) (by omega)]; congr 1; omega)
  unfold p_X8_record h_pu
  rw [m_me, m_gi (k := 6) (by decide), ob_s, hz]
  by_cases c : u < 8
  · rw [if_neg (fun e => by rw [show (8 : Int32) = nn 8 from rfl, nn_eq (by omega) (by omega)] at e; omega), if_pos c]
    have hj := M_rec_j (V := V) (g := g) (m := m) (b := b) (A := A) (f0 := f0) (r := A 4) c hz
    rw [upA_e] at hj
    refine ⟨_, hj, fun k hk => ?_⟩
    unfold h_pH
    rw [upA_s]
    by_cases e : k + (if u = 8 then 1 else 0) < u
    · rw [if_pos e]
      have h8 : k + (if u = 8 then 1 else 0) = k := by rw [if_neg (by omega)]; rfl
      rw [h8] at e ⊢
      exact (hH k e).cg (hHv k e) (fun i hi => cpy_out (by omega))
    · rw [if_neg e]
      rw [if_neg (by omega)] at e
      rw [show k = u by omega]
      exact Rc _ _
  · have h8 : u = 8 := by omega
    obtain ⟨r1, e1, e2⟩ := M_rec_l (V := V) (g := g) (m := m) (b := b) (z := z) (A := A) (f0 := f0) (fun x0 f => (h_gi f x0 10 6).bind fun v13 => (h_pt f x0 10 6 (.int (v13 - (1 : Int32)))).bind fun f14 => p_X8_record_j48 V g x0 f14) 7 FU 1 (A 4) (by omega) (by unfold FU; omega) (Nat.le_refl _) (fun i hi => by omega) (fun i hi => rfl)
    rw [upA_e] at e1
    have hj := M_rec_j (V := V) (g := g) (m := m) (b := b) (z := upd z 6 (nn 7)) (A := A) (f0 := f0) (r := r1) (k := 7) (by decide) (upd_s _ _ _)
    rw [upd_u] at hj
    rw [if_pos (by rw [h8]; rfl), if_neg c]
    refine ⟨va_cpy (A 2) r1 0 (1825 * 7) 1825, e1.trans ?_, fun k hk => ?_⟩
    · show ((h_gi (mH V m b z (upA A 4 r1) f0) m 10 6).bind _) = _
      rw [m_gi (k := 6) (by decide), ob_s, hz, nn_p (by omega), m_pt (k := 6) (by decide), ob_s, h8]
      exact hj
    · unfold h_pH
      rw [upA_s, if_pos h8]
      by_cases e : k + 1 < u
      · rw [if_pos e]
        refine (hH (k + 1) e).cg (hHv _ e) (fun i hi => ?_)
        rw [cpy_out (by omega), e2 _ (by omega)]
        congr 1
        omega
      · rw [if_neg e, show k = 7 by omega]
        exact Rc _ _
/-- a change's end -/
theorem M_fails0 (R : RT (A 2) T) (hv : TV T) (hz : z 6 = nn u) (hu : u ≤ 8) (hH : HsA A u H) (hHv : ∀ k, k < u → TV (H k)) : ∃ r, p_X8_fails V g (mH V m b z A f0) m (0 : Int32) = some (0, mH V m b (upd (upd z 7 0) 6 (nn (h_pu u))) (upA A 4 r) f0) ∧ HsA (upA A 4 r) (h_pu u) (h_pH u H T) := by
  obtain ⟨r, e1, e2⟩ := M_record (V := V) (g := g) (m := m) (b := b) (z := upd z 7 0) (A := A) (f0 := f0) R hv (by rw [upd_n _ _ (by decide)]; exact hz) hu hH hHv
  refine ⟨r, ?_, e2⟩
  unfold p_X8_fails
  rw [m_me, m_told, ob_s, if_pos rfl, e1, ob_s, if_pos rfl]
theorem M_failsN {k : Int32} (hk : k ≠ 0) : p_X8_fails V g (mH V m b z A f0) m k = some (1, mH V m b (upd z 7 k) A f0) := by
  unfold p_X8_fails
  rw [m_me, m_told, ob_s, if_neg hk, if_neg hk]
theorem M_undo (hz : z 6 = nn u) (hu : u ≤ 8) : if u = 0 then p_X8_undo V g (mH V m b z A f0) m = some (0, mH V m b (upd z 7 1) A f0) else p_X8_undo V g (mH V m b z A f0) m = some (nn (u - 1), mH V m b (upd (upd z 7 0) 6 (nn (u - 1))) (upA A 0 (va_cpy (A 4) (A 0) (1825 * (u - 1)) 0 1825)) f0) := by
  unfold p_X8_undo
  rw [m_me, m_gi (k := 6) (by decide), ob_s, hz]
  by_cases c : u = 0
  · rw [if_pos c, if_pos (by rw [c]; decide)]
    unfold p_X8_undo_j13
    rw [M_lacksF, ob_s, if_neg (show ¬ (1 : Int32) = 0 by decide)]
  · rw [if_neg c, if_neg (by rw [n_0, nn_le (by omega) (by omega)]; omega)]
    have hc := M_copyR (V := V) (g := g) (m := m) (b := b) (z := upd (upd z 7 0) 6 (nn (u - 1))) (A := A) (f0 := f0) (i := 4) (j := 0) (k := u - 1) (l := 0) (by decide) (by decide) (by show _ ≤ 14600; omega) (by decide)
    unfold p_X8_undo_j13
    rw [M_lacksT, ob_s, if_pos rfl, m_gi (k := 6) (by decide), upd_n _ _ (by decide : 6 ≠ 7), ob_s, hz, nn_p (by omega), m_pt (k := 6) (by decide), ob_s, m_r4, ob_s, m_gi (k := 6) (by decide), ob_s, upd_s, m_r0, ob_s]
    show ((p_X8_copy V g _ (m + 1 + 4) (nn (u - 1)) (m + 1 + 0) (nn 0)).bind _) = _
    rw [hc, ob_s, m_gi (k := 6) (by decide), ob_s, upd_s]
end HM

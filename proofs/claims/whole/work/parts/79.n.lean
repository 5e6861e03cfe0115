/-! ===== a script's command is read ===== -/
/-- verb, coastline, point, two numbers, metric, shape -/
abbrev CMD : Type := Nat × Int32 × Int32 × Int32 × Int32 × Int32 × CS
def qV (K : CMD) : Nat := K.1
def qA (K : CMD) : Int32 := K.2.1
def qP (K : CMD) : Int32 := K.2.2.1
def qU (K : CMD) : Int32 := K.2.2.2.1
def qW (K : CMD) : Int32 := K.2.2.2.2.1
def qK (K : CMD) : Int32 := K.2.2.2.2.2.1
def qC (K : CMD) : CS := K.2.2.2.2.2.2
def s_int (v : Nat) : Nat := if v = 3 then 1 else if v = 5 ∨ v = 6 ∨ v = 8 then 2 else 0
def s_lmN (v : Nat) : Nat := if v = 3 then 50 else if v = 5 ∨ v = 6 then 1000 else if v = 8 then 2000 else 0
def ps_a1 (B : Nat → Int32) (L : Nat) (σ : PS) : Nat × PS := ps_num B L 5 σ
def ps_a2 (B : Nat → Int32) (L v : Nat) (σ : PS) : Nat × PS := if s_hp v = true then ps_num B L 128 (ps_a1 B L σ).2 else (0, (ps_a1 B L σ).2)
def ps_a3 (B : Nat → Int32) (L v : Nat) (σ : PS) : Int32 × PS := if 1 ≤ s_int v then ps_sgn B L (s_lmN v) (ps_a2 B L v σ).2 else (0, (ps_a2 B L v σ).2)
def ps_a4 (B : Nat → Int32) (L v : Nat) (σ : PS) : Int32 × PS := if 2 ≤ s_int v then ps_sgn B L (s_lmN v) (ps_a3 B L v σ).2 else (0, (ps_a3 B L v σ).2)
section S1
variable {B : Nat → Int32} {L v : Nat} {σ : PS}
theorem PV.a1 (h : PV B L σ) : PV B L (ps_a1 B L σ).2 := h.num
theorem PV.a2 (h : PV B L σ) : PV B L (ps_a2 B L v σ).2 := by
  unfold ps_a2
  split
  · exact h.a1.num
  · exact h.a1
theorem PV.a3 (h : PV B L σ) : PV B L (ps_a3 B L v σ).2 := by
  unfold ps_a3
  split
  · exact h.a2.sgn
  · exact h.a2
theorem PV.a4 (h : PV B L σ) : PV B L (ps_a4 B L v σ).2 := by
  unfold ps_a4
  split
  · exact h.a3.sgn
  · exact h.a3
theorem a2_0 (h : pE (ps_a2 B L v σ).2 = 0) : pE (ps_a1 B L σ).2 = 0 := by
  unfold ps_a2 at h
  split at h
  · exact (num_0 h).1
  · exact h
theorem a3_0 (h : pE (ps_a3 B L v σ).2 = 0) : pE (ps_a2 B L v σ).2 = 0 := by
  unfold ps_a3 at h
  split at h
  · exact sgn_0 h
  · exact h
theorem a4_0 (h : pE (ps_a4 B L v σ).2 = 0) : pE (ps_a3 B L v σ).2 = 0 := by
  unfold ps_a4 at h
  split at h
  · exact sgn_0 h
  · exact h
theorem a2_e (h : pE (ps_a1 B L σ).2 ≠ 0) : ps_a2 B L v σ = (0, (ps_a1 B L σ).2) := by
  unfold ps_a2
  split
  · exact ps_num_e h
  · rfl
theorem a3_e (h : pE (ps_a2 B L v σ).2 ≠ 0) : ps_a3 B L v σ = (0, (ps_a2 B L v σ).2) := by
  unfold ps_a3
  split
  · exact ps_sgn_e h
  · rfl
theorem a4_e (h : pE (ps_a3 B L v σ).2 ≠ 0) : ps_a4 B L v σ = (0, (ps_a3 B L v σ).2) := by
  unfold ps_a4
  split
  · exact ps_sgn_e h
  · rfl
theorem s_lim_N (v : Nat) : s_lim v = nn (s_lmN v) := by
  unfold s_lim s_lmN
  split
  · rfl
  · split
    · rfl
    · split <;> rfl
theorem s_lmN_b (v : Nat) : s_lmN v ≤ 2000 := by
  unfold s_lmN
  split
  · omega
  · split
    · omega
    · split <;> omega
theorem s_in_N {h : Nat} (hh : h ≤ 2000) {y : Int32} (h1 : -(h : Int) ≤ y.toInt) (h2 : y.toInt ≤ h) : s_in (-(nn h)) (nn h) y = true := by
  unfold s_in
  rw [decide_eq_true_iff, i_lt, i_lt, i_neg (by rw [nn_i (by omega)]; omega), nn_i (by omega)]
  omega
theorem a3_in (h : pE (ps_a3 B L v σ).2 = 0) : s_in (-(s_lim v)) (s_lim v) (ps_a3 B L v σ).1 = true := by
  have hb := s_lmN_b v
  rw [s_lim_N]
  unfold ps_a3 at h ⊢
  split
  · rename_i q
    rw [if_pos q] at h
    have := sgn_bd hb h
    exact s_in_N hb this.1 this.2
  · exact s_in_N hb (by show -(s_lmN v : Int) ≤ (0 : Int); omega) (by show (0 : Int) ≤ s_lmN v; omega)
theorem a4_in (h : pE (ps_a4 B L v σ).2 = 0) : s_in (-(s_lim v)) (s_lim v) (ps_a4 B L v σ).1 = true := by
  have hb := s_lmN_b v
  rw [s_lim_N]
  unfold ps_a4 at h ⊢
  split
  · rename_i q
    rw [if_pos q] at h
    have := sgn_bd hb h
    exact s_in_N hb this.1 this.2
  · exact s_in_N hb (by show -(s_lmN v : Int) ≤ (0 : Int); omega) (by show (0 : Int) ≤ s_lmN v; omega)
end S1
/-! the reference's numbers -/
section MN
variable {V : Nat → Nat} {g f0 : GH} {m L n : Nat} {z z0 : Nat → Int32} {A : Nat → Nat → Int32} {B : Nat → Int32} {σ : PS}
theorem m_so {k : Nat} (hk : k < 1460) (v : Int32) : h_si (mH V m 0 z A f0) (m + 1 + 8) 0 (nn k) v = some (mH V m 0 z (upA A 8 (upd (A 8) k v)) f0) := m_si (by decide) hk
theorem nn_a3 (k : Nat) : nn k + (3 : Int32) = nn (k + 3) := by rw [n_3, nn_add]
theorem nn_a4 (k : Nat) : nn k + (4 : Int32) = nn (k + 4) := by rw [show (4 : Int32) = nn 4 from rfl, nn_add]
theorem nn_a5 (k : Nat) : nn k + (5 : Int32) = nn (k + 5) := by rw [n_5, nn_add]
theorem M_tail (hL : L ≤ 700) (hn : n < 20) (hA : A 6 = B) (P : PR z0 z L σ) (hv : PV B L σ) {lim : Nat} (hl : lim ≤ 2000) (both : Bool) : ∃ z1 r, p_X8_readNumbers_j111 V g m (nn (73 * n)) (nn lim) (bz both) (mH V m 0 z A f0) = some (mH V m 0 z1 (upA A 8 r) f0) ∧ (∀ k, k < 73 * n + 3 ∨ 73 * n + 5 ≤ k → r k = A 8 k) ∧ (both = true → PR z0 z1 L (ps_sgn B L lim (ps_sgn B L lim σ).2).2 ∧ r (73 * n + 3) = (ps_sgn B L lim σ).1 ∧ r (73 * n + 4) = (ps_sgn B L lim (ps_sgn B L lim σ).2).1) ∧ (both = false → PR z0 z1 L σ) := by
  subst hA
  unfold p_X8_readNumbers_j111
  rw [m_r23, ob_s]
  cases both with
  | true =>
    obtain ⟨z1, e1, P1⟩ := M_sgn (V := V) (g := g) (m := m) (b := 0) (A := A) (f0 := f0) hL P hv hl
    obtain ⟨z2, e2, P2⟩ := M_sgn (V := V) (g := g) (m := m) (b := 0) (A := upA A 8 (upd (A 8) (73 * n + 3) (ps_sgn (A 6) L lim σ).1)) (f0 := f0) hL P1 (by rw [upA_n _ _ (by decide)]; exact hv.sgn) hl
    rw [upA_n _ _ (by decide)] at e2 P2
    refine ⟨z2, upd (upd (A 8) (73 * n + 3) (ps_sgn (A 6) L lim σ).1) (73 * n + 4) (ps_sgn (A 6) L lim (ps_sgn (A 6) L lim σ).2).1, ?_, fun k hk => by rw [upd_n _ _ (by omega), upd_n _ _ (by omega)], fun _ => ⟨P2, by rw [upd_n _ _ (by omega), upd_s], upd_s _ _ _⟩, fun h => absurd h (by decide)⟩
    rw [if_neg bz_tn, e1, ob_s]
    unfold p_X8_readNumbers_j135
    rw [nn_a3, m_so (by omega), ob_s, m_r23, ob_s, if_neg bz_tn, e2, ob_s, nn_a4, m_so (by omega), ob_s, upA_up, upA_s]
  | false =>
    refine ⟨z, upd (upd (A 8) (73 * n + 3) 0) (73 * n + 4) 0, ?_, fun k hk => by rw [upd_n _ _ (by omega), upd_n _ _ (by omega)], fun h => absurd h (by decide), fun _ => P⟩
    rw [if_pos bz_f]
    unfold p_X8_readNumbers_j135
    rw [nn_a3, m_so (by omega), ob_s, m_r23, ob_s, if_pos bz_f, nn_a4, m_so (by omega), ob_s, upA_up, upA_s]
def kBoth (v : Nat) : Bool := v == 5 || v == 6 || v == 8
theorem M_j72 (hL : L ≤ 700) (hn : n < 20) (hA : A 6 = B) (P : PR z0 z L σ) (hv : PV B L σ) {v : Nat} (h3 : 3 ≤ v) (h10 : v ≤ 10) (y : Int32) : ∃ z1 r, p_X8_readNumbers_j72 V g m (nn (73 * n)) (nn (v - 2)) y (nn (73 * n + 2)) (m + 1 + 8) (mH V m 0 z A f0) = some (mH V m 0 z1 (upA A 8 r) f0) ∧ (∀ k, k < 73 * n + 2 ∨ 73 * n + 5 ≤ k → r k = A 8 k) ∧ r (73 * n + 2) = y ∧ (kBoth v = true → PR z0 z1 L (ps_sgn B L (s_lmN v) (ps_sgn B L (s_lmN v) σ).2).2 ∧ r (73 * n + 3) = (ps_sgn B L (s_lmN v) σ).1 ∧ r (73 * n + 4) = (ps_sgn B L (s_lmN v) (ps_sgn B L (s_lmN v) σ).2).1) ∧ (kBoth v = false → PR z0 z1 L σ) := by
  have key : ∀ lim : Nat, lim ≤ 2000 → (kBoth v = true → lim = s_lmN v) → p_X8_readNumbers_j72 V g m (nn (73 * n)) (nn (v - 2)) y (nn (73 * n + 2)) (m + 1 + 8) (mH V m 0 z A f0) = p_X8_readNumbers_j111 V g m (nn (73 * n)) (nn lim) (bz (kBoth v)) (mH V m 0 z (upA A 8 (upd (A 8) (73 * n + 2) y)) f0) → ∃ z1 r, p_X8_readNumbers_j72 V g m (nn (73 * n)) (nn (v - 2)) y (nn (73 * n + 2)) (m + 1 + 8) (mH V m 0 z A f0) = some (mH V m 0 z1 (upA A 8 r) f0) ∧ (∀ k, k < 73 * n + 2 ∨ 73 * n + 5 ≤ k → r k = A 8 k) ∧ r (73 * n + 2) = y ∧ (kBoth v = true → PR z0 z1 L (ps_sgn B L (s_lmN v) (ps_sgn B L (s_lmN v) σ).2).2 ∧ r (73 * n + 3) = (ps_sgn B L (s_lmN v) σ).1 ∧ r (73 * n + 4) = (ps_sgn B L (s_lmN v) (ps_sgn B L (s_lmN v) σ).2).1) ∧ (kBoth v = false → PR z0 z1 L σ) := by
    intro lim hl hlim he
    obtain ⟨z1, r, e1, e2, e3, e4⟩ := M_tail (V := V) (g := g) (m := m) (f0 := f0) (A := upA A 8 (upd (A 8) (73 * n + 2) y)) hL hn ((upA_n _ _ (by decide)).trans hA) P hv hl (kBoth v)
    rw [upA_up] at e1
    rw [upA_s] at e2
    refine ⟨z1, r, he.trans e1, fun k hk => by rw [e2 k (by omega), upd_n _ _ (by omega)], by rw [e2 _ (by omega), upd_s], fun h => ?_, e4⟩
    rw [← hlim h]
    exact e3 h
  have hv8 : v = 3 ∨ v = 4 ∨ v = 5 ∨ v = 6 ∨ v = 7 ∨ v = 8 ∨ v = 9 ∨ v = 10 := by omega
  have hs : h_si (mH V m 0 z A f0) (m + 1 + 8) 0 (nn (73 * n + 2)) y = some (mH V m 0 z (upA A 8 (upd (A 8) (73 * n + 2) y)) f0) := m_so (by omega) y
  rcases hv8 with rfl | rfl | rfl | rfl | rfl | rfl | rfl | rfl
  · exact key 1000 (by decide) (by decide) (by unfold p_X8_readNumbers_j72; rw [hs, ob_s]; rfl)
  · exact key 1000 (by decide) (by decide) (by unfold p_X8_readNumbers_j72; rw [hs, ob_s]; rfl)
  · exact key 1000 (by decide) (by decide) (by unfold p_X8_readNumbers_j72; rw [hs, ob_s]; rfl)
  · exact key 1000 (by decide) (by decide) (by unfold p_X8_readNumbers_j72; rw [hs, ob_s]; rfl)
  · exact key 1000 (by decide) (by decide) (by unfold p_X8_readNumbers_j72; rw [hs, ob_s]; rfl)
  · exact key 2000 (by decide) (by decide) (by unfold p_X8_readNumbers_j72; rw [hs, ob_s]; rfl)
  · exact key 1000 (by decide) (by decide) (by unfold p_X8_readNumbers_j72; rw [hs, ob_s]; rfl)
  · exact key 1000 (by decide) (by decide) (by unfold p_X8_readNumbers_j72; rw [hs, ob_s]; rfl)
theorem M_args (hL : L ≤ 700) (hn : n < 20) (hA : A 6 = B) (P : PR z0 z L σ) (hv : PV B L σ) {v : Nat} (h3 : 3 ≤ v) (h10 : v ≤ 10) : ∃ z1 r, p_X8_readNumbers V g (mH V m 0 z A f0) m (nn (73 * n)) (nn (v - 2)) = some (mH V m 0 z1 (upA A 8 r) f0) ∧ PR z0 z1 L (ps_a4 B L v σ).2 ∧ (∀ k, k < 73 * n + 1 ∨ 73 * n + 5 ≤ k → r k = A 8 k) ∧ r (73 * n + 1) = nn (ps_a1 B L σ).1 ∧ (s_hp v = true → r (73 * n + 2) = nn (ps_a2 B L v σ).1) ∧ (v = 3 → r (73 * n + 2) = (ps_a3 B L v σ).1) ∧ (kBoth v = true → r (73 * n + 3) = (ps_a3 B L v σ).1 ∧ r (73 * n + 4) = (ps_a4 B L v σ).1) := by
  subst hA
  obtain ⟨z1, e1, P1⟩ := M_num (V := V) (g := g) (m := m) (b := 0) (A := A) (f0 := f0) hL P hv (hi := 5) (by decide)
  rw [← n_5] at e1
  have P1' : PR z0 z1 L (ps_a1 (A 6) L σ).2 := P1
  have hv1 : PV (A 6) L (ps_a1 (A 6) L σ).2 := hv.a1
  have hA1 : upA A 8 (upd (A 8) (73 * n + 1) (nn (ps_a1 (A 6) L σ).1)) 6 = A 6 := upA_n _ _ (by decide)
  have hun : p_X8_readNumbers V g (mH V m 0 z A f0) m (nn (73 * n)) (nn (v - 2)) = (if nn (v - 2) = (3 : Int32) then p_X8_readNumbers_j29 V g (p_X8_readNumbers_j34 V g) m (nn (73 * n)) (nn (v - 2)) (mH V m 0 z1 (upA A 8 (upd (A 8) (73 * n + 1) (nn (ps_a1 (A 6) L σ).1))) f0) else (if nn (v - 2) = (4 : Int32) then p_X8_readNumbers_j29 V g (p_X8_readNumbers_j34 V g) m (nn (73 * n)) (nn (v - 2)) (mH V m 0 z1 (upA A 8 (upd (A 8) (73 * n + 1) (nn (ps_a1 (A 6) L σ).1))) f0) else (if nn (v - 2) = (5 : Int32) then p_X8_readNumbers_j29 V g (p_X8_readNumbers_j34 V g) m (nn (73 * n)) (nn (v - 2)) (mH V m 0 z1 (upA A 8 (upd (A 8) (73 * n + 1) (nn (ps_a1 (A 6) L σ).1))) f0) else p_X8_readNumbers_j34 V g m (nn (73 * n)) (nn (v - 2)) (0 : Int32) (mH V m 0 z1 (upA A 8 (upd (A 8) (73 * n + 1) (nn (ps_a1 (A 6) L σ).1))) f0)))) := by
    unfold p_X8_readNumbers
    rw [m_me, m_r23, ob_s, e1, ob_s, nn_s, m_so (by omega), ob_s]
    rfl
  rw [hun]
  generalize hA' : upA A 8 (upd (A 8) (73 * n + 1) (nn (ps_a1 (A 6) L σ).1)) = A2 at hA1 ⊢
  have hA28 : A2 8 = upd (A 8) (73 * n + 1) (nn (ps_a1 (A 6) L σ).1) := by rw [← hA', upA_s]
  have hup : ∀ r, upA A2 8 r = upA A 8 r := fun r => by rw [← hA', upA_up]
  have p34 : ∀ t : Bool, p_X8_readNumbers_j34 V g m (nn (73 * n)) (nn (v - 2)) (bz t) (mH V m 0 z1 A2 f0) = (if bz t = (0 : Int32) then (if nn (v - 2) = (1 : Int32) then (p_X8_readSigned V g (mH V m 0 z1 A2 f0) m (50 : Int32)).bind fun v21 => p_X8_readNumbers_j72 V g m (nn (73 * n)) (nn (v - 2)) v21.1 (nn (73 * n + 2)) (m + 1 + 8) v21.2 else p_X8_readNumbers_j72 V g m (nn (73 * n)) (nn (v - 2)) (0 : Int32) (nn (73 * n + 2)) (m + 1 + 8) (mH V m 0 z1 A2 f0)) else (p_X8_readNumber V g (mH V m 0 z1 A2 f0) m (0 : Int32) (128 : Int32)).bind fun v22 => p_X8_readNumbers_j72 V g m (nn (73 * n)) (nn (v - 2)) v22.1 (nn (73 * n + 2)) (m + 1 + 8) v22.2) := by
    intro t
    unfold p_X8_readNumbers_j34
    rw [m_r23, ob_s, nn_a2]
  by_cases hp : s_hp v = true
  · -- a point
    obtain ⟨z2, e2, P2⟩ := M_num (V := V) (g := g) (m := m) (b := 0) (A := A2) (f0 := f0) hL P1' (by rw [hA1]; exact hv1) (hi := 128) (by decide)
    rw [hA1] at e2 P2
    have h2 : ps_a2 (A 6) L v σ = ps_num (A 6) L 128 (ps_a1 (A 6) L σ).2 := if_pos hp
    rw [← h2] at e2 P2
    obtain ⟨z3, r, e3, b1, b2, b3, b4⟩ := M_j72 (V := V) (g := g) (m := m) (f0 := f0) (A := A2) hL hn hA1 P2 hv.a2 h3 h10 (nn (ps_a2 (A 6) L v σ).1)
    rw [hup] at e3
    rw [hA28] at b1
    have h34 : p_X8_readNumbers_j34 V g m (nn (73 * n)) (nn (v - 2)) (bz true) (mH V m 0 z1 A2 f0) = some (mH V m 0 z3 (upA A 8 r) f0) := by
      rw [p34, if_neg bz_tn, show (128 : Int32) = nn 128 from rfl, e2, ob_s]
      exact e3
    have hv3 : v = 5 ∨ v = 6 ∨ v = 7 := by
      unfold s_hp at hp
      simpa [or_assoc] using hp
    have res : (PR z0 z3 L (ps_a4 (A 6) L v σ).2 ∧ (kBoth v = true → r (73 * n + 3) = (ps_a3 (A 6) L v σ).1 ∧ r (73 * n + 4) = (ps_a4 (A 6) L v σ).1)) := by
      by_cases hb : kBoth v = true
      · obtain ⟨c1, c2, c3⟩ := b3 hb
        have hi2 : 2 ≤ s_int v := by rcases hv3 with rfl | rfl | rfl <;> first | decide | exact absurd hb (by decide)
        have h3' : ps_a3 (A 6) L v σ = ps_sgn (A 6) L (s_lmN v) (ps_a2 (A 6) L v σ).2 := if_pos (by omega)
        have h4' : ps_a4 (A 6) L v σ = ps_sgn (A 6) L (s_lmN v) (ps_a3 (A 6) L v σ).2 := if_pos hi2
        rw [h4', h3']
        exact ⟨c1, fun _ => ⟨c2, c3⟩⟩
      · rw [Bool.not_eq_true] at hb
        have hi0 : s_int v = 0 := by rcases hv3 with rfl | rfl | rfl <;> first | decide | exact absurd hb (by decide)
        have h3' : ps_a3 (A 6) L v σ = (0, (ps_a2 (A 6) L v σ).2) := if_neg (by omega)
        have h4' : ps_a4 (A 6) L v σ = (0, (ps_a3 (A 6) L v σ).2) := if_neg (by omega)
        rw [h4', h3']
        exact ⟨b4 hb, fun h => absurd (h.symm.trans hb) (by decide)⟩
    refine ⟨z3, r, ?_, res.1, fun k hk => by rw [b1 k (by omega), upd_n _ _ (by omega)], by rw [b1 _ (by omega), upd_s], fun _ => b2, fun h => by rw [h] at hp; exact absurd hp (by decide), res.2⟩
    rcases hv3 with rfl | rfl | rfl
    · exact h34
    · exact h34
    · exact h34
  · have hnp : v = 3 ∨ v = 4 ∨ v = 8 ∨ v = 9 ∨ v = 10 := by
      have : v ≠ 5 ∧ v ≠ 6 ∧ v ≠ 7 := ⟨fun e => hp (by rw [e]; rfl), fun e => hp (by rw [e]; rfl), fun e => hp (by rw [e]; rfl)⟩
      omega
    have h2 : ps_a2 (A 6) L v σ = (0, (ps_a1 (A 6) L σ).2) := if_neg hp
    have h34 : (if nn (v - 2) = (3 : Int32) then p_X8_readNumbers_j29 V g (p_X8_readNumbers_j34 V g) m (nn (73 * n)) (nn (v - 2)) (mH V m 0 z1 A2 f0) else (if nn (v - 2) = (4 : Int32) then p_X8_readNumbers_j29 V g (p_X8_readNumbers_j34 V g) m (nn (73 * n)) (nn (v - 2)) (mH V m 0 z1 A2 f0) else (if nn (v - 2) = (5 : Int32) then p_X8_readNumbers_j29 V g (p_X8_readNumbers_j34 V g) m (nn (73 * n)) (nn (v - 2)) (mH V m 0 z1 A2 f0) else p_X8_readNumbers_j34 V g m (nn (73 * n)) (nn (v - 2)) (0 : Int32) (mH V m 0 z1 A2 f0)))) = p_X8_readNumbers_j34 V g m (nn (73 * n)) (nn (v - 2)) (bz false) (mH V m 0 z1 A2 f0) := by
      rcases hnp with rfl | rfl | rfl | rfl | rfl <;> rfl
    rw [h34, p34, if_pos bz_f]
    by_cases hf : v = 3
    · obtain ⟨z2, e2, P2⟩ := M_sgn (V := V) (g := g) (m := m) (b := 0) (A := A2) (f0 := f0) hL P1' (by rw [hA1]; exact hv1) (hi := 50) (by decide)
      rw [hA1] at e2 P2
      have h3' : ps_a3 (A 6) L v σ = ps_sgn (A 6) L 50 (ps_a1 (A 6) L σ).2 := by
        unfold ps_a3
        rw [h2, hf]
        rfl
      rw [← h3'] at e2 P2
      have h4' : ps_a4 (A 6) L v σ = (0, (ps_a3 (A 6) L v σ).2) := if_neg (by rw [hf]; decide)
      obtain ⟨z3, r, e3, b1, b2, b3, b4⟩ := M_j72 (V := V) (g := g) (m := m) (f0 := f0) (A := A2) hL hn hA1 P2 hv.a3 h3 h10 (ps_a3 (A 6) L v σ).1
      rw [hup] at e3
      rw [hA28] at b1
      refine ⟨z3, r, ?_, ?_, fun k hk => by rw [b1 k (by omega), upd_n _ _ (by omega)], by rw [b1 _ (by omega), upd_s], fun h => absurd h hp, fun _ => b2, fun h => by rw [hf] at h; exact absurd h (by decide)⟩
      · rw [if_pos (by rw [hf]; rfl), show (50 : Int32) = nn 50 from rfl, e2, ob_s]
        exact e3
      · rw [h4']
        exact b4 (by rw [hf]; rfl)
    · have P1'' : PR z0 z1 L (ps_a2 (A 6) L v σ).2 := by rw [h2]; exact P1'
      obtain ⟨z3, r, e3, b1, b2, b3, b4⟩ := M_j72 (V := V) (g := g) (m := m) (f0 := f0) (A := A2) hL hn hA1 P1'' hv.a2 h3 h10 (0 : Int32)
      rw [hup] at e3
      rw [hA28] at b1
      have res : (PR z0 z3 L (ps_a4 (A 6) L v σ).2 ∧ (kBoth v = true → r (73 * n + 3) = (ps_a3 (A 6) L v σ).1 ∧ r (73 * n + 4) = (ps_a4 (A 6) L v σ).1)) := by
        by_cases hb : kBoth v = true
        · obtain ⟨c1, c2, c3⟩ := b3 hb
          have hi2 : 2 ≤ s_int v := by rcases hnp with rfl | rfl | rfl | rfl | rfl <;> first | decide | exact absurd hb (by decide)
          have h3' : ps_a3 (A 6) L v σ = ps_sgn (A 6) L (s_lmN v) (ps_a2 (A 6) L v σ).2 := if_pos (by omega)
          have h4' : ps_a4 (A 6) L v σ = ps_sgn (A 6) L (s_lmN v) (ps_a3 (A 6) L v σ).2 := if_pos hi2
          rw [h4', h3']
          exact ⟨c1, fun _ => ⟨c2, c3⟩⟩
        · rw [Bool.not_eq_true] at hb
          have hi0 : s_int v = 0 := by rcases hnp with rfl | rfl | rfl | rfl | rfl <;> first | decide | exact absurd hb (by decide) | exact absurd rfl hf
          have h3' : ps_a3 (A 6) L v σ = (0, (ps_a2 (A 6) L v σ).2) := if_neg (by omega)
          have h4' : ps_a4 (A 6) L v σ = (0, (ps_a3 (A 6) L v σ).2) := if_neg (by omega)
          rw [h4', h3']
          exact ⟨b4 hb, fun h => absurd (h.symm.trans hb) (by decide)⟩
      refine ⟨z3, r, ?_, res.1, fun k hk => by rw [b1 k (by omega), upd_n _ _ (by omega)], by rw [b1 _ (by omega), upd_s], fun h => absurd h hp, fun h => absurd h hf, res.2⟩
      rw [if_neg (fun e => by rw [n_1, nn_eq (by omega) (by omega)] at e; omega)]
      exact e3
end MN

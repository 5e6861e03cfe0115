/-! ===== a map is read ===== -/
def ps_exp (B : Nat → Int32) (L k : Nat) (σ : PS) : PS := ps_adv B L (ps_chk (decide (kD (pT σ) = k)) 1 σ)
def ps_wd (B : Nat → Int32) (L i : Nat) (σ : PS) : PS := ps_adv B L (ps_chk (s_word B (pT σ) i) 1 σ)
def s_mw (B : Nat → Int32) (t : TK) : Bool := s_word B t 1 || s_word B t 2
def ps_met (B : Nat → Int32) (L : Nat) (σ : PS) : PS := ps_adv B L (ps_chk (s_mw B (pT σ)) 1 σ)
def ps_kg (B : Nat → Int32) (σ : PS) : Int32 := bz (decide (pE σ = 0) && s_word B (pT σ) 1)
abbrev MS : Type := Nat × (Nat → CS)
noncomputable def ps_ce (B : Nat → Int32) (L : Nat) (σ : PS) : PS := ps_exp B L 3 (ps_coast B L σ).2
def ms_add (T : MS) (c : CS) : MS := (T.1 + 1, fun j => if j = T.1 then c else T.2 j)
noncomputable def ps_map (B : Nat → Int32) (L : Nat) : Nat → MS → PS → MS × PS
  | 0, T, σ => if pE σ = 0 ∧ kD (pT σ) ≠ 0 then (T, ps_chk false 3 (ps_chk (s_cw B (pT σ)) 1 σ)) else (T, σ)
  | d + 1, T, σ => if pE σ = 0 ∧ kD (pT σ) ≠ 0 then (if pE (ps_ce B L σ) = 0 then ps_map B L d (ms_add T (ps_coast B L σ).1) (ps_ce B L σ) else (T, ps_ce B L σ)) else (T, σ)
def ps_0 (B : Nat → Int32) (L : Nat) : PS := (0, 0, s_adv B L 0)
def ps_m3 (B : Nat → Int32) (L : Nat) : PS := ps_exp B L 3 (ps_met B L (ps_wd B L 0 (ps_0 B L)))
def mp_0 : MS := (0, fun _ => c_new 0)
noncomputable def n6 : Nat := Classical.choose (⟨6, rfl⟩ : ∃ n : Nat, n = 6)
theorem n6_eq : n6 = 6 := Classical.choose_spec (⟨6, rfl⟩ : ∃ n : Nat, n = 6)
noncomputable def ps_whole (B : Nat → Int32) (L : Nat) : MS × PS := ps_map B L n6 mp_0 (ps_m3 B L)
def ps_king (B : Nat → Int32) (L : Nat) : Int32 := ps_kg B (ps_wd B L 0 (ps_0 B L))
section SJ
variable {B : Nat → Int32} {L k i : Nat} {σ : PS} {T : MS}
theorem PV.exp (h : PV B L σ) : PV B L (ps_exp B L k σ) := PV.adv (h.chk _ _)
theorem PV.wd (h : PV B L σ) : PV B L (ps_wd B L i σ) := PV.adv (h.chk _ _)
theorem PV.met (h : PV B L σ) : PV B L (ps_met B L σ) := PV.adv (h.chk _ _)
theorem PV.ce (h : PV B L σ) : PV B L (ps_ce B L σ) := PV.exp h.coast
theorem ps_exp_e (h : pE σ ≠ 0) : ps_exp B L k σ = σ := by unfold ps_exp; rw [ps_chk_e h, ps_adv_e h]
theorem ps_met_e (h : pE σ ≠ 0) : ps_met B L σ = σ := by unfold ps_met; rw [ps_chk_e h, ps_adv_e h]
theorem ps_wd_e (h : pE σ ≠ 0) : ps_wd B L i σ = σ := by unfold ps_wd; rw [ps_chk_e h, ps_adv_e h]
theorem ce_0 (h : pE (ps_ce B L σ) = 0) : pE (ps_coast B L σ).2 = 0 := (chk_0 (by decide) (adv_0 h)).1
theorem ps_ce_n (h0 : pE σ = 0) (h : s_cw B (pT σ) = false) : ps_ce B L σ = ps_chk false 1 σ := by
  unfold ps_ce
  rw [ps_coast_n h0 h, ps_exp_e (chk_ne h0 (by decide))]
theorem ps_map_e (h : pE σ ≠ 0) (d : Nat) : ps_map B L d T σ = (T, σ) := by
  cases d with
  | zero => exact if_neg (fun q => h q.1)
  | succ d => exact if_neg (fun q => h q.1)
def MSV (T : MS) : Prop := T.1 ≤ 6 ∧ ∀ i, i < T.1 → CoV (T.2 i) ∧ cN (T.2 i) ≤ 33
theorem MSV.add (h : MSV T) (h6 : T.1 < 6) (hc : pE (ps_coast B L σ).2 = 0) : MSV (ms_add T (ps_coast B L σ).1) := by
  refine ⟨by show T.1 + 1 ≤ 6; omega, fun i hi => ?_⟩
  have hi : i < T.1 + 1 := hi
  show CoV (if i = T.1 then _ else T.2 i) ∧ cN (if i = T.1 then _ else T.2 i) ≤ 33
  by_cases e : i = T.1
  · rw [if_pos e]; exact CoV.coast hc
  · rw [if_neg e]; exact h.2 i (by omega)
theorem MSV.map : ∀ (d : Nat) (T : MS) (σ : PS), T.1 + d = 6 → MSV T → MSV (ps_map B L d T σ).1 := by
  intro d
  induction d with
  | zero => intro T σ _ h; rw [ps_map]; split <;> exact h
  | succ d ih =>
    intro T σ hd h
    rw [ps_map]
    split
    · split
      · rename_i q
        exact ih _ _ (by show T.1 + 1 + d = 6; omega) (h.add (by omega) (ce_0 q))
      · exact h
    · exact h
/-- the verb here -/
def s_vb (B : Nat → Int32) (t : TK) : Nat → Nat → Option Nat
  | 0, _ => none
  | d + 1, i => if s_word B t (3 + i) = true then some i else s_vb B t d (i + 1)
theorem s_vb_ge {t : TK} : ∀ (d i v : Nat), s_vb B t d i = some v → i ≤ v ∧ v < i + d ∧ s_word B t (3 + v) = true := by
  intro d
  induction d with
  | zero => intro i v h; exact absurd h (by rw [s_vb]; exact fun e => by cases e)
  | succ d ih =>
    intro i v h
    rw [s_vb] at h
    split at h
    · rename_i q; cases h; exact ⟨Nat.le_refl _, by omega, q⟩
    · obtain ⟨a1, a2, a3⟩ := ih _ _ h
      exact ⟨by omega, by omega, a3⟩
theorem s_cw_vb {t : TK} : s_cw B t = true ↔ ∃ v, s_vb B t 11 0 = some v ∧ v < 2 := by
  unfold s_cw
  constructor
  · intro h
    cases h3 : s_word B t 3 with
    | true => exact ⟨0, by rw [s_vb, if_pos h3], by decide⟩
    | false =>
      rw [h3, Bool.false_or] at h
      exact ⟨1, by rw [s_vb, if_neg (by rw [h3]; decide), s_vb, if_pos h], by decide⟩
  · rintro ⟨v, h, hv⟩
    obtain ⟨a1, a2, a3⟩ := s_vb_ge _ _ _ h
    have : v = 0 ∨ v = 1 := by omega
    rcases this with rfl | rfl
    · rw [show s_word B t 3 = true from a3, Bool.true_or]
    · rw [show s_word B t 4 = true from a3, Bool.or_true]
end SJ
section MJ
variable {V : Nat → Nat} {g f0 : GH} {m b L : Nat} {z z0 : Nat → Int32} {A : Nat → Nat → Int32} {B : Nat → Int32} {σ : PS}
theorem M_exp (hL : L ≤ 700) (hA : A 6 = B) (P : PR z0 z L σ) (hv : PV B L σ) {k : Nat} {c : Int32} (hk : symK k c) : ∃ z1, p_X8_expect V g (mH V m b z A f0) m c = some (mH V m b z1 A f0) ∧ PR z0 z1 L (ps_exp B L k σ) := by
  subst hA
  obtain ⟨z1, e1, P1⟩ := M_chk (V := V) (g := g) (m := m) (b := b) (A := A) (f0 := f0) P (decide (pE σ = 0) && decide (kD (pT σ) = k)) (c := 1) (by decide)
  rw [ps_chk_and] at P1
  obtain ⟨z2, e2, P2⟩ := M_advP (V := V) (g := g) (m := m) (b := b) (A := A) (f0 := f0) hL P1 (hv.chk _ _)
  refine ⟨z2, ?_, P2⟩
  unfold p_X8_expect
  rw [m_me, M_sym hL P hv hk, ob_s, e1, ob_s, e2, ob_s]
theorem M_met (S : StOK V g) (hL : L ≤ 700) (hA : A 6 = B) (P : PR z0 z L σ) (hv : PV B L σ) : ∃ z1, p_X8_readMetric V g (mH V m b z A f0) m = some (ps_kg B σ, mH V m b z1 A f0) ∧ PR z0 z1 L (ps_met B L σ) := by
  subst hA
  have w1 := M_isWord (V := V) (m := m) (b := b) (f0 := f0) S (i := 1) (by decide) hL P.2.1 hv
  have w2 := M_isWord (V := V) (m := m) (b := b) (f0 := f0) S (i := 2) (by decide) hL P.2.1 hv
  rw [P.2.2.1] at w1 w2
  have h : ∀ t : Bool, ps_chk t 1 σ = ps_chk (s_mw (A 6) (pT σ)) 1 σ → ∃ z1, (p_X8_check V g (mH V m b z A f0) m (bz t) (1 : Int32)).bind (fun v3 => (p_X8_advance V g v3 m).bind fun v4 => (h_bz (ps_kg (A 6) σ)).bind fun _ => some (ps_kg (A 6) σ, v4)) = some (ps_kg (A 6) σ, mH V m b z1 A f0) ∧ PR z0 z1 L (ps_met (A 6) L σ) := by
    intro t ht
    obtain ⟨z1, e1, P1⟩ := M_chk (V := V) (g := g) (m := m) (b := b) (A := A) (f0 := f0) P t (c := 1) (by decide)
    rw [ht] at P1
    obtain ⟨z2, e2, P2⟩ := M_advP (V := V) (g := g) (m := m) (b := b) (A := A) (f0 := f0) hL P1 (hv.chk _ _)
    refine ⟨z2, ?_, P2⟩
    rw [e1, ob_s, e2, ob_s, show h_bz (ps_kg (A 6) σ) = some (ps_kg (A 6) σ) from hbz _, ob_s]
  unfold p_X8_readMetric
  rw [m_me, show p_X8_isWord V g (mH V m b z A f0) m (V 24) = some (ps_kg (A 6) σ) from w1, ob_s]
  by_cases hk : ps_kg (A 6) σ = 0
  · rw [if_pos hk, show p_X8_isWord V g (mH V m b z A f0) m (V 25) = _ from w2, ob_s]
    have hkb : (decide (pE σ = 0) && s_word (A 6) (pT σ) 1) = false := (bz_0 _).mp hk
    cases hb : (decide (pE σ = 0) && s_word (A 6) (pT σ) 2) with
    | false =>
      rw [if_pos bz_f]
      refine h false ?_
      by_cases h0 : pE σ = 0
      · rw [decide_eq_true h0, Bool.true_and] at hkb hb
        unfold s_mw
        rw [hkb, hb]; rfl
      · rw [ps_chk_e h0, ps_chk_e h0]
    | true =>
      rw [if_neg bz_tn]
      refine h true ?_
      by_cases h0 : pE σ = 0
      · rw [decide_eq_true h0, Bool.true_and] at hb
        unfold s_mw
        rw [hb, Bool.or_true]
      · rw [ps_chk_e h0, ps_chk_e h0]
  · rw [if_neg hk]
    refine h true ?_
    have hkb : (decide (pE σ = 0) && s_word (A 6) (pT σ) 1) = true := by
      cases e : (decide (pE σ = 0) && s_word (A 6) (pT σ) 1) with
      | true => rfl
      | false => exact absurd ((bz_0 _).mpr e) hk
    rw [Bool.and_eq_true] at hkb
    unfold s_mw
    rw [hkb.2, Bool.true_or]
/-- the draft's row, its ledgers left open -/
def RTm (r : Nat → Int32) (k : Int32) (T : MS) : Prop := RT r (T.1, k, r 2, r 3, r 4, T.2)
theorem RTm.lay {k : Int32} {T : MS} {r s : Nat → Int32} {c : CS} (R : RTm r k T) (hT : MSV T) (h6 : T.1 < 6) (hk : k = 0 ∨ k = 1) (hn : cN c ≤ 33) (q : RQ s 0 c) : RTm (upd (va_cpy s r 0 (5 + 260 * T.1) 68) 1 (nn (T.1 + 1))) k (ms_add T c) := by
  have hv : TV (T.1, k, r 2, r 3, r 4, T.2) := ⟨hT.1, hk, fun i hi => (hT.2 i hi).1⟩
  have oo : ∀ j, (j < 5 + 260 * T.1) → j ≠ 1 → upd (va_cpy s r 0 (5 + 260 * T.1) 68) 1 (nn (T.1 + 1)) j = r j := fun j hj h1 => by
    rw [upd_n _ _ h1, cpy_out (by omega)]
  have h := RT.told (r1 := upd (va_cpy s r 0 (5 + 260 * T.1) 68) 1 (nn (T.1 + 1))) (A' := r 3) R hv h6 hn q (oo 0 (by omega) (by decide)) (upd_s _ _ _) (oo 2 (by omega) (by decide)) (oo 3 (by omega) (by decide)) (oo 4 (by omega) (by decide)) (fun j hj => by
    rw [upd_n _ _ (by omega)]
    show va_cpy s r 0 (5 + 260 * T.1) 68 (5 + 260 * T.1 + j) = s j
    rw [cpy_in (by omega) (by omega)]
    congr 1
    omega) (fun j h1 h2 => oo j h2 (by omega))
  unfold RTm
  rw [oo 2 (by omega) (by decide), oo 3 (by omega) (by decide), oo 4 (by omega) (by decide)]
  exact h
theorem M_map_l (S : StOK V g) (hL : L ≤ 700) {k : Int32} (hk : k = 0 ∨ k = 1) : ∀ (d N : Nat) (T : MS) (σ : PS) (z : Nat → Int32) (A : Nat → Nat → Int32), T.1 + d = 6 → d + 2 < N → A 6 = B → PR z0 z L σ → PV B L σ → RTm (A 1) k T → MSV T → ∃ z1 A1, p_X8_readMap_l39 V g (fun f => some f) N m (mH V m 1 z A f0) = some (mH V m 1 z1 A1 f0) ∧ PR z0 z1 L (ps_map B L d T σ).2 ∧ RTm (A1 1) k (ps_map B L d T σ).1 ∧ ∀ j, j ≠ 1 → j ≠ 7 → A1 j = A j := by
  -- an error ends it
  have stop : ∀ (N : Nat) (z : Nat → Int32) (A : Nat → Nat → Int32) (σ : PS), 0 < N → PR z0 z L σ → pE σ ≠ 0 → p_X8_readMap_l39 V g (fun f => some f) N m (mH V m 1 z A f0) = some (mH V m 1 z A f0) := by
    intro N z A σ hN P hne
    obtain ⟨N, rfl⟩ : ∃ M, N = M + 1 := ⟨N - 1, by omega⟩
    rw [p_X8_readMap_l39, m_gi (k := 18) (by decide), P.2.2.1, ob_s, if_neg hne]
  have j86e : ∀ (N : Nat) (z : Nat → Int32) (A : Nat → Nat → Int32) (σ : PS) (t : Bool), 0 < N → PR z0 z L σ → pE (ps_chk t 3 σ) ≠ 0 → ∃ z1, p_X8_readMap_j86 V g (p_X8_readMap_l39 V g (fun f => some f) N) m (bz t) m (mH V m 1 z A f0) = some (mH V m 1 z1 A f0) ∧ PR z0 z1 L (ps_chk t 3 σ) := by
    intro N z A σ t hN P hne
    obtain ⟨z1, e1, P1⟩ := M_chk (V := V) (g := g) (m := m) (b := 1) (A := A) (f0 := f0) P t (c := 3) (by decide)
    refine ⟨z1, ?_, P1⟩
    unfold p_X8_readMap_j86
    rw [e1, ob_s, m_gi (k := 18) (by decide), P1.2.2.1, ob_s, if_neg hne, ob_s, if_neg hne]
    exact stop N z1 A _ hN P1 hne
  intro d
  induction d with
  | zero =>
    intro N T σ z A hd hN hA P hv R hT
    obtain ⟨N, rfl⟩ : ∃ M, N = M + 1 := ⟨N - 1, by omega⟩
    have hkd := hv.2.2.1
    by_cases h0 : pE σ = 0 ∧ kD (pT σ) ≠ 0
    · rw [ps_map, if_pos h0]
      obtain ⟨z1, e1, P1⟩ := M_chk (V := V) (g := g) (m := m) (b := 1) (A := A) (f0 := f0) P (decide (pE σ = 0) && s_cw (A 6) (pT σ)) (c := 1) (by decide)
      rw [ps_chk_and, hA] at P1
      rw [p_X8_readMap_l39, m_gi (k := 18) (by decide), P.2.2.1, ob_s, if_pos h0.1, m_gi (k := 17) (by decide), P.2.1.2.2, ob_s, if_neg (fun e => by rw [n_0, nn_eq (by omega) (by omega)] at e; omega), M_coastHere S hL P (by rw [hA]; exact hv), ob_s, e1, ob_s, m_gi (k := 18) (by decide), P1.2.2.1, ob_s]
      by_cases h1 : pE (ps_chk (s_cw B (pT σ)) 1 σ) = 0
      · obtain ⟨z2, e2, P2⟩ := j86e N z1 A _ false (by omega) P1 (by rw [ps_chk_f h1]; show (3 : Int32) ≠ 0; decide)
        rw [if_pos h1, m_row, ob_s, m_l1 (by decide), R.2.1, ob_s, if_pos (by rw [n_6, nn_le (by omega) (by show T.1 < _; omega)]; show 6 ≤ T.1; omega)]
        exact ⟨z2, A, e2, P2, R, fun _ _ _ => rfl⟩
      · obtain ⟨z2, e2, P2⟩ := j86e N z1 A _ true (by omega) P1 (by rw [ps_chk_t]; exact h1)
        rw [ps_chk_t] at P2
        rw [if_neg h1]
        refine ⟨z2, A, e2, ?_, R, fun _ _ _ => rfl⟩
        rw [ps_chk_e h1]
        exact P2
    · rw [ps_map, if_neg h0]
      refine ⟨z, A, ?_, P, R, fun _ _ _ => rfl⟩
      rw [p_X8_readMap_l39, m_gi (k := 18) (by decide), P.2.2.1, ob_s]
      by_cases h1 : pE σ = 0
      · rw [if_pos h1, m_gi (k := 17) (by decide), P.2.1.2.2, ob_s, if_pos]
        rw [show kD (pT σ) = 0 from Classical.byContradiction fun q => h0 ⟨h1, q⟩]
        rfl
      · rw [if_neg h1]
  | succ d ih =>
    intro N T σ z A hd hN hA P hv R hT
    obtain ⟨N, rfl⟩ : ∃ M, N = M + 1 := ⟨N - 1, by omega⟩
    have hkd := hv.2.2.1
    by_cases h0 : pE σ = 0 ∧ kD (pT σ) ≠ 0
    · rw [ps_map, if_pos h0]
      obtain ⟨z1, e1, P1⟩ := M_chk (V := V) (g := g) (m := m) (b := 1) (A := A) (f0 := f0) P (decide (pE σ = 0) && s_cw (A 6) (pT σ)) (c := 1) (by decide)
      rw [ps_chk_and, hA] at P1
      rw [p_X8_readMap_l39, m_gi (k := 18) (by decide), P.2.2.1, ob_s, if_pos h0.1, m_gi (k := 17) (by decide), P.2.1.2.2, ob_s, if_neg (fun e => by rw [n_0, nn_eq (by omega) (by omega)] at e; omega), M_coastHere S hL P (by rw [hA]; exact hv), ob_s, e1, ob_s, m_gi (k := 18) (by decide), P1.2.2.1, ob_s]
      cases hcw : s_cw B (pT σ) with
      | false =>
        rw [hcw] at P1
        have hne := chk_ne h0.1 (k := 1) (by decide)
        obtain ⟨z2, e2, P2⟩ := j86e N z1 A _ true (by omega) P1 (by rw [ps_chk_t]; exact hne)
        rw [ps_chk_t] at P2
        have hce := ps_ce_n (B := B) (L := L) h0.1 hcw
        rw [if_neg hne, hce, if_neg hne]
        exact ⟨z2, A, e2, P2, R, fun _ _ _ => rfl⟩
      | true =>
        rw [hcw, ps_chk_t] at P1
        rw [ps_chk_t, if_pos h0.1, m_row, ob_s, m_l1 (by decide), R.2.1, ob_s, if_neg (by rw [n_6, nn_le (by omega) (by show T.1 < _; omega)]; show ¬ 6 ≤ T.1; omega)]
        obtain ⟨z2, e2, P2⟩ := M_chk (V := V) (g := g) (m := m) (b := 1) (A := A) (f0 := f0) P1 true (c := 3) (by decide)
        rw [ps_chk_t] at P2
        obtain ⟨z3, A3, e3, P3, q3, o3⟩ := M_coast (V := V) (g := g) (m := m) (b := 1) (f0 := f0) S hL hA P2 hv
        have hA3 : A3 6 = B := (o3 6 (by decide)).trans hA
        obtain ⟨z4, e4, P4⟩ := M_exp (V := V) (g := g) (m := m) (b := 1) (A := A3) (f0 := f0) hL hA3 P3 hv.coast sy3
        show ∃ z1' A1, p_X8_readMap_j86 V g (p_X8_readMap_l39 V g (fun f => some f) N) m (bz true) m (mH V m 1 z1 A f0) = _ ∧ _
        unfold p_X8_readMap_j86
        rw [e2, ob_s, m_gi (k := 18) (by decide), P2.2.2.1, ob_s, if_pos h0.1, e3, ob_s, e4, ob_s, m_gi (k := 18) (by decide), P4.2.2.1, ob_s]
        by_cases h5 : pE (ps_ce B L σ) = 0
        · have h5' : pE (ps_exp B L 3 (ps_coast B L σ).2) = 0 := h5
          have hc0 := ce_0 h5
          have hR3 : A3 1 = A 1 := o3 1 (by decide)
          have hl := M_layTold (V := V) (g := g) (m := m) (b := 1) (z := z4) (A := A3) (f0 := f0) (i := T.1) (by decide) (by rw [hR3]; exact R.2.1) (by omega)
          obtain ⟨z6, A6, k1, k2, k3, k4⟩ := ih N (ms_add T (ps_coast B L σ).1) (ps_ce B L σ) z4 (upA A3 1 (upd (va_cpy (A3 7) (A3 1) 0 (5 + 260 * T.1) 68) 1 (nn (T.1 + 1)))) (by show T.1 + 1 + d = 6; omega) (by omega) ((upA_n _ _ (by decide)).trans hA3) P4 hv.ce (by
            rw [upA_s, hR3]
            exact R.lay hT (by omega) hk (CoV.coast hc0).2 (q3 hc0)) (hT.add (by omega) hc0)
          rw [if_pos h5', if_pos h5, hl, ob_s]
          exact ⟨z6, A6, k1, k2, k3, fun j j1 j7 => (k4 j j1 j7).trans ((upA_n _ _ j1).trans (o3 j j7))⟩
        · have h5' : ¬ pE (ps_exp B L 3 (ps_coast B L σ).2) = 0 := h5
          rw [if_neg h5', if_neg h5]
          refine ⟨z4, A3, stop N z4 A3 _ (by omega) P4 h5, P4, ?_, fun j _ j7 => o3 j j7⟩
          rw [o3 1 (by decide)]
          exact R
    · rw [ps_map, if_neg h0]
      refine ⟨z, A, ?_, P, R, fun _ _ _ => rfl⟩
      rw [p_X8_readMap_l39, m_gi (k := 18) (by decide), P.2.2.1, ob_s]
      by_cases h1 : pE σ = 0
      · rw [if_pos h1, m_gi (k := 17) (by decide), P.2.1.2.2, ob_s, if_pos]
        rw [show kD (pT σ) = 0 from Classical.byContradiction fun q => h0 ⟨h1, q⟩]
        rfl
      · rw [if_neg h1]
theorem PV.p0 : PV B L (ps_0 B L) := s_adv_V B (Nat.zero_le L)
theorem M_map (S : StOK V g) (hL : L ≤ 700) (hA : A 6 = B) (P : PR z0 z L (ps_0 B L)) : ∃ z1 A1, p_X8_readMap V g (mH V m 1 z A f0) m = some (mH V m 1 z1 A1 f0) ∧ PR z0 z1 L (ps_whole B L).2 ∧ RTm (A1 1) (ps_king B L) (ps_whole B L).1 ∧ ∀ j, j ≠ 1 → j ≠ 7 → A1 j = A j := by
  have hv : PV B L (ps_0 B L) := PV.p0
  have w0 := M_isWord (V := V) (m := m) (b := 1) (f0 := f0) (A := A) S (i := 0) (by decide) hL P.2.1 (by rw [hA]; exact hv)
  rw [P.2.2.1, hA] at w0
  obtain ⟨z1, e1, P1⟩ := M_chk (V := V) (g := g) (m := m) (b := 1) (A := A) (f0 := f0) P (decide (pE (ps_0 B L) = 0) && s_word B (pT (ps_0 B L)) 0) (c := 1) (by decide)
  rw [ps_chk_and] at P1
  obtain ⟨z2, e2, P2⟩ := M_advP (V := V) (g := g) (m := m) (b := 1) (A := A) (f0 := f0) hL P1 (by rw [hA]; exact hv.chk _ _)
  rw [hA] at P2
  obtain ⟨z3, e3, P3⟩ := M_met (V := V) (g := g) (m := m) (b := 1) (f0 := f0) S hL hA P2 (PV.wd (i := 0) hv)
  obtain ⟨z4, e4, P4⟩ := M_exp (V := V) (g := g) (m := m) (b := 1) (f0 := f0) hL hA P3 (PV.met (PV.wd (i := 0) hv)) sy3
  have hk : ps_king B L = 0 ∨ ps_king B L = 1 := bz_i01 _
  have hm := M_setMetric (V := V) (g := g) (m := m) (b := 1) (z := z4) (A := upA A 1 (upd (A 1) 1 0)) (f0 := f0) (by decide) hk
  rw [upA_up, upA_s] at hm
  obtain ⟨z6, A6, k1, k2, k3, k4⟩ := M_map_l (V := V) (g := g) (m := m) (f0 := f0) (z0 := z0) (B := B) S hL hk n6 FU mp_0 (ps_m3 B L) z4 (upA A 1 (upd (upd (A 1) 1 0) 0 (ps_king B L))) (by rw [n6_eq]; rfl) (by rw [n6_eq]; unfold FU; omega) ((upA_n _ _ (by decide)).trans hA) P4 (PV.exp (PV.met (PV.wd hv))) (by
    rw [upA_s]
    exact ⟨upd_s _ _ _, by rw [upd_n _ _ (by decide), upd_s]; rfl, rfl, rfl, rfl, fun i hi => absurd hi (Nat.not_lt_zero i)⟩) ⟨Nat.zero_le _, fun i hi => absurd hi (Nat.not_lt_zero i)⟩
  refine ⟨z6, A6, ?_, k2, k3, fun j j1 j7 => (k4 j j1 j7).trans (upA_n _ _ j1)⟩
  unfold p_X8_readMap
  rw [m_me, show p_X8_isWord V g (mH V m 1 z A f0) m (V 23) = _ from w0, ob_s, e1, ob_s, e2, ob_s, e3, ob_s]
  show ((p_X8_expect V g (mH V m 1 z3 A f0) m (59 : Int32)).bind _) = _
  rw [e4, ob_s, m_row, ob_s, m_s1 (by decide), ob_s]
  show ((p_X8_setMetric V g (mH V m 1 z4 (upA A 1 (upd (A 1) 1 0)) f0) m (ps_king B L)).bind _) = _
  rw [hm, ob_s]
  exact k1
end MJ

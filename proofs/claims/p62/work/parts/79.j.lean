/-! ===== a map is read ===== -/
def ps_exp (B : Nat → Int32) (L k : Nat) (σ : PS) : PS := ps_adv B L (ps_chk (decide (kD (pT σ) = k)) 1 σ)
def ps_wd (B : Nat → Int32) (L i : Nat) (σ : PS) : PS := ps_adv B L (ps_chk (s_word B (pT σ) i) 1 σ)
def s_mw (B : Nat → Int32) (t : TK) : Bool := s_word B t 1 || s_word B t 2
def ps_met (B : Nat → Int32) (L : Nat) (σ : PS) : PS := ps_adv B L (ps_chk (s_mw B (pT σ)) 1 σ)
def ps_kg (B : Nat → Int32) (σ : PS) : Int32 := bz (decide (pE σ = 0) && s_word B (pT σ) 1)
abbrev MS : Type := Nat × (Nat → CS)
noncomputable def ps_ce (B : Nat → Int32) (L : Nat) (σ : PS) : PS := ps_exp B L 3 (ps_coast B L σ).2
def ms_add (T : MS) (c : CS) : MS := (T.1 + 1, fun j => if j = T.1 then c else T.2 j)
noncomputable def ps_map (B : Nat → Int32) (L : Nat) : Nat → MS → PS → MS × PS
  | 0, T, σ => if pE σ = 0 ∧ kD (pT σ) ≠ 0 then (T, ps_chk false 3 (ps_chk (s_cw B (pT σ)) 1 σ)) else (T, σ)
  | d + 1, T, σ => if pE σ = 0 ∧ kD (pT σ) ≠ 0 then (if pE (ps_ce B L σ) = 0 then ps_map B L d (ms_add T (ps_coast B L σ).1) (ps_ce B L σ) else (T, ps_ce B L σ)) else (T, σ)
def ps_0 (B : Nat → Int32) (L : Nat) : PS := (0, 0, s_adv B L 0)
def ps_m3 (B : Nat → Int32) (L : Nat) : PS := ps_exp B L 3 (ps_met B L (ps_wd B L 0 (ps_0 B L)))
def mp_0 : MS := (0, fun _ => c_new 0)
noncomputable def n6 : Nat := Classical.choose (⟨6, rfl⟩ : ∃ n : Nat, n = 6)
theorem n6_eq : n6 = 6 := Classical.choose_spec (⟨6, rfl⟩ : ∃ n : Nat, n = 6)
noncomputable def ps_whole (B : Nat → Int32) (L : Nat) : MS × PS := ps_map B L n6 mp_0 (ps_m3 B L)
def ps_king (B : Nat → Int32) (L : Nat) : Int32 := ps_kg B (ps_wd B L 0 (ps_0 B L))
section SJ
variable {B : Nat → Int32} {L k i : Nat} {σ : PS} {T : MS}
theorem PV.exp (h : PV B L σ) : PV B L (ps_exp B L k σ) := PV.adv (h.chk _ _)
theorem PV.wd (h : PV B L σ) : PV B L (ps_wd B L i σ) := PV.adv (h.chk _ _)
theorem PV.met (h : PV B L σ) : PV B L (ps_met B L σ) := PV.adv (h.chk _ _)
theorem PV.ce (h : PV B L σ) : PV B L (ps_ce B L σ) := PV.exp h.coast
theorem ps_exp_e (h : pE σ ≠ 0) : ps_exp B L k σ = σ := by unfold ps_exp; rw [ps_chk_e h, ps_adv_e h]
theorem ps_met_e (h : pE σ ≠ 0) : ps_met B L σ = σ := by unfold ps_met; rw [ps_chk_e h, ps_adv_e h]
theorem ps_wd_e (h : pE σ ≠ 0) : ps_wd B L i σ = σ := by unfold ps_wd; rw [ps_chk_e h, ps_adv_e h]
theorem ce_0 (h : pE (ps_ce B L σ) = 0) : pE (ps_coast B L σ).2 = 0 := (chk_0 (by decide) (adv_0 h)).1
theorem ps_ce_n (h0 : pE σ = 0) (h : s_cw B (pT σ) = false) : ps_ce B L σ = ps_chk false 1 σ := by
  unfold ps_ce
  rw [ps_coast_n h0 h, ps_exp_e (chk_ne h0 (by decide))]
theorem ps_map_e (h : pE σ ≠ 0) (d : Nat) : ps_map B L d T σ = (T, σ) := by
  cases d with
  | zero => exact if_neg (fun q => h q.1)
  | succ d => exact if_neg (fun q => h q.1)
def MSV (T : MS) : Prop := T.1 ≤ 6 ∧ ∀ i, i < T.1 → CoV (T.2 i) ∧ cN (T.2 i) ≤ 33
theorem MSV.add (h : MSV T) (h6 : T.1 < 6) (hc : pE (ps_coast B L σ).2 = 0) : MSV (ms_add T (ps_coast B L σ).1) := by
  refine ⟨by show T.1 + 1 ≤ 6; omega, fun i hi => ?_⟩
  have hi : i < T.1 + 1 := hi
  show CoV (if i = T.1 then _ else T.2 i) ∧ cN (if i = T.1 then _ else T.2 i) ≤ 33
  by_cases e : i = T.1
  · rw [if_pos e]; exact CoV.coast hc
  · rw [if_neg e]; exact h.2 i (by omega)
theorem MSV.map : ∀ (d : Nat) (T : MS) (σ : PS), T.1 + d = 6 → MSV T → MSV (ps_map B L d T σ).1 := by
  intro d
  induction d with
  | zero => intro T σ _ h; rw [ps_map]; split <;> exact h
  | succ d ih =>
    intro T σ hd h
    rw [ps_map]
    split
    · split
      · rename_i q
        exact ih _ _ (by show T.1 + 1 + d = 6; omega) (h.add (by omega) (ce_0 q))
      · exact h
    · exact h
/-- the verb here -/
def s_vb (B : Nat → Int32) (t : TK) : Nat → Nat → Option Nat
  | 0, _ => none
  | d + 1, i => if s_word B t (3 + i) = true then some i else s_vb B t d (i + 1)
theorem s_vb_ge {t : TK} : ∀ (d i v : Nat), s_vb B t d i = some v → i ≤ v ∧ v < i + d ∧ s_word B t (3 + v) = true := by
  intro d
  induction d with
  | zero => intro i v h; exact absurd h (by rw [s_vb]; exact fun e => by cases e)
  | succ d ih =>
    intro i v h
    rw [s_vb] at h
    split at h
    · rename_i q; cases h; exact ⟨Nat.le_refl _, by omega, q⟩
    · obtain ⟨a1, a2, a3⟩ := ih _ _ h
      exact ⟨by omega, by omega, a3⟩
theorem s_cw_vb {t : TK} : s_cw B t = true ↔ ∃ v, s_vb B t 11 0 = some v ∧ v < 2 := by
  unfold s_cw
  constructor
  · intro h
    cases h3 : s_word B t 3 with
    | true => exact ⟨0, by rw [s_vb, if_pos h3], by decide⟩
    | false =>
      rw [h3, Bool.false_or] at h
      exact ⟨1, by rw [s_vb, if_neg (by rw [h3]; decide), s_vb, if_pos h], by decide⟩
  · rintro ⟨v, h, hv⟩
    obtain ⟨a1, a2, a3⟩ := s_vb_ge _ _ _ h
    have : v = 0 ∨ v = 1 := by omega
    rcases this with rfl | rfl
    · rw [show s_word B t 3 = true from a3, Bool.true_or]
    · rw [show s_word B t 4 = true from a3, Bool.or_true]
end SJ
section MJ
variable {V : Nat → Nat} {g f0 : GH} {m b L : Nat} {z z0 : Nat → Int32} {A : Nat → Nat → Int32} {B : Nat → Int32} {σ : PS}
/-- the draft's row, its ledgers left open -/
def RTm (r : Nat → Int32) (k : Int32) (T : MS) : Prop := RT r (T.1, k, r 2, r 3, r 4, T.2)
theorem RTm.lay {k : Int32} {T : MS} {r s : Nat → Int32} {c : CS} (R : RTm r k T) (hT : MSV T) (h6 : T.1 < 6) (hk : k = 0 ∨ k = 1) (hn : cN c ≤ 33) (q : RQ s 0 c) : RTm (upd (va_cpy s r 0 (5 + 260 * T.1) 68) 1 (nn (T.1 + 1))) k (ms_add T c) := by
  have hv : TV (T.1, k, r 2, r 3, r 4, T.2) := ⟨hT.1, hk, fun i hi => (hT.2 i hi).1⟩
  have oo : ∀ j, (j < 5 + 260 * T.1) → j ≠ 1 → upd (va_cpy s r 0 (5 + 260 * T.1) 68) 1 (nn (T.1 + 1)) j = r j := fun j hj h1 => by
    rw [upd_n _ _ h1, cpy_out (by omega)]
  have h := RT.told (r1 := upd (va_cpy s r 0 (5 + 260 * T.1) 68) 1 (nn (T.1 + 1))) (A' := r 3) R hv h6 hn q (oo 0 (by omega) (by decide)) (upd_s _ _ _) (oo 2 (by omega) (by decide)) (oo 3 (by omega) (by decide)) (oo 4 (by omega) (by decide)) (fun j hj => by
    rw [upd_n _ _ (by omega)]
    show va_cpy s r 0 (5 + 260 * T.1) 68 (5 + 260 * T.1 + j) = s j
    rw [cpy_in (by omega) (by omega)]
    congr 1
    omega) (fun j h1 h2 => oo j h2 (by omega))
  unfold RTm
  rw [oo 2 (by omega) (by decide), oo 3 (by omega) (by decide), oo 4 (by omega) (by decide)]
  exact h
theorem PV.p0 : PV B L (ps_0 B L) := s_adv_V B (Nat.zero_le L)
end MJ


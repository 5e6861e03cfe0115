/-! ===== a coastline is read ===== -/
def s_app (c : CS) (x y : Int32) : CS := s_ins c (cN c) x y
def ps_pt3 (B : Nat → Int32) (n : Nat) (σ : PS) : PS := ps_chk (decide (n < 33)) 3 (ps_chk (!decide (kD (pT σ) = 2) || decide (s_val B (pT σ) ≤ 1000)) 2 (ps_chk (decide (kD (pT σ) = 2) || decide (kD (pT σ) = 5)) 1 σ))
def ps_ptE (B : Nat → Int32) (L : Nat) (n : Nat) (σ : PS) : PS := (ps_sgn B L 1000 (ps_sgn B L 1000 (ps_pt3 B n σ)).2).2
def ps_pt (B : Nat → Int32) (L : Nat) (c : CS) (σ : PS) : CS × PS := (if pE (ps_ptE B L (cN c) σ) = 0 then s_app c (ps_sgn B L 1000 (ps_pt3 B (cN c) σ)).1 (ps_sgn B L 1000 (ps_sgn B L 1000 (ps_pt3 B (cN c) σ)).2).1 else c, ps_ptE B L (cN c) σ)
def ps_pts (B : Nat → Int32) (L : Nat) : Nat → CS → PS → CS × PS
  | 0, c, σ => ps_pt B L c σ
  | d + 1, c, σ => if pE (ps_pt B L c σ).2 = 0 ∧ kD (pT (ps_pt B L c σ).2) = 4 then ps_pts B L d (ps_pt B L c σ).1 (ps_adv B L (ps_pt B L c σ).2) else ps_pt B L c σ
/-- 33, not to be unfolded -/
noncomputable def n33 : Nat := Classical.choose (⟨33, rfl⟩ : ∃ n : Nat, n = 33)
theorem n33_eq : n33 = 33 := Classical.choose_spec (⟨33, rfl⟩ : ∃ n : Nat, n = 33)
def c_new (isl : Int32) : CS := (isl, 0, fun _ => 0, fun _ => 0)
noncomputable def ps_body (B : Nat → Int32) (L : Nat) (isl : Int32) (σ : PS) : CS × PS := ((ps_pts B L n33 (c_new isl) σ).1, ps_chk (decide (s_need (ps_pts B L n33 (c_new isl) σ).1 ≤ cN (ps_pts B L n33 (c_new isl) σ).1)) 1 (ps_pts B L n33 (c_new isl) σ).2)
def s_cw (B : Nat → Int32) (t : TK) : Bool := s_word B t 3 || s_word B t 4
def ps_cisl (B : Nat → Int32) (σ : PS) : Int32 := bz (decide (pE (ps_chk (s_cw B (pT σ)) 1 σ) = 0) && s_word B (pT σ) 4)
noncomputable def ps_coast (B : Nat → Int32) (L : Nat) (σ : PS) : CS × PS := ps_body B L (ps_cisl B σ) (ps_adv B L (ps_chk (s_cw B (pT σ)) 1 σ))
section SP
variable {B : Nat → Int32} {L hi n : Nat} {σ : PS} {c : CS}
theorem PV.pt3 (h : PV B L σ) : PV B L (ps_pt3 B n σ) := ((h.chk _ _).chk _ _).chk _ _
theorem PV.ptE (h : PV B L σ) : PV B L (ps_ptE B L n σ) := h.pt3.sgn.sgn
theorem ps_pt3_e (h : pE σ ≠ 0) : ps_pt3 B n σ = σ := by
  unfold ps_pt3
  rw [ps_chk_e h, ps_chk_e h, ps_chk_e h]
theorem ps_ptE_e (h : pE σ ≠ 0) : ps_ptE B L n σ = σ := by
  unfold ps_ptE
  rw [ps_pt3_e h, ps_sgn_e h, ps_sgn_e h]
theorem ps_pt_e (h : pE σ ≠ 0) : ps_pt B L c σ = (c, σ) := by
  unfold ps_pt
  rw [ps_ptE_e h, if_neg h]
theorem ps_pts_e (h : pE σ ≠ 0) : ∀ d, ps_pts B L d c σ = (c, σ) := by
  intro d
  cases d with
  | zero => exact ps_pt_e h
  | succ d =>
    rw [ps_pts, ps_pt_e h]
    exact if_neg (fun q => h q.1)
/-- an error stays -/
theorem chk_0 {ok : Bool} {k : Int32} (hk : k ≠ 0) (h : pE (ps_chk ok k σ) = 0) : pE σ = 0 ∧ ok = true ∧ ps_chk ok k σ = σ := by
  by_cases q : pE σ = 0
  · cases ok with
    | true => exact ⟨q, rfl, ps_chk_t⟩
    | false => rw [ps_chk_f q] at h; exact absurd h hk
  · rw [ps_chk_e q] at h; exact absurd h q
theorem adv_0 (h : pE (ps_adv B L σ) = 0) : pE σ = 0 := by
  by_cases q : pE σ = 0
  · exact q
  · rw [ps_adv_e q] at h; exact h
theorem num_0 (h : pE (ps_num B L hi σ).2 = 0) : pE σ = 0 ∧ kD (pT σ) = 2 ∧ s_val B (pT σ) ≤ hi ∧ ps_num B L hi σ = (s_val B (pT σ), ps_adv B L σ) := by
  have h1 := adv_0 h
  obtain ⟨a1, a2, a3⟩ := chk_0 (by decide) h1
  obtain ⟨b1, b2, b3⟩ := chk_0 (by decide) a1
  refine ⟨b1, of_decide_eq_true b2, of_decide_eq_true a2, ?_⟩
  unfold ps_num
  rw [a3, b3, if_pos b1]
theorem sgn_0 (h : pE (ps_sgn B L hi σ).2 = 0) : pE σ = 0 := by
  unfold ps_sgn at h
  split at h
  · rename_i q; exact q.1
  · exact (num_0 h).1
theorem sgn_bd (hh : hi ≤ 2000) (h : pE (ps_sgn B L hi σ).2 = 0) : -(hi : Int) ≤ (ps_sgn B L hi σ).1.toInt ∧ (ps_sgn B L hi σ).1.toInt ≤ hi := by
  unfold ps_sgn at h ⊢
  split
  · rename_i q
    rw [if_pos q] at h
    obtain ⟨a1, a2, a3, a4⟩ := num_0 h
    show -(hi : Int) ≤ (-(nn (ps_num B L hi (ps_adv B L σ)).1)).toInt ∧ _ ≤ _
    rw [a4, i_neg (by rw [nn_i (by omega)]; omega), nn_i (by omega)]
    omega
  · rename_i q
    rw [if_neg q] at h
    obtain ⟨a1, a2, a3, a4⟩ := num_0 h
    show -(hi : Int) ≤ (nn (ps_num B L hi σ).1).toInt ∧ (nn (ps_num B L hi σ).1).toInt ≤ hi
    rw [a4, nn_i (by omega)]
    omega
theorem pt3_0 (h : pE (ps_pt3 B n σ) = 0) : pE σ = 0 ∧ n < 33 ∧ ps_pt3 B n σ = σ := by
  obtain ⟨a1, a2, a3⟩ := chk_0 (by decide) h
  obtain ⟨b1, b2, b3⟩ := chk_0 (by decide) a1
  obtain ⟨d1, d2, d3⟩ := chk_0 (by decide) b1
  exact ⟨d1, of_decide_eq_true a2, a3.trans (b3.trans d3)⟩
theorem ptE_0 (h : pE (ps_ptE B L n σ) = 0) : pE σ = 0 ∧ n < 33 ∧ ps_pt3 B n σ = σ ∧ pE (ps_sgn B L 1000 σ).2 = 0 := by
  have h1 := sgn_0 h
  obtain ⟨a1, a2, a3⟩ := pt3_0 (sgn_0 h1)
  rw [a3] at h1
  exact ⟨a1, a2, a3, h1⟩
/-- the class looks at the number alone: the same end -/
theorem pt3_sgn (h0 : pE σ = 0) (hn : n < 33) : (ps_sgn B L 1000 (ps_pt3 B n σ)).2 = (ps_sgn B L 1000 σ).2 ∧ (pE (ps_sgn B L 1000 σ).2 = 0 → ps_pt3 B n σ = σ) := by
  unfold ps_pt3
  rw [decide_eq_true hn, ps_chk_t]
  by_cases h5 : kD (pT σ) = 5
  · rw [decide_eq_true h5, Bool.or_true, ps_chk_t, decide_eq_false (show ¬ kD (pT σ) = 2 by omega)]
    show (ps_sgn B L 1000 (ps_chk true 2 σ)).2 = _ ∧ _
    rw [ps_chk_t]
    exact ⟨rfl, fun _ => rfl⟩
  · have hs : ps_sgn B L 1000 σ = (nn (ps_num B L 1000 σ).1, (ps_num B L 1000 σ).2) := if_neg (fun q => h5 q.2)
    by_cases h2 : kD (pT σ) = 2
    · rw [decide_eq_true h2, Bool.true_or, ps_chk_t]
      by_cases hv : s_val B (pT σ) ≤ 1000
      · rw [decide_eq_true hv, Bool.or_true, ps_chk_t]
        exact ⟨rfl, fun _ => rfl⟩
      · have hx : (ps_num B L 1000 σ).2 = ps_chk false 2 σ := by
          unfold ps_num
          rw [decide_eq_true h2, ps_chk_t, decide_eq_false hv, ps_adv_e]
          rw [ps_chk_f h0]; show (2 : Int32) ≠ 0; decide
        have hne : pE (ps_chk false 2 σ) ≠ 0 := by rw [ps_chk_f h0]; show (2 : Int32) ≠ 0; decide
        rw [decide_eq_false hv]
        show (ps_sgn B L 1000 (ps_chk false 2 σ)).2 = _ ∧ _
        rw [ps_sgn_e hne, hs, hx]
        exact ⟨rfl, fun h => absurd h hne⟩
    · have hne : pE (ps_chk false 1 σ) ≠ 0 := by rw [ps_chk_f h0]; show (1 : Int32) ≠ 0; decide
      have hx : (ps_num B L 1000 σ).2 = ps_chk false 1 σ := by
        unfold ps_num
        rw [decide_eq_false h2, ps_chk_e hne, ps_adv_e hne]
      rw [decide_eq_false h2, decide_eq_false h5]
      show (ps_sgn B L 1000 (ps_chk true 2 (ps_chk false 1 σ))).2 = _ ∧ _
      rw [ps_chk_t, ps_sgn_e hne, hs, hx]
      exact ⟨rfl, fun h => absurd h hne⟩
/-- a coastline as far as it is told -/
def CoB (c : CS) : Prop := cN c ≤ 33 ∧ ∀ i, i < cN c → bd (cX c i) ∧ bd (cY c i)
theorem CoB.app (h : CoB c) (hn : cN c < 33) {x y : Int32} (hx : bd x) (hy : bd y) : CoB (s_app c x y) := by
  refine ⟨by show cN c + 1 ≤ 33; omega, fun i hi => ?_⟩
  show bd (if i < cN c then cX c i else if i = cN c then x else cX c (i - 1)) ∧ bd (if i < cN c then cY c i else if i = cN c then y else cY c (i - 1))
  have hi : i < cN c + 1 := hi
  by_cases e : i < cN c
  · rw [if_pos e, if_pos e]; exact h.2 i e
  · rw [if_neg e, if_neg e, if_pos (by omega), if_pos (by omega)]; exact ⟨hx, hy⟩
theorem CoB.pt (h : CoB c) : CoB (ps_pt B L c σ).1 ∧ cI (ps_pt B L c σ).1 = cI c ∧ (pE (ps_pt B L c σ).2 = 0 → cN (ps_pt B L c σ).1 = cN c + 1) := by
  unfold ps_pt
  by_cases h0 : pE (ps_ptE B L (cN c) σ) = 0
  · rw [if_pos h0]
    obtain ⟨a1, a2, a3, a4⟩ := ptE_0 h0
    refine ⟨h.app a2 ?_ ?_, rfl, fun _ => rfl⟩
    · rw [a3]; exact sgn_bd (by decide) a4
    · exact sgn_bd (by decide) h0
  · rw [if_neg h0]
    exact ⟨h, rfl, fun q => absurd q h0⟩
theorem CoB.pts : ∀ (d : Nat) (c : CS) (σ : PS), CoB c → CoB (ps_pts B L d c σ).1 ∧ cI (ps_pts B L d c σ).1 = cI c := by
  intro d
  induction d with
  | zero => intro c σ h; exact ⟨h.pt.1, h.pt.2.1⟩
  | succ d ih =>
    intro c σ h
    rw [ps_pts]
    split
    · have := ih (ps_pt B L c σ).1 (ps_adv B L (ps_pt B L c σ).2) h.pt.1
      exact ⟨this.1, this.2.trans h.pt.2.1⟩
    · exact ⟨h.pt.1, h.pt.2.1⟩
theorem CoB.new (isl : Int32) : CoB (c_new isl) := ⟨Nat.zero_le _, fun i hi => absurd hi (Nat.not_lt_zero i)⟩
theorem body_1 (isl : Int32) : (ps_body B L isl σ).1 = (ps_pts B L n33 (c_new isl) σ).1 := by
  unfold ps_body
  dsimp only
theorem body_2 (isl : Int32) : (ps_body B L isl σ).2 = ps_chk (decide (s_need (ps_pts B L n33 (c_new isl) σ).1 ≤ cN (ps_pts B L n33 (c_new isl) σ).1)) 1 (ps_pts B L n33 (c_new isl) σ).2 := by
  unfold ps_body
  dsimp only
theorem coast_eq : ps_coast B L σ = ps_body B L (ps_cisl B σ) (ps_adv B L (ps_chk (s_cw B (pT σ)) 1 σ)) := by
  unfold ps_coast
  rfl
theorem CoB.body (isl : Int32) : CoB (ps_body B L isl σ).1 ∧ cI (ps_body B L isl σ).1 = isl := by
  have h := CoB.pts (B := B) (L := L) n33 (c_new isl) σ (CoB.new isl)
  rw [body_1]
  generalize ps_pts B L n33 (c_new isl) σ = r at h ⊢
  exact h
theorem body_0 (isl : Int32) (h : pE (ps_body B L isl σ).2 = 0) : s_need (ps_body B L isl σ).1 ≤ cN (ps_body B L isl σ).1 ∧ pE (ps_pts B L n33 (c_new isl) σ).2 = 0 := by
  rw [body_2] at h
  rw [body_1]
  generalize ps_pts B L n33 (c_new isl) σ = r at h ⊢
  obtain ⟨a1, a2, a3⟩ := chk_0 (by decide) h
  exact ⟨of_decide_eq_true a2, a1⟩
theorem bz_i01 (b : Bool) : bz b = 0 ∨ bz b = 1 := by cases b <;> decide
/-- a coastline that was read without an error is one -/
theorem CoV.coast (h : pE (ps_coast B L σ).2 = 0) : CoV (ps_coast B L σ).1 ∧ cN (ps_coast B L σ).1 ≤ 33 := by
  rw [coast_eq] at h ⊢
  obtain ⟨hn, -⟩ := body_0 _ h
  obtain ⟨b1, b2⟩ := CoB.body (B := B) (L := L) (σ := ps_adv B L (ps_chk (s_cw B (pT σ)) 1 σ)) (ps_cisl B σ)
  generalize ps_body B L (ps_cisl B σ) (ps_adv B L (ps_chk (s_cw B (pT σ)) 1 σ)) = r at hn b1 b2 ⊢
  have h01 : cI r.1 = 0 ∨ cI r.1 = 1 := by
    rw [b2]
    exact bz_i01 _
  refine ⟨⟨?_, ?_, b1.2⟩, b1.1⟩
  · unfold s_need at hn
    rcases h01 with e | e
    · rw [if_pos e] at hn; exact Or.inl ⟨e, hn⟩
    · rw [if_neg (by rw [e]; decide)] at hn; exact Or.inr ⟨e, hn⟩
  · exact Nat.le_trans b1.1 (by decide)
theorem PV.pts : ∀ (d : Nat) (c : CS) (σ : PS), PV B L σ → PV B L (ps_pts B L d c σ).2 := by
  intro d
  induction d with
  | zero => intro c σ h; rw [ps_pts]; exact PV.ptE (n := cN c) h
  | succ d ih =>
    intro c σ h
    have h1 : PV B L (ps_pt B L c σ).2 := PV.ptE (n := cN c) h
    rw [ps_pts]
    split
    · exact ih _ _ h1.adv
    · exact h1
theorem PV.body {isl : Int32} (h : PV B L σ) : PV B L (ps_body B L isl σ).2 := by
  have h1 := PV.pts n33 (c_new isl) σ h
  rw [body_2]
  generalize ps_pts B L n33 (c_new isl) σ = r at h1 ⊢
  exact h1.chk _ _
theorem PV.coast (h : PV B L σ) : PV B L (ps_coast B L σ).2 := by
  rw [coast_eq]
  exact PV.body (PV.adv (h.chk _ _))
theorem pts_0 : ∀ (d : Nat) (c : CS) (σ : PS), pE (ps_pts B L d c σ).2 = 0 → pE σ = 0 := by
  intro d
  induction d with
  | zero => intro c σ h; rw [ps_pts] at h; exact (ptE_0 (n := cN c) h).1
  | succ d ih =>
    intro c σ h
    rw [ps_pts] at h
    by_cases q : pE (ps_pt B L c σ).2 = 0 ∧ kD (pT (ps_pt B L c σ).2) = 4
    · exact (ptE_0 (n := cN c) q.1).1
    · rw [if_neg q] at h
      exact (ptE_0 (n := cN c) h).1
theorem coast_0 (h : pE (ps_coast B L σ).2 = 0) : pE σ = 0 ∧ s_cw B (pT σ) = true := by
  rw [coast_eq] at h
  have h1 := adv_0 (pts_0 n33 _ _ (body_0 _ h).2)
  obtain ⟨a1, a2, a3⟩ := chk_0 (by decide) h1
  exact ⟨a1, a2⟩
theorem ps_body_e {isl : Int32} (h : pE σ ≠ 0) : (ps_body B L isl σ).2 = σ := by
  rw [body_2, ps_pts_e h]
  exact ps_chk_e h
theorem ps_coast_e (h : pE σ ≠ 0) : (ps_coast B L σ).2 = σ := by
  rw [coast_eq, ps_chk_e h, ps_adv_e h, ps_body_e h]
theorem ps_coast_n (h0 : pE σ = 0) (h : s_cw B (pT σ) = false) : (ps_coast B L σ).2 = ps_chk false 1 σ := by
  have hne : pE (ps_chk false 1 σ) ≠ 0 := by rw [ps_chk_f h0]; show (1 : Int32) ≠ 0; decide
  rw [coast_eq, h, ps_adv_e hne, ps_body_e hne]
end SP
/-! the reference's -/
section MP
variable {V : Nat → Nat} {g f0 : GH} {m b L n : Nat} {z z0 : Nat → Int32} {A : Nat → Nat → Int32} {B : Nat → Int32} {σ : PS} {c : CS}
theorem M_tell (q : RQ (A 7) 0 c) (hn : cN c < 33) (x y : Int32) : ∃ r, p_X8_tellPoint V g (mH V m b z A f0) m x y = some (mH V m b z (upA A 7 r) f0) ∧ RQ r 0 (s_app c x y) := by
  obtain ⟨q1, q2, q3⟩ := q
  have q2 : A 7 1 = nn (cN c) := q2
  have e1 : ∀ A : Nat → Nat → Int32, h_li (mH V m b z A f0) (m + 1 + 7) 0 (1 : Int32) = some (A 7 1) := fun A => m_li (j := 7) (k := 1) (by decide) (by decide)
  have s1 : ∀ (A : Nat → Nat → Int32) (v : Int32), h_si (mH V m b z A f0) (m + 1 + 7) 0 (1 : Int32) v = some (mH V m b z (upA A 7 (upd (A 7) 1 v)) f0) := fun A v => m_si (j := 7) (k := 1) (by decide) (by decide)
  have i1 : (2 : Int32) + (2 : Int32) * nn (cN c) = nn (2 + 2 * cN c) := by rw [n_2, nn_mul, nn_add]
  refine ⟨upd (upd (upd (A 7) (2 + 2 * cN c) x) (3 + 2 * cN c) y) 1 (nn (cN c + 1)), ?_, ⟨?_, ?_, fun k hk => ?_⟩⟩
  · unfold p_X8_tellPoint
    rw [m_me, m_r22, ob_s, ob_s, e1, ob_s, q2, i1, m_si (j := 7) (by decide) (by show _ < 68; omega), ob_s, m_r22, ob_s, ob_s, e1, upA_s, upd_n _ _ (by omega), q2, ob_s, i1, nn_s, m_si (j := 7) (by decide) (by show _ < 68; omega), ob_s, m_r22, ob_s, e1, upA_s, upA_s, upd_n _ _ (by omega), upd_n _ _ (by omega), q2, ob_s, nn_s, s1, ob_s, upA_up, upA_up, upA_s, show 2 + 2 * cN c + 1 = 3 + 2 * cN c by omega]
  · rw [upd_n _ _ (by omega), upd_n _ _ (by omega), upd_n _ _ (by omega)]
    exact q1
  · rw [upd_s]
    rfl
  · have hk : k < cN c + 1 := hk
    show _ = (if k < cN c then cX c k else if k = cN c then x else cX c (k - 1)) ∧ _ = (if k < cN c then cY c k else if k = cN c then y else cY c (k - 1))
    rw [upd_n _ _ (by omega), upd_n (upd (upd (A 7) (2 + 2 * cN c) x) (3 + 2 * cN c) y) _ (by omega)]
    by_cases e : k < cN c
    · rw [if_pos e, if_pos e, upd_n _ _ (by omega), upd_n _ _ (by omega), upd_n _ _ (by omega), upd_n _ _ (by omega)]
      exact q3 k e
    · have ek : k = cN c := by omega
      rw [if_neg e, if_neg e, if_pos ek, if_pos ek, ek, upd_n _ _ (by omega), show 0 + 2 + 2 * cN c = 2 + 2 * cN c by omega, upd_s, show 0 + 3 + 2 * cN c = 3 + 2 * cN c by omega, upd_s]
      exact ⟨rfl, rfl⟩
theorem M_pt (hL : L ≤ 700) (hA : A 6 = B) (P : PR z0 z L σ) (hv : PV B L σ) (hq : pE σ = 0 → RQ (A 7) 0 c) (hcn : cN c ≤ 33) : ∃ z1 A1, p_X8_readPoint V g (mH V m b z A f0) m = some (mH V m b z1 A1 f0) ∧ PR z0 z1 L (ps_pt B L c σ).2 ∧ (pE (ps_pt B L c σ).2 = 0 → RQ (A1 7) 0 (ps_pt B L c σ).1) ∧ ∀ j, j ≠ 7 → A1 j = A j := by
  subst hA
  have h93 : ∀ (z : Nat → Int32) (σ2 : PS) (t : Bool), PR z0 z L σ2 → PV (A 6) L σ2 → ps_chk t 3 σ2 = ps_pt3 (A 6) (cN c) σ → ∃ z1 A1, p_X8_readPoint_j93 V g m (bz t) m (mH V m b z A f0) = some (mH V m b z1 A1 f0) ∧ PR z0 z1 L (ps_pt (A 6) L c σ).2 ∧ (pE (ps_pt (A 6) L c σ).2 = 0 → RQ (A1 7) 0 (ps_pt (A 6) L c σ).1) ∧ ∀ j, j ≠ 7 → A1 j = A j := by
    intro z σ2 t P2 v2 he
    obtain ⟨z1, e1, P1⟩ := M_chk (V := V) (g := g) (m := m) (b := b) (A := A) (f0 := f0) P2 t (c := 3) (by decide)
    rw [he] at P1
    obtain ⟨z3, e3, P3⟩ := M_sgn (V := V) (g := g) (m := m) (b := b) (A := A) (f0 := f0) hL P1 hv.pt3 (hi := 1000) (by decide)
    obtain ⟨z4, e4, P4⟩ := M_sgn (V := V) (g := g) (m := m) (b := b) (A := A) (f0 := f0) hL P3 hv.pt3.sgn (hi := 1000) (by decide)
    unfold p_X8_readPoint_j93
    rw [e1, ob_s, show (1000 : Int32) = nn 1000 from rfl, e3, ob_s, e4, ob_s]
    show ∃ z1 A1, ((h_gi (mH V m b z4 A f0) m 10 18).bind _) = _ ∧ _
    rw [m_gi (k := 18) (by decide), P4.2.2.1, ob_s]
    unfold ps_pt
    by_cases h0 : pE (ps_ptE (A 6) L (cN c) σ) = 0
    · have h0' : pE (ps_sgn (A 6) L 1000 (ps_sgn (A 6) L 1000 (ps_pt3 (A 6) (cN c) σ)).2).2 = 0 := h0
      obtain ⟨a1, a2, a3, a4⟩ := ptE_0 h0
      obtain ⟨r, e5, e6⟩ := M_tell (V := V) (g := g) (m := m) (b := b) (z := z4) (f0 := f0) (hq a1) a2 (ps_sgn (A 6) L 1000 (ps_pt3 (A 6) (cN c) σ)).1 (ps_sgn (A 6) L 1000 (ps_sgn (A 6) L 1000 (ps_pt3 (A 6) (cN c) σ)).2).1
      refine ⟨z4, upA A 7 r, ?_, P4, fun _ => ?_, fun j hj => upA_n A _ hj⟩
      · rw [if_pos h0', e5, ob_s]
      · rw [if_pos h0, upA_s]; exact e6
    · have h0' : ¬ pE (ps_sgn (A 6) L 1000 (ps_sgn (A 6) L 1000 (ps_pt3 (A 6) (cN c) σ)).2).2 = 0 := h0
      refine ⟨z4, A, ?_, P4, fun h => absurd h h0, fun _ _ => rfl⟩
      rw [if_neg h0']
  have h65 : ∀ (z : Nat → Int32) (σ1 : PS) (t : Bool), PR z0 z L σ1 → PV (A 6) L σ1 → (pE σ1 = 0 → pE σ = 0) → ps_chk t 2 σ1 = ps_chk (!decide (kD (pT σ) = 2) || decide (s_val (A 6) (pT σ) ≤ 1000)) 2 (ps_chk (decide (kD (pT σ) = 2) || decide (kD (pT σ) = 5)) 1 σ) → ∃ z1 A1, p_X8_readPoint_j65 V g m (bz t) m (mH V m b z A f0) = some (mH V m b z1 A1 f0) ∧ PR z0 z1 L (ps_pt (A 6) L c σ).2 ∧ (pE (ps_pt (A 6) L c σ).2 = 0 → RQ (A1 7) 0 (ps_pt (A 6) L c σ).1) ∧ ∀ j, j ≠ 7 → A1 j = A j := by
    intro z σ1 t P1 v1 h1 he
    obtain ⟨z2, e2, P2⟩ := M_chk (V := V) (g := g) (m := m) (b := b) (A := A) (f0 := f0) P1 t (c := 2) (by decide)
    unfold p_X8_readPoint_j65
    rw [e2, ob_s, m_gi (k := 18) (by decide), P2.2.2.1, ob_s]
    by_cases h0 : pE (ps_chk t 2 σ1) = 0
    · have q := hq (h1 (chk_0 (by decide) h0).1)
      rw [if_pos h0, m_r22, ob_s, show h_li (mH V m b z2 A f0) (m + 1 + 7) 0 (1 : Int32) = some (nn (cN c)) from (m_li (j := 7) (k := 1) (by decide) (by decide)).trans (congrArg some q.2.1), ob_s]
      by_cases h33 : cN c < 33
      · rw [if_neg (by rw [show (33 : Int32) = nn 33 from rfl, nn_le (by omega) (by omega)]; omega)]
        exact h93 z2 _ true P2 (v1.chk _ _) (by unfold ps_pt3; rw [← he, decide_eq_true h33])
      · rw [if_pos (by rw [show (33 : Int32) = nn 33 from rfl, nn_le (by omega) (by omega)]; omega)]
        exact h93 z2 _ false P2 (v1.chk _ _) (by unfold ps_pt3; rw [← he, decide_eq_false h33])
    · rw [if_neg h0]
      exact h93 z2 _ true P2 (v1.chk _ _) (by unfold ps_pt3; rw [← he, ps_chk_e h0, ps_chk_e h0])
  have h30 : ∀ (t : Bool), ps_chk t 1 σ = ps_chk (decide (kD (pT σ) = 2) || decide (kD (pT σ) = 5)) 1 σ → ∃ z1 A1, p_X8_readPoint_j30 V g m (bz t) m (mH V m b z A f0) = some (mH V m b z1 A1 f0) ∧ PR z0 z1 L (ps_pt (A 6) L c σ).2 ∧ (pE (ps_pt (A 6) L c σ).2 = 0 → RQ (A1 7) 0 (ps_pt (A 6) L c σ).1) ∧ ∀ j, j ≠ 7 → A1 j = A j := by
    intro t he
    obtain ⟨z1, e1, P1⟩ := M_chk (V := V) (g := g) (m := m) (b := b) (A := A) (f0 := f0) P t (c := 1) (by decide)
    have hk := hv.2.2.1
    have ht : MT z1 (pT σ) := by have := P1.2.1; rwa [ps_chk_T] at this
    unfold p_X8_readPoint_j30
    rw [e1, ob_s, m_gi (k := 18) (by decide), P1.2.2.1, ob_s]
    by_cases h0 : pE (ps_chk t 1 σ) = 0
    · have hs := chk_0 (by decide) h0
      rw [if_pos h0, m_gi (k := 17) (by decide), ht.2.2, ob_s]
      by_cases h2 : kD (pT σ) = 2
      · obtain ⟨w, e2, e3⟩ := M_val (V := V) (g := g) (m := m) (b := b) (f0 := f0) hL ht hv h2
        have hw := e3.1
        have hle := e3.le (show 1000 ≤ 2000 by decide)
        rw [if_pos (by rw [h2]; rfl), e2, ob_s]
        by_cases h1 : s_val (A 6) (pT σ) ≤ 1000
        · rw [if_neg (by rw [show (1000 : Int32) = nn 1000 from rfl, nn_lt (by omega) (by omega)]; omega)]
          exact h65 z1 _ true P1 (hv.chk _ _) (fun _ => hs.1) (by rw [← he, decide_eq_true h1, Bool.or_true])
        · rw [if_pos (by rw [show (1000 : Int32) = nn 1000 from rfl, nn_lt (by omega) (by omega)]; omega)]
          exact h65 z1 _ false P1 (hv.chk _ _) (fun _ => hs.1) (by rw [← he, decide_eq_false h1, decide_eq_true h2]; rfl)
      · rw [if_neg (fun e => by rw [n_2, nn_eq (by omega) (by omega)] at e; omega)]
        exact h65 z1 _ true P1 (hv.chk _ _) (fun _ => hs.1) (by rw [← he, decide_eq_false h2]; rfl)
    · rw [if_neg h0]
      exact h65 z1 _ true P1 (hv.chk _ _) (fun h => absurd h h0) (by rw [← he, ps_chk_e h0, ps_chk_e h0])
  have hk := hv.2.2.1
  unfold p_X8_readPoint
  rw [m_me, m_gi (k := 18) (by decide), P.2.2.1, ob_s, m_gi (k := 17) (by decide), P.2.1.2.2]
  by_cases h0 : pE σ = 0
  · rw [if_pos h0, ob_s]
    by_cases h2 : kD (pT σ) = 2
    · rw [if_pos (by rw [h2]; rfl)]
      exact h30 true (by rw [decide_eq_true h2, Bool.true_or])
    · rw [if_neg (fun e => by rw [n_2, nn_eq (by omega) (by omega)] at e; omega), M_sym hL P hv sy5, ob_s, decide_eq_true h0, Bool.true_and]
      by_cases h5 : kD (pT σ) = 5
      · rw [decide_eq_true h5, if_neg bz_tn]
        exact h30 true (by rw [decide_eq_true h5, Bool.or_true])
      · rw [decide_eq_false h5, if_pos bz_f]
        exact h30 false (by rw [decide_eq_false h5, decide_eq_false h2]; rfl)
  · rw [if_neg h0]
    exact h30 true (by rw [ps_chk_e h0, ps_chk_e h0])
theorem M_ptsL (hL : L ≤ 700) {isl : Int32} (K : Nat → Int32 → GH → Option GH) : ∀ (d N : Nat) (c : CS) (σ : PS) (z : Nat → Int32) (A : Nat → Nat → Int32), cN c + d = 33 → d < N → A 6 = B → PR z0 z L σ → PV B L σ → (pE σ = 0 → RQ (A 7) 0 c) → CoB c → ∃ z1 A1, ((p_X8_readPoint V g (mH V m b z A f0) m).bind fun v6 => p_X8_readPoints_l9 V g K N m isl v6) = K m isl (mH V m b z1 A1 f0) ∧ PR z0 z1 L (ps_pts B L d c σ).2 ∧ (pE (ps_pts B L d c σ).2 = 0 → RQ (A1 7) 0 (ps_pts B L d c σ).1) ∧ ∀ j, j ≠ 7 → A1 j = A j := by
  intro d
  induction d with
  | zero =>
    intro N c σ z A hc hN hA P hv hq hB
    obtain ⟨N, rfl⟩ : ∃ M, N = M + 1 := ⟨N - 1, by omega⟩
    obtain ⟨z1, A1, e1, e2, e3, e4⟩ := M_pt (V := V) (g := g) (m := m) (b := b) (f0 := f0) hL hA P hv hq (by omega)
    have hne : pE (ps_pt B L c σ).2 ≠ 0 := fun h => by have := (ptE_0 h).2.1; omega
    refine ⟨z1, A1, ?_, e2, e3, e4⟩
    have hA1 : A1 6 = B := (e4 6 (by decide)).trans hA
    rw [e1, ob_s, p_X8_readPoints_l9, M_sym hL e2 (by rw [hA1]; exact hv.ptE) sy4, ob_s, decide_eq_false hne, Bool.false_and, if_pos bz_f]
  | succ d ih =>
    intro N c σ z A hc hN hA P hv hq hB
    obtain ⟨N, rfl⟩ : ∃ M, N = M + 1 := ⟨N - 1, by omega⟩
    obtain ⟨z1, A1, e1, e2, e3, e4⟩ := M_pt (V := V) (g := g) (m := m) (b := b) (f0 := f0) hL hA P hv hq (by omega)
    have hA1 : A1 6 = B := (e4 6 (by decide)).trans hA
    have hv1 : PV (A1 6) L (ps_pt B L c σ).2 := by rw [hA1]; exact hv.ptE
    rw [e1, ob_s, p_X8_readPoints_l9, M_sym hL e2 hv1 sy4, ob_s, ps_pts]
    by_cases h : pE (ps_pt B L c σ).2 = 0 ∧ kD (pT (ps_pt B L c σ).2) = 4
    · obtain ⟨z2, g1, g2⟩ := M_advP (V := V) (g := g) (m := m) (b := b) (A := A1) (f0 := f0) hL e2 hv1
      rw [hA1] at g2
      obtain ⟨z3, A3, k1, k2, k3, k4⟩ := ih N (ps_pt B L c σ).1 (ps_adv B L (ps_pt B L c σ).2) z2 A1 (by have := hB.pt (B := B) (L := L) (σ := σ); rw [this.2.2 h.1]; omega) (by omega) hA1 g2 (PV.adv (PV.ptE (n := cN c) hv)) (fun _ => e3 h.1) hB.pt.1
      rw [if_pos h, decide_eq_true h.1, decide_eq_true h.2, show (true && true) = true from rfl, if_neg bz_tn, g1, ob_s]
      exact ⟨z3, A3, k1, k2, k3, fun j hj => (k4 j hj).trans (e4 j hj)⟩
    · have hb : (decide (pE (ps_pt B L c σ).2 = 0) && decide (kD (pT (ps_pt B L c σ).2) = 4)) = false := by
        rw [Bool.and_eq_false_iff, decide_eq_false_iff_not, decide_eq_false_iff_not]
        by_cases q : pE (ps_pt B L c σ).2 = 0
        · exact Or.inr (fun e => h ⟨q, e⟩)
        · exact Or.inl q
      rw [if_neg h, hb, if_pos bz_f]
      exact ⟨z1, A1, rfl, e2, e3, e4⟩
theorem M_body (hL : L ≤ 700) (hA : A 6 = B) (P : PR z0 z L σ) (hv : PV B L σ) {isl : Int32} (h01 : isl = 0 ∨ isl = 1) : ∃ z1 A1, p_X8_readPoints V g (mH V m b z A f0) m isl = some (mH V m b z1 A1 f0) ∧ PR z0 z1 L (ps_body B L isl σ).2 ∧ (pE (ps_body B L isl σ).2 = 0 → RQ (A1 7) 0 (ps_body B L isl σ).1) ∧ ∀ j, j ≠ 7 → A1 j = A j := by
  have hs : p_X8_startCoast V g (mH V m b z A f0) m isl = some (mH V m b z (upA A 7 (upd (upd (A 7) 0 isl) 1 0)) f0) := by
    unfold p_X8_startCoast
    rw [m_me, m_r22, ob_s, show h_si (mH V m b z A f0) (m + 1 + 7) 0 (0 : Int32) isl = some (mH V m b z (upA A 7 (upd (A 7) 0 isl)) f0) from m_si (j := 7) (k := 0) (by decide) (by decide), ob_s, m_r22, ob_s, show h_si (mH V m b z (upA A 7 (upd (A 7) 0 isl)) f0) (m + 1 + 7) 0 (1 : Int32) (0 : Int32) = some (mH V m b z (upA (upA A 7 (upd (A 7) 0 isl)) 7 (upd (upA A 7 (upd (A 7) 0 isl) 7) 1 0)) f0) from m_si (j := 7) (k := 1) (by decide) (by decide), ob_s, upA_up, upA_s]
  have hA2 : upA A 7 (upd (upd (A 7) 0 isl) 1 0) 6 = B := (upA_n A _ (by decide)).trans hA
  obtain ⟨z1, A1, e1, e2, e3, e4⟩ := M_ptsL (V := V) (g := g) (m := m) (b := b) (f0 := f0) (isl := isl) hL (fun x0 x1 f =>
    (h_gi f x0 10 18).bind fun v7 =>
    (if v7 = (0 : Int32) then
      (h_gr f x0 10 22).bind fun v10 =>
      (h_li f v10 0 (1 : Int32)).bind fun v11 =>
      (if v11 < ((2 : Int32) + x1) then
        (p_X8_check V g f x0 (0 : Int32) (1 : Int32)).bind fun v13 =>
        some v13
      else
        (p_X8_check V g f x0 (1 : Int32) (1 : Int32)).bind fun v14 =>
        some v14)
    else
      (p_X8_check V g f x0 (1 : Int32) (1 : Int32)).bind fun v9 =>
      some v9)) n33 FU (c_new isl) σ z (upA A 7 (upd (upd (A 7) 0 isl) 1 0)) (by rw [n33_eq]; rfl) (by rw [n33_eq]; unfold FU; omega) hA2 P hv (fun _ => by
      rw [upA_s]
      exact ⟨by rw [upd_n _ _ (by decide), upd_s]; rfl, upd_s _ _ _, fun k hk => absurd hk (Nat.not_lt_zero k)⟩) (CoB.new isl)
  have hfr : ∀ j, j ≠ 7 → A1 j = A j := fun j hj => (e4 j hj).trans (upA_n A _ hj)
  have hC := CoB.pts (B := B) (L := L) n33 (c_new isl) σ (CoB.new isl)
  have hun : p_X8_readPoints V g (mH V m b z A f0) m isl = (h_gi (mH V m b z1 A1 f0) m 10 18).bind fun v7 =>
    (if v7 = (0 : Int32) then
      (h_gr (mH V m b z1 A1 f0) m 10 22).bind fun v10 =>
      (h_li (mH V m b z1 A1 f0) v10 0 (1 : Int32)).bind fun v11 =>
      (if v11 < ((2 : Int32) + isl) then
        (p_X8_check V g (mH V m b z1 A1 f0) m (0 : Int32) (1 : Int32)).bind fun v13 =>
        some v13
      else
        (p_X8_check V g (mH V m b z1 A1 f0) m (1 : Int32) (1 : Int32)).bind fun v14 =>
        some v14)
    else
      (p_X8_check V g (mH V m b z1 A1 f0) m (1 : Int32) (1 : Int32)).bind fun v9 =>
      some v9) := by
    unfold p_X8_readPoints
    rw [m_me, hs, ob_s]
    exact e1
  rw [hun, body_1, body_2]
  generalize ps_pts B L n33 (c_new isl) σ = r at e2 e3 hC ⊢
  rw [m_gi (k := 18) (by decide), e2.2.2.1, ob_s]
  by_cases h0 : pE r.2 = 0
  · have q := e3 h0
    have hcn := hC.1.1
    have hne : nn (cN r.1) < (2 : Int32) + isl ↔ ¬ s_need r.1 ≤ cN r.1 := by
      have hi : cI r.1 = isl := hC.2
      unfold s_need
      rw [hi]
      rcases h01 with e | e
      · rw [e, if_pos rfl, show (2 : Int32) + 0 = nn 2 by decide, nn_lt (by omega) (by omega)]; omega
      · rw [e, if_neg (by decide), show (2 : Int32) + 1 = nn 3 by decide, nn_lt (by omega) (by omega)]; omega
    rw [if_pos h0, m_r22, ob_s, show h_li (mH V m b z1 A1 f0) (m + 1 + 7) 0 (1 : Int32) = some (nn (cN r.1)) from (m_li (j := 7) (k := 1) (by decide) (by decide)).trans (congrArg some q.2.1), ob_s]
    by_cases hn : s_need r.1 ≤ cN r.1
    · obtain ⟨z2, k1, k2⟩ := M_chk (V := V) (g := g) (m := m) (b := b) (A := A1) (f0 := f0) e2 true (c := 1) (by decide)
      have k1' : p_X8_check V g (mH V m b z1 A1 f0) m (1 : Int32) (1 : Int32) = some (mH V m b z2 A1 f0) := k1
      rw [if_neg (fun h => hne.mp h hn), decide_eq_true hn, k1', ob_s]
      exact ⟨z2, A1, rfl, k2, fun _ => q, hfr⟩
    · obtain ⟨z2, k1, k2⟩ := M_chk (V := V) (g := g) (m := m) (b := b) (A := A1) (f0 := f0) e2 false (c := 1) (by decide)
      have k1' : p_X8_check V g (mH V m b z1 A1 f0) m (0 : Int32) (1 : Int32) = some (mH V m b z2 A1 f0) := k1
      rw [if_pos (hne.mpr hn), decide_eq_false hn, k1', ob_s]
      exact ⟨z2, A1, rfl, k2, fun _ => q, hfr⟩
  · obtain ⟨z2, k1, k2⟩ := M_chk (V := V) (g := g) (m := m) (b := b) (A := A1) (f0 := f0) e2 true (c := 1) (by decide)
    have k1' : p_X8_check V g (mH V m b z1 A1 f0) m (1 : Int32) (1 : Int32) = some (mH V m b z2 A1 f0) := k1
    rw [if_neg h0, k1', ob_s]
    rw [ps_chk_t] at k2
    rw [ps_chk_e h0]
    exact ⟨z2, A1, rfl, k2, e3, hfr⟩
theorem M_coastHere (S : StOK V g) (hL : L ≤ 700) (P : PR z0 z L σ) (hv : PV (A 6) L σ) : p_X8_isCoastHere V g (mH V m b z A f0) m = some (bz (decide (pE σ = 0) && s_cw (A 6) (pT σ))) := by
  have w3 := M_isWord (V := V) (m := m) (b := b) (f0 := f0) S (i := 3) (by decide) hL P.2.1 hv
  have w4 := M_isWord (V := V) (m := m) (b := b) (f0 := f0) S (i := 4) (by decide) hL P.2.1 hv
  rw [P.2.2.1] at w3 w4
  unfold p_X8_isCoastHere s_cw
  rw [m_me, show p_X8_isWord V g (mH V m b z A f0) m (V 27) = _ from w3, ob_s, show p_X8_isWord V g (mH V m b z A f0) m (V 26) = _ from w4]
  cases decide (pE σ = 0) <;> cases s_word (A 6) (pT σ) 3 <;> cases s_word (A 6) (pT σ) 4 <;> rfl
theorem ps_chk_and {ok : Bool} {k : Int32} : ps_chk (decide (pE σ = 0) && ok) k σ = ps_chk ok k σ := by
  by_cases h : pE σ = 0
  · rw [decide_eq_true h, Bool.true_and]
  · rw [ps_chk_e h, ps_chk_e h]
theorem M_coast (S : StOK V g) (hL : L ≤ 700) (hA : A 6 = B) (P : PR z0 z L σ) (hv : PV B L σ) : ∃ z1 A1, p_X8_readCoast V g (mH V m b z A f0) m = some (mH V m b z1 A1 f0) ∧ PR z0 z1 L (ps_coast B L σ).2 ∧ (pE (ps_coast B L σ).2 = 0 → RQ (A1 7) 0 (ps_coast B L σ).1) ∧ ∀ j, j ≠ 7 → A1 j = A j := by
  have hv' : PV (A 6) L σ := by rw [hA]; exact hv
  obtain ⟨z1, e1, P1⟩ := M_chk (V := V) (g := g) (m := m) (b := b) (A := A) (f0 := f0) P (decide (pE σ = 0) && s_cw (A 6) (pT σ)) (c := 1) (by decide)
  rw [ps_chk_and, hA] at P1
  have w4 := M_isWord (V := V) (m := m) (b := b) (f0 := f0) (A := A) S (i := 4) (by decide) hL P1.2.1 (by rw [hA]; exact hv.chk _ _)
  rw [P1.2.2.1, ps_chk_T, hA] at w4
  obtain ⟨z2, e2, P2⟩ := M_advP (V := V) (g := g) (m := m) (b := b) (A := A) (f0 := f0) hL P1 (by rw [hA]; exact hv.chk _ _)
  rw [hA] at P2
  obtain ⟨z3, A3, e3, e4, e5, e6⟩ := M_body (V := V) (g := g) (m := m) (b := b) (f0 := f0) hL hA P2 (PV.adv (hv.chk _ _)) (isl := ps_cisl B σ) (bz_i01 _)
  rw [coast_eq]
  refine ⟨z3, A3, ?_, e4, e5, e6⟩
  unfold p_X8_readCoast
  rw [m_me, M_coastHere S hL P hv', ob_s, e1, ob_s, show p_X8_isWord V g (mH V m b z1 A f0) m (V 26) = _ from w4, ob_s]
  by_cases hb : (decide (pE (ps_chk (s_cw B (pT σ)) 1 σ) = 0) && s_word B (pT σ) 4) = true
  · have hi : ps_cisl B σ = 1 := by unfold ps_cisl; rw [hb]; rfl
    rw [hi] at e3
    rw [hb, if_neg bz_tn, e2, ob_s, e3, ob_s]
  · rw [Bool.not_eq_true] at hb
    have hi : ps_cisl B σ = 0 := by unfold ps_cisl; rw [hb]; rfl
    rw [hi] at e3
    rw [hb, if_pos bz_f, e2, ob_s, e3, ob_s]
end MP

/-! ===== a coastline is read ===== -/
def s_app (c : CS) (x y : Int32) : CS := s_ins c (cN c) x y
def ps_pt3 (B : Nat → Int32) (n : Nat) (σ : PS) : PS := ps_chk (decide (n < 33)) 3 (ps_chk (!decide (kD (pT σ) = 2) || decide (s_val B (pT σ) ≤ 1000)) 2 (ps_chk (decide (kD (pT σ) = 2) || decide (kD (pT σ) = 5)) 1 σ))
def ps_ptE (B : Nat → Int32) (L : Nat) (n : Nat) (σ : PS) : PS := (ps_sgn B L 1000 (ps_sgn B L 1000 (ps_pt3 B n σ)).2).2
def ps_pt (B : Nat → Int32) (L : Nat) (c : CS) (σ : PS) : CS × PS := (if pE (ps_ptE B L (cN c) σ) = 0 then s_app c (ps_sgn B L 1000 (ps_pt3 B (cN c) σ)).1 (ps_sgn B L 1000 (ps_sgn B L 1000 (ps_pt3 B (cN c) σ)).2).1 else c, ps_ptE B L (cN c) σ)
def ps_pts (B : Nat → Int32) (L : Nat) : Nat → CS → PS → CS × PS
  | 0, c, σ => ps_pt B L c σ
  | d + 1, c, σ => if pE (ps_pt B L c σ).2 = 0 ∧ kD (pT (ps_pt B L c σ).2) = 4 then ps_pts B L d (ps_pt B L c σ).1 (ps_adv B L (ps_pt B L c σ).2) else ps_pt B L c σ
/-- 33, not to be unfolded -/
noncomputable def n33 : Nat := Classical.choose (⟨33, rfl⟩ : ∃ n : Nat, n = 33)
theorem n33_eq : n33 = 33 := Classical.choose_spec (⟨33, rfl⟩ : ∃ n : Nat, n = 33)
def c_new (isl : Int32) : CS := (isl, 0, fun _ => 0, fun _ => 0)
noncomputable def ps_body (B : Nat → Int32) (L : Nat) (isl : Int32) (σ : PS) : CS × PS := ((ps_pts B L n33 (c_new isl) σ).1, ps_chk (decide (s_need (ps_pts B L n33 (c_new isl) σ).1 ≤ cN (ps_pts B L n33 (c_new isl) σ).1)) 1 (ps_pts B L n33 (c_new isl) σ).2)
def s_cw (B : Nat → Int32) (t : TK) : Bool := s_word B t 3 || s_word B t 4
def ps_cisl (B : Nat → Int32) (σ : PS) : Int32 := bz (decide (pE (ps_chk (s_cw B (pT σ)) 1 σ) = 0) && s_word B (pT σ) 4)
noncomputable def ps_coast (B : Nat → Int32) (L : Nat) (σ : PS) : CS × PS := ps_body B L (ps_cisl B σ) (ps_adv B L (ps_chk (s_cw B (pT σ)) 1 σ))
section SP
variable {B : Nat → Int32} {L hi n : Nat} {σ : PS} {c : CS}
theorem PV.pt3 (h : PV B L σ) : PV B L (ps_pt3 B n σ) := ((h.chk _ _).chk _ _).chk _ _
theorem PV.ptE (h : PV B L σ) : PV B L (ps_ptE B L n σ) := h.pt3.sgn.sgn
theorem ps_pt3_e (h : pE σ ≠ 0) : ps_pt3 B n σ = σ := by
  unfold ps_pt3
  rw [ps_chk_e h, ps_chk_e h, ps_chk_e h]
theorem ps_ptE_e (h : pE σ ≠ 0) : ps_ptE B L n σ = σ := by
  unfold ps_ptE
  rw [ps_pt3_e h, ps_sgn_e h, ps_sgn_e h]
theorem ps_pt_e (h : pE σ ≠ 0) : ps_pt B L c σ = (c, σ) := by
  unfold ps_pt
  rw [ps_ptE_e h, if_neg h]
theorem ps_pts_e (h : pE σ ≠ 0) : ∀ d, ps_pts B L d c σ = (c, σ) := by
  intro d
  cases d with
  | zero => exact ps_pt_e h
  | succ d =>
    rw [ps_pts, ps_pt_e h]
    exact if_neg (fun q => h q.1)
/-- an error stays -/
theorem chk_0 {ok : Bool} {k : Int32} (hk : k ≠ 0) (h : pE (ps_chk ok k σ) = 0) : pE σ = 0 ∧ ok = true ∧ ps_chk ok k σ = σ := by
  by_cases q : pE σ = 0
  · cases ok with
    | true => exact ⟨q, rfl, ps_chk_t⟩
    | false => rw [ps_chk_f q] at h; exact absurd h hk
  · rw [ps_chk_e q] at h; exact absurd h q
theorem adv_0 (h : pE (ps_adv B L σ) = 0) : pE σ = 0 := by
  by_cases q : pE σ = 0
  · exact q
  · rw [ps_adv_e q] at h; exact h
theorem num_0 (h : pE (ps_num B L hi σ).2 = 0) : pE σ = 0 ∧ kD (pT σ) = 2 ∧ s_val B (pT σ) ≤ hi ∧ ps_num B L hi σ = (s_val B (pT σ), ps_adv B L σ) := by
  have h1 := adv_0 h
  obtain ⟨a1, a2, a3⟩ := chk_0 (by decide) h1
  obtain ⟨b1, b2, b3⟩ := chk_0 (by decide) a1
  refine ⟨b1, of_decide_eq_true b2, of_decide_eq_true a2, ?_⟩
  unfold ps_num
  rw [a3, b3, if_pos b1]
theorem sgn_0 (h : pE (ps_sgn B L hi σ).2 = 0) : pE σ = 0 := by
  unfold ps_sgn at h
  split at h
  · rename_i q; exact q.1
  · exact (num_0 h).1
theorem sgn_bd (hh : hi ≤ 2000) (h : pE (ps_sgn B L hi σ).2 = 0) : -(hi : Int) ≤ (ps_sgn B L hi σ).1.toInt ∧ (ps_sgn B L hi σ).1.toInt ≤ hi := by
  unfold ps_sgn at h ⊢
  split
  · rename_i q
    rw [if_pos q] at h
    obtain ⟨a1, a2, a3, a4⟩ := num_0 h
    show -(hi : Int) ≤ (-(nn (ps_num B L hi (ps_adv B L σ)).1)).toInt ∧ _ ≤ _
    rw [a4, i_neg (by rw [nn_i (by omega)]; omega), nn_i (by omega)]
    omega
  · rename_i q
    rw [if_neg q] at h
    obtain ⟨a1, a2, a3, a4⟩ := num_0 h
    show -(hi : Int) ≤ (nn (ps_num B L hi σ).1).toInt ∧ (nn (ps_num B L hi σ).1).toInt ≤ hi
    rw [a4, nn_i (by omega)]
    omega
theorem pt3_0 (h : pE (ps_pt3 B n σ) = 0) : pE σ = 0 ∧ n < 33 ∧ ps_pt3 B n σ = σ := by
  obtain ⟨a1, a2, a3⟩ := chk_0 (by decide) h
  obtain ⟨b1, b2, b3⟩ := chk_0 (by decide) a1
  obtain ⟨d1, d2, d3⟩ := chk_0 (by decide) b1
  exact ⟨d1, of_decide_eq_true a2, a3.trans (b3.trans d3)⟩
theorem ptE_0 (h : pE (ps_ptE B L n σ) = 0) : pE σ = 0 ∧ n < 33 ∧ ps_pt3 B n σ = σ ∧ pE (ps_sgn B L 1000 σ).2 = 0 := by
  have h1 := sgn_0 h
  obtain ⟨a1, a2, a3⟩ := pt3_0 (sgn_0 h1)
  rw [a3] at h1
  exact ⟨a1, a2, a3, h1⟩
/-- the class looks at the number alone: the same end -/
theorem pt3_sgn (h0 : pE σ = 0) (hn : n < 33) : (ps_sgn B L 1000 (ps_pt3 B n σ)).2 = (ps_sgn B L 1000 σ).2 ∧ (pE (ps_sgn B L 1000 σ).2 = 0 → ps_pt3 B n σ = σ) := by
  unfold ps_pt3
  rw [decide_eq_true hn, ps_chk_t]
  by_cases h5 : kD (pT σ) = 5
  · rw [decide_eq_true h5, Bool.or_true, ps_chk_t, decide_eq_false (show ¬ kD (pT σ) = 2 by omega)]
    show (ps_sgn B L 1000 (ps_chk true 2 σ)).2 = _ ∧ _
    rw [ps_chk_t]
    exact ⟨rfl, fun _ => rfl⟩
  · have hs : ps_sgn B L 1000 σ = (nn (ps_num B L 1000 σ).1, (ps_num B L 1000 σ).2) := if_neg (fun q => h5 q.2)
    by_cases h2 : kD (pT σ) = 2
    · rw [decide_eq_true h2, Bool.true_or, ps_chk_t]
      by_cases hv : s_val B (pT σ) ≤ 1000
      · rw [decide_eq_true hv, Bool.or_true, ps_chk_t]
        exact ⟨rfl, fun _ => rfl⟩
      · have hx : (ps_num B L 1000 σ).2 = ps_chk false 2 σ := by
          unfold ps_num
          rw [decide_eq_true h2, ps_chk_t, decide_eq_false hv, ps_adv_e]
          rw [ps_chk_f h0]; show (2 : Int32) ≠ 0; decide
        have hne : pE (ps_chk false 2 σ) ≠ 0 := by rw [ps_chk_f h0]; show (2 : Int32) ≠ 0; decide
        rw [decide_eq_false hv]
        show (ps_sgn B L 1000 (ps_chk false 2 σ)).2 = _ ∧ _
        rw [ps_sgn_e hne, hs, hx]
        exact ⟨rfl, fun h => absurd h hne⟩
    · have hne : pE (ps_chk false 1 σ) ≠ 0 := by rw [ps_chk_f h0]; show (1 : Int32) ≠ 0; decide
      have hx : (ps_num B L 1000 σ).2 = ps_chk false 1 σ := by
        unfold ps_num
        rw [decide_eq_false h2, ps_chk_e hne, ps_adv_e hne]
      rw [decide_eq_false h2, decide_eq_false h5]
      show (ps_sgn B L 1000 (ps_chk true 2 (ps_chk false 1 σ))).2 = _ ∧ _
      rw [ps_chk_t, ps_sgn_e hne, hs, hx]
      exact ⟨rfl, fun h => absurd h hne⟩
/-- a coastline as far as it is told -/
def CoB (c : CS) : Prop := cN c ≤ 33 ∧ ∀ i, i < cN c → bd (cX c i) ∧ bd (cY c i)
theorem CoB.app (h : CoB c) (hn : cN c < 33) {x y : Int32} (hx : bd x) (hy : bd y) : CoB (s_app c x y) := by
  refine ⟨by show cN c + 1 ≤ 33; omega, fun i hi => ?_⟩
  show bd (if i < cN c then cX c i else if i = cN c then x else cX c (i - 1)) ∧ bd (if i < cN c then cY c i else if i = cN c then y else cY c (i - 1))
  have hi : i < cN c + 1 := hi
  by_cases e : i < cN c
  · rw [if_pos e, if_pos e]; exact h.2 i e
  · rw [if_neg e, if_neg e, if_pos (by omega), if_pos (by omega)]; exact ⟨hx, hy⟩
theorem CoB.pt (h : CoB c) : CoB (ps_pt B L c σ).1 ∧ cI (ps_pt B L c σ).1 = cI c ∧ (pE (ps_pt B L c σ).2 = 0 → cN (ps_pt B L c σ).1 = cN c + 1) := by
  unfold ps_pt
  by_cases h0 : pE (ps_ptE B L (cN c) σ) = 0
  · rw [if_pos h0]
    obtain ⟨a1, a2, a3, a4⟩ := ptE_0 h0
    refine ⟨h.app a2 ?_ ?_, rfl, fun _ => rfl⟩
    · rw [a3]; exact sgn_bd (by decide) a4
    · exact sgn_bd (by decide) h0
  · rw [if_neg h0]
    exact ⟨h, rfl, fun q => absurd q h0⟩
theorem CoB.pts : ∀ (d : Nat) (c : CS) (σ : PS), CoB c → CoB (ps_pts B L d c σ).1 ∧ cI (ps_pts B L d c σ).1 = cI c := by
  intro d
  induction d with
  | zero => intro c σ h; exact ⟨h.pt.1, h.pt.2.1⟩
  | succ d ih =>
    intro c σ h
    rw [ps_pts]
    split
    · have := ih (ps_pt B L c σ).1 (ps_adv B L (ps_pt B L c σ).2) h.pt.1
      exact ⟨this.1, this.2.trans h.pt.2.1⟩
    · exact ⟨h.pt.1, h.pt.2.1⟩
theorem CoB.new (isl : Int32) : CoB (c_new isl) := ⟨Nat.zero_le _, fun i hi => absurd hi (Nat.not_lt_zero i)⟩
theorem body_1 (isl : Int32) : (ps_body B L isl σ).1 = (ps_pts B L n33 (c_new isl) σ).1 := by
  unfold ps_body
  dsimp only
theorem body_2 (isl : Int32) : (ps_body B L isl σ).2 = ps_chk (decide (s_need (ps_pts B L n33 (c_new isl) σ).1 ≤ cN (ps_pts B L n33 (c_new isl) σ).1)) 1 (ps_pts B L n33 (c_new isl) σ).2 := by
  unfold ps_body
  dsimp only
theorem coast_eq : ps_coast B L σ = ps_body B L (ps_cisl B σ) (ps_adv B L (ps_chk (s_cw B (pT σ)) 1 σ)) := by
  unfold ps_coast
  rfl
theorem CoB.body (isl : Int32) : CoB (ps_body B L isl σ).1 ∧ cI (ps_body B L isl σ).1 = isl := by
  have h := CoB.pts (B := B) (L := L) n33 (c_new isl) σ (CoB.new isl)
  rw [body_1]
  generalize ps_pts B L n33 (c_new isl) σ = r at h ⊢
  exact h
theorem body_0 (isl : Int32) (h : pE (ps_body B L isl σ).2 = 0) : s_need (ps_body B L isl σ).1 ≤ cN (ps_body B L isl σ).1 ∧ pE (ps_pts B L n33 (c_new isl) σ).2 = 0 := by
  rw [body_2] at h
  rw [body_1]
  generalize ps_pts B L n33 (c_new isl) σ = r at h ⊢
  obtain ⟨a1, a2, a3⟩ := chk_0 (by decide) h
  exact ⟨of_decide_eq_true a2, a1⟩
theorem bz_i01 (b : Bool) : bz b = 0 ∨ bz b = 1 := by cases b <;> decide
/-- a coastline that was read without an error is one -/
theorem CoV.coast (h : pE (ps_coast B L σ).2 = 0) : CoV (ps_coast B L σ).1 ∧ cN (ps_coast B L σ).1 ≤ 33 := by
  rw [coast_eq] at h ⊢
  obtain ⟨hn, -⟩ := body_0 _ h
  obtain ⟨b1, b2⟩ := CoB.body (B := B) (L := L) (σ := ps_adv B L (ps_chk (s_cw B (pT σ)) 1 σ)) (ps_cisl B σ)
  generalize ps_body B L (ps_cisl B σ) (ps_adv B L (ps_chk (s_cw B (pT σ)) 1 σ)) = r at hn b1 b2 ⊢
  have h01 : cI r.1 = 0 ∨ cI r.1 = 1 := by
    rw [b2]
    exact bz_i01 _
  refine ⟨⟨?_, ?_, b1.2⟩, b1.1⟩
  · unfold s_need at hn
    rcases h01 with e | e
    · rw [if_pos e] at hn; exact Or.inl ⟨e, hn⟩
    · rw [if_neg (by rw [e]; decide)] at hn; exact Or.inr ⟨e, hn⟩
  · exact Nat.le_trans b1.1 (by decide)
theorem PV.pts : ∀ (d : Nat) (c : CS) (σ : PS), PV B L σ → PV B L (ps_pts B L d c σ).2 := by
  intro d
  induction d with
  | zero => intro c σ h; rw [ps_pts]; exact PV.ptE (n := cN c) h
  | succ d ih =>
    intro c σ h
    have h1 : PV B L (ps_pt B L c σ).2 := PV.ptE (n := cN c) h
    rw [ps_pts]
    split
    · exact ih _ _ h1.adv
    · exact h1
theorem PV.body {isl : Int32} (h : PV B L σ) : PV B L (ps_body B L isl σ).2 := by
  have h1 := PV.pts n33 (c_new isl) σ h
  rw [body_2]
  generalize ps_pts B L n33 (c_new isl) σ = r at h1 ⊢
  exact h1.chk _ _
theorem PV.coast (h : PV B L σ) : PV B L (ps_coast B L σ).2 := by
  rw [coast_eq]
  exact PV.body (PV.adv (h.chk _ _))
theorem pts_0 : ∀ (d : Nat) (c : CS) (σ : PS), pE (ps_pts B L d c σ).2 = 0 → pE σ = 0 := by
  intro d
  induction d with
  | zero => intro c σ h; rw [ps_pts] at h; exact (ptE_0 (n := cN c) h).1
  | succ d ih =>
    intro c σ h
    rw [ps_pts] at h
    by_cases q : pE (ps_pt B L c σ).2 = 0 ∧ kD (pT (ps_pt B L c σ).2) = 4
    · exact (ptE_0 (n := cN c) q.1).1
    · rw [if_neg q] at h
      exact (ptE_0 (n := cN c) h).1
theorem coast_0 (h : pE (ps_coast B L σ).2 = 0) : pE σ = 0 ∧ s_cw B (pT σ) = true := by
  rw [coast_eq] at h
  have h1 := adv_0 (pts_0 n33 _ _ (body_0 _ h).2)
  obtain ⟨a1, a2, a3⟩ := chk_0 (by decide) h1
  exact ⟨a1, a2⟩
theorem ps_body_e {isl : Int32} (h : pE σ ≠ 0) : (ps_body B L isl σ).2 = σ := by
  rw [body_2, ps_pts_e h]
  exact ps_chk_e h
theorem ps_coast_e (h : pE σ ≠ 0) : (ps_coast B L σ).2 = σ := by
  rw [coast_eq, ps_chk_e h, ps_adv_e h, ps_body_e h]
theorem ps_coast_n (h0 : pE σ = 0) (h : s_cw B (pT σ) = false) : (ps_coast B L σ).2 = ps_chk false 1 σ := by
  have hne : pE (ps_chk false 1 σ) ≠ 0 := by rw [ps_chk_f h0]; show (1 : Int32) ≠ 0; decide
  rw [coast_eq, h, ps_adv_e hne, ps_body_e hne]
end SP
/-! the reference's -/
section MP
variable {V : Nat → Nat} {g f0 : GH} {m b L n : Nat} {z z0 : Nat → Int32} {A : Nat → Nat → Int32} {B : Nat → Int32} {σ : PS} {c : CS}
theorem ps_chk_and {ok : Bool} {k : Int32} : ps_chk (decide (pE σ = 0) && ok) k σ = ps_chk ok k σ := by
  by_cases h : pE σ = 0
  · rw [decide_eq_true h, Bool.true_and]
  · rw [ps_chk_e h, ps_chk_e h]
end MP


/-! ===== a text read: coastlines, a map ===== -/
def rs_t : List PN → List Nat → List Nat
  | [], r => r
  | q :: P, r => 44 :: pn_t q (rs_t P r)
/-- the end of a coastline's text -/
def ed (r : List Nat) : Prop := r = [] ∨ ∃ r1, r = 59 :: r1
theorem ed.ng {r : List Nat} (h : ed r) : ng r := by
  rcases h with rfl | ⟨r1, rfl⟩
  · show ¬ (48 ≤ 0 ∧ 0 ≤ 57); omega
  · show ¬ (48 ≤ 59 ∧ 59 ≤ 57); omega
theorem ed.nb {r : List Nat} (h : ed r) : nb r := by
  rcases h with rfl | ⟨r1, rfl⟩
  · exact ⟨by show 0 ≠ 32; omega, by show 0 ≠ 10; omega⟩
  · exact ⟨by show 59 ≠ 32; omega, by show 59 ≠ 10; omega⟩
theorem s_cmp_t {B : Nat → Int32} {st : Nat} {w : List Int32} : ∀ (d j : Nat), (∀ k, j ≤ k → k < j + d → B (st + k) = w.getD k 0) → s_cmp B st w d j = true := by
  intro d
  induction d with
  | zero => intro j _; rfl
  | succ d ih =>
    intro j h
    rw [s_cmp, decide_eq_true (h j (by omega) (by omega)), ih (j + 1) (fun k h1 h2 => h k (by omega) (by omega))]
    rfl
section PU
variable {B : Nat → Int32} {L i : Nat} {σ : PS}
theorem QT.end_ (h : QT B L i σ []) : kD (pT σ) = 0 := by rw [h.2.1, tk_end h.2.2]; rfl
theorem QT.semi {r : List Nat} (h : QT B L i σ (59 :: r)) : kD (pT σ) = 3 := by rw [h.2.1, tk_sign h.2.2 (by omega)]; rfl
theorem QT.pts : ∀ (P : List PN) (d i : Nat) (q : PN) (σ : PS) (c : CS) (r : List Nat), (∀ p ∈ q :: P, pn_b p) → QT B L i σ (pn_t q (rs_t P r)) → ed r → P.length ≤ d → cN c + P.length < 33 → ∃ j, QT B L j (ps_pts B L d c σ).2 r ∧ cN (ps_pts B L d c σ).1 = cN c + 1 + P.length ∧ cI (ps_pts B L d c σ).1 = cI c := by
  intro P
  induction P with
  | nil =>
    intro d i q σ c r hq h he hd hc
    obtain ⟨j, a1, a2⟩ := QT.pt (hq q (List.mem_cons_self ..)) (r2 := r) h he.ng ⟨Or.inl rfl, he.nb⟩ (c := c) (by omega)
    have hk : kD (pT (ps_pt B L c σ).2) ≠ 4 := by
      rcases he with rfl | ⟨r1, rfl⟩
      · rw [a2.end_]; decide
      · rw [a2.semi]; decide
    have e : ps_pts B L d c σ = ps_pt B L c σ := by
      cases d with
      | zero => rfl
      | succ d => exact if_neg (fun z => hk z.2)
    rw [e, a1]
    exact ⟨j, a2, rfl, rfl⟩
  | cons q2 P ih =>
    intro d i q σ c r hq h he hd hc
    obtain ⟨d, rfl⟩ : ∃ e, d = e + 1 := ⟨d - 1, by rw [List.length_cons] at hd; omega⟩
    rw [List.length_cons] at hd hc
    have hb2 := hq q2 (List.mem_cons_of_mem _ (List.mem_cons_self ..))
    obtain ⟨j, a1, a2⟩ := QT.pt (hq q (List.mem_cons_self ..)) (r2 := 44 :: pn_t q2 (rs_t P r)) h (by show ¬ (48 ≤ 44 ∧ 44 ≤ 57); omega) ⟨Or.inl rfl, by show 44 ≠ 32; omega, by show 44 ≠ 10; omega⟩ (c := c) (by omega)
    have ht := tk_sign a2.2.2 (by omega)
    have hk : kD (pT (ps_pt B L c σ).2) = 4 := by rw [a2.2.1, ht]; rfl
    obtain ⟨j2, b2⟩ := QT.adv (w := [44]) a2 ht ⟨Or.inl rfl, nb_pn hb2 _⟩
    obtain ⟨j3, c1, c2, c3⟩ := ih d j2 q2 _ (ps_pt B L c σ).1 r (fun p hp => hq p (List.mem_cons_of_mem _ hp)) b2 he (by omega) (by rw [a1]; show cN c + 1 + P.length < 33; omega)
    have e : ps_pts B L (d + 1) c σ = ps_pts B L d (ps_pt B L c σ).1 (ps_adv B L (ps_pt B L c σ).2) := if_pos ⟨a2.1, hk⟩
    rw [e]
    refine ⟨j3, c1, ?_, ?_⟩
    · rw [c2, a1, List.length_cons]
      show cN c + 1 + 1 + P.length = _
      omega
    · rw [c3, a1]; rfl
theorem word_t {k : Nat} {w r : List Nat} (hw : wL k = w.map nn) (h : At B L i (w ++ r)) : s_word B (1, i, i + w.length) k = true := by
  have hl : (wL k).length = w.length := by rw [hw, List.length_map]
  unfold s_word
  rw [decide_eq_true (show kD (1, i, i + w.length) = 1 from rfl), decide_eq_true (show kN (1, i, i + w.length) - kS (1, i, i + w.length) = (wL k).length by rw [hl]; show i + w.length - i = _; omega), hl]
  refine (Bool.true_and _).trans ((Bool.true_and _).trans (s_cmp_t _ _ fun j h1 h2 => ?_))
  rw [hw]
  have := (h.pre j (by omega)).1
  rw [List.getD_eq_getElem?_getD, List.getElem?_map, List.getElem?_eq_getElem (show j < w.length by omega)]
  rw [List.getD_eq_getElem?_getD, List.getElem?_eq_getElem (show j < w.length by omega)] at this
  exact this
/-- island, shore -/
def cwt (isl : Bool) : List Nat := if isl then [105, 115, 108, 97, 110, 100] else [115, 104, 111, 114, 101]
def co_t (isl : Bool) (q : PN) (P : List PN) (r : List Nat) : List Nat := cwt isl ++ 32 :: pn_t q (rs_t P r)
theorem co_tok {isl : Bool} {q : PN} {P : List PN} {r : List Nat} (h : QT B L i σ (co_t isl q P r)) : s_advB B L i = (1, i, i + (cwt isl).length) := by
  refine tk_word (w := cwt isl) (r := 32 :: pn_t q (rs_t P r)) h.2.2 ?_ ?_ (by show ¬ (97 ≤ 32 ∧ 32 ≤ 122); omega)
  · cases isl <;> decide
  · cases isl <;> decide
theorem nb_co {isl : Bool} {q : PN} {P : List PN} {r : List Nat} : nb (co_t isl q P r) := by
  cases isl
  · exact ⟨by show 115 ≠ 32; omega, by show 115 ≠ 10; omega⟩
  · exact ⟨by show 105 ≠ 32; omega, by show 105 ≠ 10; omega⟩
theorem QT.coast {isl : Bool} {q : PN} {P : List PN} {r : List Nat} (hq : ∀ p ∈ q :: P, pn_b p) (h : QT B L i σ (co_t isl q P r)) (he : ed r) (h2 : 2 ≤ P.length) (h8 : P.length ≤ 30) : ∃ j, QT B L j (ps_coast B L σ).2 r ∧ cN (ps_coast B L σ).1 = P.length + 1 ∧ cI (ps_coast B L σ).1 = bz isl := by
  have ht := co_tok h
  have hcw : s_cw B (pT σ) = true ∧ s_word B (pT σ) 4 = isl := by
    rw [h.2.1, ht]
    unfold s_cw
    cases isl with
    | true =>
      have := word_t (k := 4) (w := cwt true) (by decide) h.2.2
      rw [this]
      exact ⟨Bool.or_true _, rfl⟩
    | false =>
      have h3 := word_t (k := 3) (w := cwt false) (by decide) h.2.2
      refine ⟨by rw [h3]; exact Bool.true_or _, ?_⟩
      cases hx : s_word B (1, i, i + (cwt false).length) 4 with
      | false => rfl
      | true => exact absurd (s_word_ne (by decide) (by decide) h3 hx) (by decide)
  have hisl : ps_cisl B σ = bz isl := by
    unfold ps_cisl
    rw [hcw.1, ps_chk_t, hcw.2, decide_eq_true h.1, Bool.true_and]
  obtain ⟨j, a⟩ := QT.adv (w := cwt isl) h ht ⟨Or.inr rfl, nb_pn (hq q (List.mem_cons_self ..)) _⟩
  obtain ⟨j2, b1, b2, b3⟩ := QT.pts P n33 j q (ps_adv B L σ) (c_new (bz isl)) r hq a he (by rw [n33_eq]; omega) (by show 0 + P.length < 33; omega)
  have e : ps_coast B L σ = ps_pts B L n33 (c_new (bz isl)) (ps_adv B L σ) := by
    unfold ps_coast ps_body
    rw [hcw.1, ps_chk_t, hisl, decide_eq_true, ps_chk_t]
    rw [b2]
    show s_need _ ≤ 0 + 1 + P.length
    unfold s_need
    split <;> omega
  rw [e]
  refine ⟨j2, b1, ?_, b3⟩
  rw [b2]
  show 0 + 1 + P.length = _
  omega
/-- a coastline's text alone -/
theorem lone_ok {isl : Bool} {q : PN} {P : List PN} (hq : ∀ p ∈ q :: P, pn_b p) (h : At B L 0 (co_t isl q P [])) (h2 : 2 ≤ P.length) (h8 : P.length ≤ 30) : pE (ps_lone B L) = 0 ∧ cN (c_lone B L) = P.length + 1 ∧ cI (c_lone B L) = bz isl := by
  obtain ⟨j, a⟩ := QT.z h nb_co
  obtain ⟨j2, b1, b2, b3⟩ := a.coast hq (Or.inl rfl) h2 h8
  refine ⟨?_, b2, b3⟩
  unfold ps_lone
  rw [decide_eq_true b1.end_, ps_chk_t]
  exact b1.1
/-! a map's text -/
abbrev CT : Type := Bool × PN × List PN
def ct_b (c : CT) : Prop := (∀ p ∈ c.2.1 :: c.2.2, pn_b p) ∧ 2 ≤ c.2.2.length ∧ c.2.2.length ≤ 30
def ma_t : List CT → List Nat
  | [] => []
  | c :: C => co_t c.1 c.2.1 c.2.2 (59 :: ma_t C)
theorem nb_ma : ∀ C, nb (ma_t C) := by
  intro C
  cases C with
  | nil => exact ⟨by show 0 ≠ 32; omega, by show 0 ≠ 10; omega⟩
  | cons c C => exact nb_co
theorem QT.map : ∀ (C : List CT) (d i : Nat) (T : MS) (σ : PS), (∀ c ∈ C, ct_b c) → QT B L i σ (ma_t C) → C.length ≤ d → pE (ps_map B L d T σ).2 = 0 ∧ (ps_map B L d T σ).1.1 = T.1 + C.length := by
  intro C
  induction C with
  | nil =>
    intro d i T σ _ h _
    have hk := QT.end_ h
    have e : ps_map B L d T σ = (T, σ) := by
      cases d with
      | zero => exact if_neg (fun z => z.2 hk)
      | succ d => exact if_neg (fun z => z.2 hk)
    rw [e]
    exact ⟨h.1, rfl⟩
  | cons c C ih =>
    intro d i T σ hc h hd
    obtain ⟨d, rfl⟩ : ∃ e, d = e + 1 := ⟨d - 1, by rw [List.length_cons] at hd; omega⟩
    rw [List.length_cons] at hd
    have hcc := hc c (List.mem_cons_self ..)
    have ht := co_tok h
    have hk : kD (pT σ) ≠ 0 := by rw [h.2.1, ht]; show 1 ≠ 0; decide
    obtain ⟨j2, b1, b2, b3⟩ := QT.coast hcc.1 h (Or.inr ⟨_, rfl⟩) hcc.2.1 hcc.2.2
    have ht2 := tk_sign b1.2.2 (by omega)
    obtain ⟨j3, c1⟩ := QT.adv (w := [59]) b1 ht2 ⟨Or.inl rfl, nb_ma C⟩
    have ece : ps_ce B L σ = ps_adv B L (ps_coast B L σ).2 := by
      unfold ps_ce ps_exp
      rw [decide_eq_true b1.semi, ps_chk_t]
    rw [← ece] at c1
    have e : ps_map B L (d + 1) T σ = ps_map B L d (ms_add T (ps_coast B L σ).1) (ps_ce B L σ) := by
      rw [ps_map, if_pos ⟨h.1, hk⟩, if_pos c1.1]
    obtain ⟨d1, d2⟩ := ih d j3 (ms_add T (ps_coast B L σ).1) _ (fun p hp => hc p (List.mem_cons_of_mem _ hp)) c1 (by omega)
    rw [e, d2, List.length_cons]
    refine ⟨d1, ?_⟩
    show T.1 + 1 + C.length = _
    omega
def mwt (kg : Bool) : List Nat := if kg then [107, 105, 110, 103] else [116, 97, 120, 105, 99, 97, 98]
theorem whole_ok {kg : Bool} {C : List CT} (hc : ∀ c ∈ C, ct_b c) (hC : C.length ≤ 6) (h : At B L 0 ([109, 97, 112] ++ 32 :: (mwt kg ++ 59 :: ma_t C))) : pE (ps_whole B L).2 = 0 ∧ (ps_whole B L).1.1 = C.length := by
  obtain ⟨j, a⟩ := QT.z h ⟨by show 109 ≠ 32; omega, by show 109 ≠ 10; omega⟩
  have t1 := tk_word (w := [109, 97, 112]) a.2.2 (by decide) (by decide) (by show ¬ (97 ≤ 32 ∧ 32 ≤ 122); omega)
  have hnb : nb (mwt kg ++ 59 :: ma_t C) := by
    cases kg
    · exact ⟨by show 116 ≠ 32; omega, by show 116 ≠ 10; omega⟩
    · exact ⟨by show 107 ≠ 32; omega, by show 107 ≠ 10; omega⟩
  have w1 : s_word B (pT (ps_0 B L)) 0 = true := by
    rw [a.2.1, t1]
    exact word_t (k := 0) (w := [109, 97, 112]) (by decide) a.2.2
  obtain ⟨j2, b⟩ := QT.adv (w := [109, 97, 112]) a t1 ⟨Or.inr rfl, hnb⟩
  have e1 : ps_wd B L 0 (ps_0 B L) = ps_adv B L (ps_0 B L) := by
    unfold ps_wd
    rw [w1, ps_chk_t]
  rw [← e1] at b
  have t2 := tk_word (w := mwt kg) b.2.2 (by cases kg <;> decide) (by cases kg <;> decide) (by show ¬ (97 ≤ 59 ∧ 59 ≤ 122); omega)
  have w2 : s_mw B (pT (ps_wd B L 0 (ps_0 B L))) = true := by
    rw [b.2.1, t2]
    unfold s_mw
    cases kg with
    | true => rw [word_t (k := 1) (w := mwt true) (by decide) b.2.2]; exact Bool.true_or _
    | false => rw [word_t (k := 2) (w := mwt false) (by decide) b.2.2]; exact Bool.or_true _
  obtain ⟨j3, c⟩ := QT.adv (w := mwt kg) b t2 ⟨Or.inl rfl, by show 59 ≠ 32; omega, by show 59 ≠ 10; omega⟩
  have e2 : ps_met B L (ps_wd B L 0 (ps_0 B L)) = ps_adv B L (ps_wd B L 0 (ps_0 B L)) := by
    unfold ps_met
    rw [w2, ps_chk_t]
  rw [← e2] at c
  have t3 := tk_sign c.2.2 (by omega)
  obtain ⟨j4, d⟩ := QT.adv (w := [59]) c t3 ⟨Or.inl rfl, nb_ma C⟩
  have e3 : ps_m3 B L = ps_adv B L (ps_met B L (ps_wd B L 0 (ps_0 B L))) := by
    unfold ps_m3 ps_exp
    rw [decide_eq_true c.semi, ps_chk_t]
  rw [← e3] at d
  obtain ⟨r1, r2⟩ := QT.map C n6 j4 mp_0 _ hc d (by rw [n6_eq]; exact hC)
  refine ⟨r1, r2.trans ?_⟩
  show 0 + C.length = _
  omega
end PU

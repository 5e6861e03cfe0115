/-! ===== a text read: its tokens ===== -/
def At (B : Nat → Int32) (L i : Nat) (r : List Nat) : Prop := i + r.length = L ∧ (∀ j, j < r.length → B (i + j) = nn (r.getD j 0)) ∧ ∀ j, r.getD j 0 < 128
section PT
variable {B : Nat → Int32} {L i : Nat}
theorem At.app {w r : List Nat} (h : At B L i (w ++ r)) : At B L (i + w.length) r := by
  obtain ⟨h1, h2, h3⟩ := h
  rw [List.length_append] at h1 h2
  have e : ∀ j, (w ++ r).getD (w.length + j) 0 = r.getD j 0 := fun j => by
    rw [gd_app2, if_neg (by omega), show w.length + j - w.length = j by omega]
  refine ⟨by omega, fun j hj => ?_, fun j => ?_⟩
  · rw [show i + w.length + j = i + (w.length + j) by omega, h2 _ (by omega), e]
  · rw [← e j]; exact h3 _
theorem At.hd {a : Nat} {r : List Nat} (h : At B L i (a :: r)) : i < L ∧ B i = nn a ∧ a < 128 ∧ At B L (i + 1) r := by
  have h4 : At B L (i + 1) r := At.app (w := [a]) h
  obtain ⟨h1, h2, h3⟩ := h
  rw [List.length_cons] at h1 h2
  exact ⟨by omega, h2 0 (by omega), h3 0, h4⟩
theorem At.pre {w r : List Nat} (h : At B L i (w ++ r)) : ∀ j, j < w.length → B (i + j) = nn (w.getD j 0) ∧ w.getD j 0 < 128 := by
  obtain ⟨h1, h2, h3⟩ := h
  intro j hj
  have e : (w ++ r).getD j 0 = w.getD j 0 := by rw [gd_app2, if_pos hj]
  rw [List.length_append] at h2
  have := h2 j (by omega)
  rw [e] at this
  refine ⟨this, ?_⟩
  rw [← e]; exact h3 j
theorem nn_rg {lo hi a : Nat} (h1 : lo < 128) (h2 : hi < 128) (h3 : a < 128) : ((nn lo ≤ nn a ∧ nn a ≤ nn hi) ↔ (lo ≤ a ∧ a ≤ hi)) := by
  rw [nn_le (by omega) (by omega), nn_le (by omega) (by omega)]
/-- a text that begins with no blank -/
def nb (r : List Nat) : Prop := r.getD 0 0 ≠ 32 ∧ r.getD 0 0 ≠ 10
theorem ws_0 {r : List Nat} (h : At B L i r) (hr : nb r) : s_ws B (L - i) i = i := by
  cases r with
  | nil =>
    have : L - i = 0 := by
      have := h.1
      simp at this
      omega
    rw [this]; rfl
  | cons a r =>
    obtain ⟨h1, h2, h3, h4⟩ := h.hd
    obtain ⟨d, hd⟩ : ∃ d, L - i = d + 1 := ⟨L - i - 1, by omega⟩
    have n1 : a ≠ 32 := hr.1
    have n2 : a ≠ 10 := hr.2
    rw [hd, s_ws, if_neg]
    rw [h2, show (32 : Int32) = nn 32 from rfl, show (10 : Int32) = nn 10 from rfl, nn_eq (by omega) (by omega), nn_eq (by omega) (by omega)]
    omega
theorem ws_1 {r : List Nat} (h : At B L i (32 :: r)) (hr : nb r) : s_ws B (L - i) i = i + 1 := by
  obtain ⟨h1, h2, h3, h4⟩ := h.hd
  obtain ⟨d, hd⟩ : ∃ d, L - i = d + 1 := ⟨L - i - 1, by omega⟩
  have := ws_0 h4 hr
  rw [show L - (i + 1) = d by omega] at this
  rw [hd, s_ws, if_pos (Or.inl (by rw [h2]; rfl)), this]
theorem run_0 {lo hi : Nat} (hl : 1 ≤ lo) (hl2 : lo < 128) (hh : hi < 128) {r : List Nat} (h : At B L i r) (hr : ¬ (lo ≤ r.getD 0 0 ∧ r.getD 0 0 ≤ hi)) : s_run (nn lo) (nn hi) B (L - i) i = i := by
  cases r with
  | nil =>
    have : L - i = 0 := by
      have := h.1
      simp at this
      omega
    rw [this]; rfl
  | cons a r =>
    obtain ⟨h1, h2, h3, h4⟩ := h.hd
    obtain ⟨d, hd⟩ : ∃ d, L - i = d + 1 := ⟨L - i - 1, by omega⟩
    rw [hd, s_run, if_neg]
    rw [h2, nn_rg hl2 hh h3]
    exact hr
theorem run_w {lo hi : Nat} (hl : 1 ≤ lo) (hl2 : lo < 128) (hh : hi < 128) {r : List Nat} (hr : ¬ (lo ≤ r.getD 0 0 ∧ r.getD 0 0 ≤ hi)) : ∀ (w : List Nat) (i : Nat), At B L i (w ++ r) → (∀ a ∈ w, lo ≤ a ∧ a ≤ hi) → s_run (nn lo) (nn hi) B (L - i) i = i + w.length := by
  intro w
  induction w with
  | nil => intro i h _; exact run_0 hl hl2 hh h hr
  | cons a w ih =>
    intro i h hw
    obtain ⟨h1, h2, h3, h4⟩ := At.hd (r := w ++ r) h
    obtain ⟨d, hd⟩ : ∃ d, L - i = d + 1 := ⟨L - i - 1, by omega⟩
    have := ih (i + 1) h4 (fun b hb => hw b (List.mem_cons_of_mem _ hb))
    rw [show L - (i + 1) = d by omega] at this
    have ha := hw a (List.mem_cons_self ..)
    rw [hd, s_run, if_pos (by rw [h2, nn_rg hl2 hh h3]; exact ha), this, List.length_cons]
    omega
/-! the three kinds of token -/
theorem tk_num {w r : List Nat} (h : At B L i (w ++ r)) (hw : w ≠ []) (hd : ∀ a ∈ w, 48 ≤ a ∧ a ≤ 57) (hr : ¬ (48 ≤ r.getD 0 0 ∧ r.getD 0 0 ≤ 57)) : s_advB B L i = (2, i, i + w.length) := by
  have hrun := run_w (lo := 48) (hi := 57) (by omega) (by omega) (by omega) hr w i h hd
  cases w with
  | nil => exact absurd rfl hw
  | cons a w =>
    obtain ⟨h1, h2, h3, h4⟩ := At.hd (r := w ++ r) h
    have ha := hd a (List.mem_cons_self ..)
    unfold s_advB
    rw [if_pos h1, if_neg (by rw [h2, show (97 : Int32) = nn 97 from rfl, show (122 : Int32) = nn 122 from rfl, nn_rg (by omega) (by omega) h3]; omega), if_pos (by rw [h2, show (48 : Int32) = nn 48 from rfl, show (57 : Int32) = nn 57 from rfl, nn_rg (by omega) (by omega) h3]; omega)]
    exact congrArg (fun z => (2, i, z)) hrun
theorem tk_word {w r : List Nat} (h : At B L i (w ++ r)) (hw : w ≠ []) (hd : ∀ a ∈ w, 97 ≤ a ∧ a ≤ 122) (hr : ¬ (97 ≤ r.getD 0 0 ∧ r.getD 0 0 ≤ 122)) : s_advB B L i = (1, i, i + w.length) := by
  have hrun := run_w (lo := 97) (hi := 122) (by omega) (by omega) (by omega) hr w i h hd
  cases w with
  | nil => exact absurd rfl hw
  | cons a w =>
    obtain ⟨h1, h2, h3, h4⟩ := At.hd (r := w ++ r) h
    have ha := hd a (List.mem_cons_self ..)
    unfold s_advB
    rw [if_pos h1, if_pos (by rw [h2, show (97 : Int32) = nn 97 from rfl, show (122 : Int32) = nn 122 from rfl, nn_rg (by omega) (by omega) h3]; omega)]
    exact congrArg (fun z => (1, i, z)) hrun
theorem tk_sign {a : Nat} {r : List Nat} (h : At B L i (a :: r)) (ha : a = 59 ∨ a = 44 ∨ a = 45) : s_advB B L i = (if a = 59 then 3 else if a = 44 then 4 else 5, i, i + 1) := by
  obtain ⟨h1, h2, h3, h4⟩ := h.hd
  unfold s_advB
  rw [if_pos h1, if_neg (by rw [h2, show (97 : Int32) = nn 97 from rfl, show (122 : Int32) = nn 122 from rfl, nn_rg (by omega) (by omega) h3]; omega), if_neg (by rw [h2, show (48 : Int32) = nn 48 from rfl, show (57 : Int32) = nn 57 from rfl, nn_rg (by omega) (by omega) h3]; omega), h2]
  rcases ha with rfl | rfl | rfl <;> rfl
theorem tk_end (h : At B L i []) : s_advB B L i = (0, i, i) := by
  unfold s_advB
  have := h.1
  rw [if_neg (by simp at this; omega)]
/-- the state's token is that at i, where r stands -/
def QT (B : Nat → Int32) (L i : Nat) (σ : PS) (r : List Nat) : Prop := pE σ = 0 ∧ pT σ = s_advB B L i ∧ At B L i r
/-- what stands behind a token, without a blank -/
def bl1 (r r2 : List Nat) : Prop := (r = r2 ∨ r = 32 :: r2) ∧ nb r2
theorem adv_at {r r2 : List Nat} (h : At B L i r) (hb : bl1 r r2) : ∃ j, s_adv B L i = s_advB B L j ∧ At B L j r2 := by
  obtain ⟨rfl | rfl, hn⟩ := hb
  · exact ⟨i, by unfold s_adv; rw [ws_0 h hn], h⟩
  · exact ⟨i + 1, by unfold s_adv; rw [ws_1 h hn], h.hd.2.2.2⟩
theorem QT.adv {σ : PS} {w r r2 : List Nat} {k : Nat} (h : QT B L i σ (w ++ r)) (ht : s_advB B L i = (k, i, i + w.length)) (hb : bl1 r r2) : ∃ j, QT B L j (ps_adv B L σ) r2 := by
  obtain ⟨h1, h2, h3⟩ := h
  obtain ⟨j, e1, e2⟩ := adv_at h3.app hb
  refine ⟨j, ?_, ?_, e2⟩
  · rw [ps_adv_0 h1]; rfl
  · rw [ps_adv_0 h1]
    show s_adv B L (kN (pT σ)) = _
    rw [h2, ht]
    exact e1
theorem QT.z {r : List Nat} (h : At B L 0 r) (hn : nb r) : ∃ j, QT B L j (ps_0 B L) r := by
  obtain ⟨j, e1, e2⟩ := adv_at h ⟨Or.inl rfl, hn⟩
  exact ⟨j, rfl, e1, e2⟩
/-! a number -/
theorem dg_d {w : Nat} (h : w < 100) : ∀ a ∈ dg w, 48 ≤ a ∧ a ≤ 57 := by
  unfold dg
  split
  · intro a ha
    simp at ha
    omega
  · intro a ha
    simp at ha
    omega
theorem dg_ne (w : Nat) : dg w ≠ [] := by
  unfold dg
  split <;> simp
theorem dg_val {w : Nat} (hw : w < 100) {r : List Nat} (h : At B L i (dg w ++ r)) : s_dec B (dg w).length i 0 = w := by
  have hp := h.pre
  unfold dg at hp ⊢
  by_cases c : w < 10
  · rw [if_pos c] at hp ⊢
    have e0 := (hp 0 (by simp)).1
    show s_dec B 1 i 0 = w
    rw [s_dec, s_dec, show B i = nn (48 + w) from e0, nn_c (by omega)]
    omega
  · rw [if_neg c] at hp ⊢
    have e0 := (hp 0 (by simp)).1
    have e1 := (hp 1 (by simp)).1
    show s_dec B 2 i 0 = w
    rw [s_dec, s_dec, s_dec, show B i = nn (48 + w / 10) from e0, show B (i + 1) = nn (48 + w % 10) from e1, nn_c (by omega), nn_c (by omega)]
    omega
/-- a text with no digit at its beginning -/
def ng (r : List Nat) : Prop := ¬ (48 ≤ r.getD 0 0 ∧ r.getD 0 0 ≤ 57)
theorem QT.num {σ : PS} {w : Nat} (hw : w < 100) {r r2 : List Nat} (h : QT B L i σ (dg w ++ r)) (hg : ng r) (hb : bl1 r r2) : ∃ j, (ps_num B L 1000 σ).1 = w ∧ QT B L j (ps_num B L 1000 σ).2 r2 := by
  have ht := tk_num h.2.2 (dg_ne w) (dg_d hw) hg
  have hv : s_val B (pT σ) = w := by
    rw [h.2.1, ht]
    show s_dec B (i + (dg w).length - i) i 0 = w
    rw [show i + (dg w).length - i = (dg w).length by omega]
    exact dg_val hw h.2.2
  have hk : kD (pT σ) = 2 := by rw [h.2.1, ht]; rfl
  obtain ⟨j, q⟩ := h.adv ht hb
  unfold ps_num
  rw [decide_eq_true hk, ps_chk_t, hv, decide_eq_true (show w ≤ 1000 by omega), ps_chk_t, if_pos h.1]
  exact ⟨j, rfl, q⟩
def sg (m : Bool) : List Nat := if m then [45] else []
def sgv (m : Bool) (w : Nat) : Int32 := if m then -(nn w) else nn w
theorem nb_dg (w : Nat) (hw : w < 100) (r : List Nat) : nb (dg w ++ r) := by
  unfold dg nb
  split
  · show 48 + w ≠ 32 ∧ 48 + w ≠ 10
    omega
  · show 48 + w / 10 ≠ 32 ∧ 48 + w / 10 ≠ 10
    omega
theorem QT.sgn {σ : PS} {m : Bool} {w : Nat} (hw : w < 100) {r r2 : List Nat} (h : QT B L i σ (sg m ++ (dg w ++ r))) (hg : ng r) (hb : bl1 r r2) : ∃ j, (ps_sgn B L 1000 σ).1 = sgv m w ∧ QT B L j (ps_sgn B L 1000 σ).2 r2 := by
  cases m with
  | true =>
    have h : QT B L i σ ([45] ++ (dg w ++ r)) := h
    have ht : s_advB B L i = (5, i, i + 1) := tk_sign (a := 45) h.2.2 (by omega)
    obtain ⟨j, q⟩ := h.adv ht ⟨Or.inl rfl, nb_dg w hw r⟩
    obtain ⟨j2, q1, q2⟩ := q.num hw hg hb
    unfold ps_sgn
    rw [if_pos ⟨h.1, by rw [h.2.1, ht]; rfl⟩, q1]
    exact ⟨j2, rfl, q2⟩
  | false =>
    have h : QT B L i σ (dg w ++ r) := h
    have ht := tk_num h.2.2 (dg_ne w) (dg_d hw) hg
    obtain ⟨j2, q1, q2⟩ := h.num hw hg hb
    unfold ps_sgn
    rw [if_neg (by rw [h.2.1, ht]; exact fun z => absurd (show (2 : Nat) = 5 from z.2) (by decide)), q1]
    exact ⟨j2, rfl, q2⟩
/-! a point, points -/
abbrev PN : Type := Bool × Nat × Bool × Nat
def pn_t (q : PN) (r : List Nat) : List Nat := sg q.1 ++ (dg q.2.1 ++ 32 :: (sg q.2.2.1 ++ (dg q.2.2.2 ++ r)))
def pn_b (q : PN) : Prop := q.2.1 < 100 ∧ q.2.2.2 < 100
theorem nb_sg (m : Bool) {w : Nat} (hw : w < 100) (r : List Nat) : nb (sg m ++ (dg w ++ r)) := by
  cases m with
  | true => exact ⟨by show 45 ≠ 32; omega, by show 45 ≠ 10; omega⟩
  | false => exact nb_dg w hw r
theorem nb_pn {q : PN} (hq : pn_b q) (r : List Nat) : nb (pn_t q r) := nb_sg q.1 hq.1 _
theorem QT.pt {σ : PS} {q : PN} (hq : pn_b q) {r r2 : List Nat} {c : CS} (h : QT B L i σ (pn_t q r)) (hg : ng r) (hb : bl1 r r2) (hn : cN c < 33) : ∃ j, (ps_pt B L c σ).1 = s_app c (sgv q.1 q.2.1) (sgv q.2.2.1 q.2.2.2) ∧ QT B L j (ps_pt B L c σ).2 r2 := by
  have hg2 : ng (32 :: (sg q.2.2.1 ++ (dg q.2.2.2 ++ r))) := by
    show ¬ (48 ≤ 32 ∧ 32 ≤ 57)
    omega
  obtain ⟨j1, a1, a2⟩ := QT.sgn hq.1 h hg2 ⟨Or.inr rfl, nb_sg q.2.2.1 hq.2 r⟩
  obtain ⟨j2, b1, b2⟩ := a2.sgn hq.2 hg hb
  rw [pt_ok h.1 hn a2.1 b2.1, a1, b1]
  exact ⟨j2, rfl, b2⟩
end PT

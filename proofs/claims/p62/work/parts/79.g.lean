/-! ===== the state of a reading: its error (0: none), where, its token ===== -/
abbrev PS : Type := Int32 × Nat × TK
def pE (σ : PS) : Int32 := σ.1
def pA (σ : PS) : Nat := σ.2.1
def pT (σ : PS) : TK := σ.2.2
def ps_chk (ok : Bool) (c : Int32) (σ : PS) : PS := if ok = false ∧ pE σ = 0 then (c, kS (pT σ), pT σ) else σ
def ps_adv (B : Nat → Int32) (L : Nat) (σ : PS) : PS := if pE σ = 0 then (0, pA σ, s_adv B L (kN (pT σ))) else σ
def ps_num (B : Nat → Int32) (L hi : Nat) (σ : PS) : Nat × PS :=
  (if pE (ps_chk (decide (s_val B (pT σ) ≤ hi)) 2 (ps_chk (decide (kD (pT σ) = 2)) 1 σ)) = 0 then s_val B (pT σ) else 0, ps_adv B L (ps_chk (decide (s_val B (pT σ) ≤ hi)) 2 (ps_chk (decide (kD (pT σ) = 2)) 1 σ)))
def ps_sgn (B : Nat → Int32) (L hi : Nat) (σ : PS) : Int32 × PS :=
  if pE σ = 0 ∧ kD (pT σ) = 5 then (-(nn (ps_num B L hi (ps_adv B L σ)).1), (ps_num B L hi (ps_adv B L σ)).2) else (nn (ps_num B L hi σ).1, (ps_num B L hi σ).2)
def PV (B : Nat → Int32) (L : Nat) (σ : PS) : Prop := TKV B L (pT σ)
theorem ps_chk_t {c : Int32} {σ : PS} : ps_chk true c σ = σ := if_neg (fun h => absurd h.1 (by decide))
theorem ps_chk_f {c : Int32} {σ : PS} (h : pE σ = 0) : ps_chk false c σ = (c, kS (pT σ), pT σ) := if_pos ⟨rfl, h⟩
theorem ps_chk_e {ok : Bool} {c : Int32} {σ : PS} (h : pE σ ≠ 0) : ps_chk ok c σ = σ := if_neg (fun q => h q.2)
theorem ps_adv_e {B : Nat → Int32} {L : Nat} {σ : PS} (h : pE σ ≠ 0) : ps_adv B L σ = σ := if_neg h
theorem ps_adv_0 {B : Nat → Int32} {L : Nat} {σ : PS} (h : pE σ = 0) : ps_adv B L σ = (0, pA σ, s_adv B L (kN (pT σ))) := if_pos h
theorem ps_chk_T (ok : Bool) (c : Int32) (σ : PS) : pT (ps_chk ok c σ) = pT σ := by
  unfold ps_chk
  split <;> rfl
theorem PV.chk {B : Nat → Int32} {L : Nat} {σ : PS} (h : PV B L σ) (ok : Bool) (c : Int32) : PV B L (ps_chk ok c σ) := by
  unfold PV
  rw [ps_chk_T]
  exact h
theorem PV.adv {B : Nat → Int32} {L : Nat} {σ : PS} (h : PV B L σ) : PV B L (ps_adv B L σ) := by
  unfold ps_adv
  split
  · exact s_adv_V B h.2.1
  · exact h
theorem PV.num {B : Nat → Int32} {L hi : Nat} {σ : PS} (h : PV B L σ) : PV B L (ps_num B L hi σ).2 := ((h.chk _ _).chk _ _).adv
theorem PV.sgn {B : Nat → Int32} {L hi : Nat} {σ : PS} (h : PV B L σ) : PV B L (ps_sgn B L hi σ).2 := by
  unfold ps_sgn
  split
  · exact h.adv.num
  · exact h.num
theorem ps_num_e {B : Nat → Int32} {L hi : Nat} {σ : PS} (h : pE σ ≠ 0) : ps_num B L hi σ = (0, σ) := by
  unfold ps_num
  rw [ps_chk_e h, ps_chk_e h, ps_adv_e h, if_neg h]
theorem ps_sgn_e {B : Nat → Int32} {L hi : Nat} {σ : PS} (h : pE σ ≠ 0) : ps_sgn B L hi σ = (0, σ) := by
  unfold ps_sgn
  rw [if_neg (fun q => h q.1), ps_num_e h]
  rfl
/-! the reference's -/
def PR (z0 z : Nat → Int32) (L : Nat) (σ : PS) : Prop := z 14 = nn L ∧ MT z (pT σ) ∧ z 18 = pE σ ∧ (pE σ ≠ 0 → z 19 = nn (pA σ)) ∧ eqx z0 z
section PM
variable {V : Nat → Nat} {g f0 : GH} {m b L hi : Nat} {z z0 : Nat → Int32} {A : Nat → Nat → Int32} {σ : PS}
theorem sgn_3 (c : Int32) : s_sgn c = 3 ↔ c = 59 := by
  unfold s_sgn
  by_cases h1 : c = 59
  · rw [if_pos h1]; exact ⟨fun _ => h1, fun _ => rfl⟩
  · rw [if_neg h1]; exact ⟨fun h => absurd h (by split; decide; split <;> decide), fun h => absurd h h1⟩
theorem sgn_4 (c : Int32) : s_sgn c = 4 ↔ c = 44 := by
  unfold s_sgn
  by_cases h1 : c = 59
  · rw [if_pos h1, h1]; decide
  · rw [if_neg h1]
    by_cases h2 : c = 44
    · rw [if_pos h2]; exact ⟨fun _ => h2, fun _ => rfl⟩
    · rw [if_neg h2]; exact ⟨fun h => absurd h (by split <;> decide), fun h => absurd h h2⟩
theorem sgn_5 (c : Int32) : s_sgn c = 5 ↔ c = 45 := by
  unfold s_sgn
  by_cases h1 : c = 59
  · rw [if_pos h1, h1]; decide
  · rw [if_neg h1]
    by_cases h2 : c = 44
    · rw [if_pos h2, h2]; decide
    · rw [if_neg h2]
      by_cases h3 : c = 45
      · rw [if_pos h3]; exact ⟨fun _ => h3, fun _ => rfl⟩
      · rw [if_neg h3]; exact ⟨fun h => absurd h (by decide), fun h => absurd h h3⟩
/-- which symbol is of which kind -/
def symK (k : Nat) (c : Int32) : Prop := 3 ≤ k ∧ ∀ v, s_sgn v = k ↔ v = c
theorem sy3 : symK 3 59 := ⟨by decide, sgn_3⟩
theorem sy4 : symK 4 44 := ⟨by decide, sgn_4⟩
theorem sy5 : symK 5 45 := ⟨by decide, sgn_5⟩
end PM
/-! the class's -/
def pO (σ : PS) : Int32 := if pE σ = 0 then -1 else nn (pA σ)
def PG (x bl L : Nat) (bs : Nat → Int32) (σ : PS) (it kg : Int32) (f : GH) : Prop :=
  f (x + 62) = some (.inr (8, [.ref (x + 62 + 1), .int (nn bl), .int (nn L), .int (nn (kD (pT σ))), .int (nn (kS (pT σ))), .int (nn (kN (pT σ)))])) ∧ f (x + 62 + 1) = some (.inl (1, 700, .inl bs)) ∧ f (x + 64) = some (.inr (7, [.ref (x + 62), .int (pE σ), .int (pO σ), .int it, .int kg]))
section PC
variable {V : Nat → Nat} {g f : GH} {x bl L hi : Nat} {bs B : Nat → Int32} {σ : PS} {it kg : Int32}
theorem PG.fr {f1 : GH} (P : PG x bl L bs σ it kg f) (e : ∀ a, x + 62 ≤ a → a < x + 65 → f1 a = f a) : PG x bl L bs σ it kg f1 :=
  ⟨(e _ (by omega) (by omega)).trans P.1, (e _ (by omega) (by omega)).trans P.2.1, (e _ (by omega) (by omega)).trans P.2.2⟩
theorem PG.me {α : Type} (P : PG x bl L bs σ it kg f) (q : Option α) : h_me f (x + 64) 7 q = q := hme_of P.2.2 q
theorem PG.tk (P : PG x bl L bs σ it kg f) : h_gr f (x + 64) 7 0 = some (x + 62) := hgr_of P.2.2 rfl
theorem PG.kd (P : PG x bl L bs σ it kg f) : h_gi f (x + 62) 8 3 = some (nn (kD (pT σ))) := hgi_of P.1 rfl
theorem PG.gi (P : PG x bl L bs σ it kg f) : h_gi f (x + 64) 7 3 = some it := hgi_of P.2.2 rfl
theorem PG.gk (P : PG x bl L bs σ it kg f) : h_gi f (x + 64) 7 4 = some kg := hgi_of P.2.2 rfl
theorem G_adv (P : PG x bl L bs σ it kg f) (hL : L ≤ 700) (hB : ∀ i, i < L → BR (bs i) (B i)) (hv : PV B L σ) (h0 : pE σ = 0) : ∃ f1, p_X5_advance V g f (x + 62) = some f1 ∧ PG x bl L bs (ps_adv B L σ) it kg f1 ∧ h_out (x + 62) (x + 65) f f1 := by
  obtain ⟨p1, p2, p3⟩ := P
  have hf := tH_id p1 p2
  have h := C_adv (V := V) (g := g) (t := x + 62) (bl := bl) (kd := nn (kD (pT σ))) (st := nn (kS (pT σ))) (f0 := f) hL hB hv.2.1
  refine ⟨_, (congrArg (fun q => p_X5_advance V g q (x + 62)) hf).trans h, ?_, fun a ha => tH_out a (by omega)⟩
  rw [ps_adv_0 h0]
  refine ⟨tH_o, tH_b, ?_⟩
  rw [tH_out _ (by omega), p3]
  unfold pO
  rw [h0]
  rfl
theorem G_fail (P : PG x bl L bs σ it kg f) (h0 : pE σ = 0) {c : Int32} (hc : c ≠ 0) : ∃ f1, p_X4_fail V g f (x + 64) c = some (0, f1) ∧ PG x bl L bs (ps_chk false c σ) it kg f1 ∧ h_out (x + 62) (x + 65) f f1 := by
  obtain ⟨p1, p2, p3⟩ := id P
  refine ⟨h_up f (x + 64) (.inr (7, [.ref (x + 62), .int c, .int (nn (kS (pT σ))), .int it, .int kg])), ?_, ⟨?_, ?_, ?_⟩, (h_out.rf _ _ _).up (by omega) (by omega)⟩
  · unfold p_X4_fail
    rw [P.me, hpt_of p3 (by decide : 1 < 5), ob_s, hgr_of (h_up_s _ _ _) rfl, ob_s, hgi_of (show h_up f (x + 64) _ (x + 62) = _ from (h_up_n f _ (by omega)).trans p1) rfl, ob_s, hpt_of (h_up_s _ _ _) (by simp), ob_s, up_up]
    rfl
  · rw [h_up_n _ _ (by omega), p1, ps_chk_f h0]; rfl
  · rw [h_up_n _ _ (by omega), p2]
  · rw [h_up_s, ps_chk_f h0]
    unfold pO
    rw [if_neg (show ¬ pE (c, kS (pT σ), pT σ) = 0 from hc)]
    rfl
theorem G_sInt (P : PG x bl L bs σ it kg f) (y : Int32) : ∃ f1, h_pt f (x + 64) 7 3 (.int y) = some f1 ∧ PG x bl L bs σ y kg f1 ∧ h_out (x + 62) (x + 65) f f1 :=
  ⟨_, hpt_of P.2.2 (by decide : 3 < 5), ⟨(h_up_n _ _ (by omega)).trans P.1, (h_up_n _ _ (by omega)).trans P.2.1, h_up_s _ _ _⟩, (h_out.rf _ _ _).up (by omega) (by omega)⟩
theorem G_sKing (P : PG x bl L bs σ it kg f) (y : Int32) : ∃ f1, h_pt f (x + 64) 7 4 (.int y) = some f1 ∧ PG x bl L bs σ it y f1 ∧ h_out (x + 62) (x + 65) f f1 :=
  ⟨_, hpt_of P.2.2 (by decide : 4 < 5), ⟨(h_up_n _ _ (by omega)).trans P.1, (h_up_n _ _ (by omega)).trans P.2.1, h_up_s _ _ _⟩, (h_out.rf _ _ _).up (by omega) (by omega)⟩
theorem G_isWord (S : StOK V g) (P : PG x bl L bs σ it kg f) (hL : L ≤ 700) (hB : ∀ i, i < L → BR (bs i) (B i)) (hv : PV B L σ) {i : Nat} (hi : i < 14) : p_X5_isWord V g f (x + 62) (V (st_wi.getD i 0)) = some (bz (s_word B (pT σ) i)) := by
  have hf := tH_id P.1 P.2.1
  exact (congrArg (fun q => p_X5_isWord V g q (x + 62) (V (st_wi.getD i 0))) hf).trans (C_isWord S hi hL hB hv)
theorem G_val (P : PG x bl L bs σ it kg f) (hL : L ≤ 700) (hB : ∀ i, i < L → BR (bs i) (B i)) (hv : PV B L σ) (h2 : kD (pT σ) = 2) : ∃ w, p_X5_value V g f (x + 62) = some (nn w) ∧ NumOK w (s_val B (pT σ)) := by
  have hf := tH_id P.1 P.2.1
  obtain ⟨w, e1, e2⟩ := C_val (V := V) (g := g) (f0 := f) (t := x + 62) (bl2 := nn bl) (len := nn L) (kd := nn (kD (pT σ))) hL hB hv h2
  exact ⟨w, (congrArg (fun q => p_X5_value V g q (x + 62)) hf).trans e1, e2⟩
/-- a step whose end tells whether it failed -/
theorem bz_e0 {e : Int32} (h : e = 0) : bz (decide (e = 0)) = 1 := by rw [decide_eq_true h]; rfl
theorem bz_e1 {e : Int32} (h : e ≠ 0) : bz (decide (e = 0)) = 0 := by rw [decide_eq_false h]; rfl
theorem G_take (P : PG x bl L bs σ it kg f) (hL : L ≤ 700) (hB : ∀ i, i < L → BR (bs i) (B i)) (hv : PV B L σ) (h0 : pE σ = 0) {k : Nat} (hk : k < 7) : ∃ f1, p_X4_take V g f (x + 64) (nn k) = some (bz (decide (pE (ps_adv B L (ps_chk (decide (kD (pT σ) = k)) 1 σ)) = 0)), f1) ∧ PG x bl L bs (ps_adv B L (ps_chk (decide (kD (pT σ) = k)) 1 σ)) it kg f1 ∧ h_out (x + 62) (x + 65) f f1 := by
  have h3 := hv.2.2.1
  unfold p_X4_take
  rw [P.me, P.tk, ob_s, P.kd, ob_s]
  by_cases c : kD (pT σ) = k
  · obtain ⟨f1, e1, e2, e3⟩ := G_adv (V := V) (g := g) P hL hB hv h0
    rw [decide_eq_true c, ps_chk_t]
    refine ⟨f1, ?_, e2, e3⟩
    rw [if_pos (by rw [c]), ob_s, e1, ob_s, ps_adv_0 h0]
    rfl
  · obtain ⟨f1, e1, e2, e3⟩ := G_fail (V := V) (g := g) P h0 (c := 1) (by decide)
    rw [decide_eq_false c, ps_adv_e (by rw [ps_chk_f h0]; show (1 : Int32) ≠ 0; decide)]
    refine ⟨f1, ?_, e2, e3⟩
    rw [if_neg (fun e => c (by rw [nn_eq (by omega) (by omega)] at e; exact e)), e1, ob_s, hbz01 (Or.inl rfl), ob_s, ps_chk_f h0]
    rfl
theorem G_takeWord (S : StOK V g) (P : PG x bl L bs σ it kg f) (hL : L ≤ 700) (hB : ∀ i, i < L → BR (bs i) (B i)) (hv : PV B L σ) (h0 : pE σ = 0) {i : Nat} (hi : i < 14) : ∃ f1, p_X4_takeWord V g f (x + 64) (V (st_wi.getD i 0)) = some (bz (decide (pE (ps_adv B L (ps_chk (s_word B (pT σ) i) 1 σ)) = 0)), f1) ∧ PG x bl L bs (ps_adv B L (ps_chk (s_word B (pT σ) i) 1 σ)) it kg f1 ∧ h_out (x + 62) (x + 65) f f1 := by
  unfold p_X4_takeWord
  rw [P.me, P.tk, ob_s, G_isWord S P hL hB hv hi, ob_s]
  cases c : s_word B (pT σ) i with
  | true =>
    obtain ⟨f1, e1, e2, e3⟩ := G_adv (V := V) (g := g) P hL hB hv h0
    rw [ps_chk_t]
    refine ⟨f1, ?_, e2, e3⟩
    rw [if_neg bz_tn, ob_s, e1, ob_s, ps_adv_0 h0]
    rfl
  | false =>
    obtain ⟨f1, e1, e2, e3⟩ := G_fail (V := V) (g := g) P h0 (c := 1) (by decide)
    rw [ps_adv_e (by rw [ps_chk_f h0]; show (1 : Int32) ≠ 0; decide)]
    refine ⟨f1, ?_, e2, e3⟩
    rw [if_pos bz_f, e1, ob_s, hbz01 (Or.inl rfl), ob_s, ps_chk_f h0]
    rfl
/-- an integer, behind its sign -/
theorem G_j32 (P : PG x bl L bs σ it kg f) (hL : L ≤ 700) (hB : ∀ i, i < L → BR (bs i) (B i)) (hv : PV B L σ) (h0 : pE σ = 0) (hh : hi ≤ 2000) (ng : Bool) {lo : Int32} (hlo : lo = 0 ∧ ng = false ∨ lo = -(nn hi)) : ∃ f1 it1, p_X4_readInteger_j32 V g (x + 64) lo (nn hi) (bz ng) f = some (bz (decide (pE (ps_num B L hi σ).2 = 0)), f1) ∧ PG x bl L bs (ps_num B L hi σ).2 it1 kg f1 ∧ h_out (x + 62) (x + 65) f f1 ∧ (pE (ps_num B L hi σ).2 = 0 → it1 = if ng = true then -(nn (ps_num B L hi σ).1) else nn (ps_num B L hi σ).1) := by
  have h3 := hv.2.2.1
  unfold p_X4_readInteger_j32
  rw [P.tk, ob_s, P.kd, ob_s]
  by_cases h2 : kD (pT σ) = 2
  · obtain ⟨w, e1, e2⟩ := G_val (V := V) (g := g) P hL hB hv h2
    have hw := e2.1
    have hle := e2.le hh
    rw [if_pos (by rw [h2]; rfl), ob_s, e1, ob_s, ob_s]
    have hj : ∀ y : Int32, y = (if ng = true then -(nn w) else nn w) → ∃ f1 it1, p_X4_readInteger_j72 V g (x + 64) lo (nn hi) y (x + 64) f = some (bz (decide (pE (ps_num B L hi σ).2 = 0)), f1) ∧ PG x bl L bs (ps_num B L hi σ).2 it1 kg f1 ∧ h_out (x + 62) (x + 65) f f1 ∧ (pE (ps_num B L hi σ).2 = 0 → it1 = if ng = true then -(nn (ps_num B L hi σ).1) else nn (ps_num B L hi σ).1) := by
      intro y hy
      obtain ⟨f2, g1, g2, g3⟩ := G_sInt P y
      unfold p_X4_readInteger_j72 ps_num
      rw [g1, ob_s, g2.gi, ob_s, decide_eq_true h2, ps_chk_t]
      have yi : y.toInt = if ng = true then -(w : Int) else w := by
        rw [hy]
        by_cases q : ng = true
        · rw [if_pos q, if_pos q, i_neg (by rw [nn_i (by omega)]; omega), nn_i (by omega)]
        · rw [if_neg q, if_neg q, nn_i (by omega)]
      have loi : lo.toInt = 0 ∧ ng = false ∨ lo.toInt = -(hi : Int) := by
        rcases hlo with ⟨q1, q2⟩ | q
        · exact Or.inl ⟨by rw [q1]; rfl, q2⟩
        · refine Or.inr ?_
          rw [q, i_neg (by rw [nn_i (by omega)]; omega), nn_i (by omega)]
      by_cases cv : s_val B (pT σ) ≤ hi
      · have hw2 : w = s_val B (pT σ) := by have := e2.2; omega
        obtain ⟨f3, k1, k2, k3⟩ := G_adv (V := V) (g := g) g2 hL hB hv h0
        rw [decide_eq_true cv, ps_chk_t, if_pos h0]
        refine ⟨f3, y, ?_, k2, g3.tr k3, fun _ => by rw [hy, hw2]⟩
        rw [if_neg (by rw [i_lt, yi]; rcases loi with ⟨q1, q2⟩ | q
                       · rw [q1, q2, if_neg (by decide)]; omega
                       · rw [q]; split <;> omega), ob_s, if_pos (by rw [i_le, yi, nn_i (by omega)]; split <;> omega), g2.tk, ob_s, k1, ob_s, ps_adv_0 h0]
        rfl
      · have hwn : ¬ w ≤ hi := fun q => cv (hle.mp q)
        obtain ⟨f3, k1, k2, k3⟩ := G_fail (V := V) (g := g) g2 h0 (c := 2) (by decide)
        have hne : pE (ps_chk false 2 σ) ≠ 0 := by rw [ps_chk_f h0]; show (2 : Int32) ≠ 0; decide
        rw [decide_eq_false cv, ps_adv_e hne]
        refine ⟨f3, y, ?_, k2, g3.tr k3, fun h => absurd h hne⟩
        rw [bz_e1 hne]
        by_cases cl : y < lo
        · rw [if_pos cl, k1, ob_s, hbz01 (Or.inl rfl), ob_s]
        · rw [if_neg cl, ob_s, if_neg, k1, ob_s, hbz01 (Or.inl rfl), ob_s]
          rw [i_le, yi, nn_i (by omega)]
          rw [i_lt, yi] at cl
          rcases loi with ⟨q1, q2⟩ | q
          · rw [q2, if_neg (by decide)]; omega
          · rw [q] at cl
            split at cl
            · omega
            · rename_i q2; rw [if_neg q2]; omega
    cases ng with
    | false => rw [if_pos bz_f]; exact hj (nn w) rfl
    | true => rw [if_neg bz_tn, e1, ob_s]; exact hj (-(nn w)) rfl
  · obtain ⟨f1, e1, e2, e3⟩ := G_fail (V := V) (g := g) P h0 (c := 1) (by decide)
    have hne : pE (ps_chk false 1 σ) ≠ 0 := by rw [ps_chk_f h0]; show (1 : Int32) ≠ 0; decide
    unfold ps_num
    rw [decide_eq_false h2, ps_chk_e hne, ps_adv_e hne]
    refine ⟨f1, it, ?_, e2, e3, fun h => absurd h hne⟩
    rw [if_neg (fun e => h2 (by rw [n_2, nn_eq (by omega) (by omega)] at e; exact e)), e1, ob_s, hbz01 (Or.inl rfl), ob_s, bz_e1 hne]
theorem G_num (P : PG x bl L bs σ it kg f) (hL : L ≤ 700) (hB : ∀ i, i < L → BR (bs i) (B i)) (hv : PV B L σ) (h0 : pE σ = 0) (hh : hi ≤ 2000) : ∃ f1 it1, p_X4_readInteger V g f (x + 64) (0 : Int32) (nn hi) = some (bz (decide (pE (ps_num B L hi σ).2 = 0)), f1) ∧ PG x bl L bs (ps_num B L hi σ).2 it1 kg f1 ∧ h_out (x + 62) (x + 65) f f1 ∧ (pE (ps_num B L hi σ).2 = 0 → it1 = nn (ps_num B L hi σ).1) := by
  obtain ⟨f1, it1, e1, e2, e3, e4⟩ := G_j32 (V := V) (g := g) P hL hB hv h0 hh false (Or.inl ⟨rfl, rfl⟩)
  refine ⟨f1, it1, ?_, e2, e3, fun h => (e4 h).trans (if_neg (by decide))⟩
  unfold p_X4_readInteger
  rw [P.me, if_pos (by decide)]
  unfold p_X4_readInteger_j19 p_X4_readInteger_j20
  rw [if_pos rfl]
  exact e1
theorem G_sgn (P : PG x bl L bs σ it kg f) (hL : L ≤ 700) (hB : ∀ i, i < L → BR (bs i) (B i)) (hv : PV B L σ) (h0 : pE σ = 0) (hh : hi ≤ 2000) (h1 : 1 ≤ hi) : ∃ f1 it1, p_X4_readInteger V g f (x + 64) (-(nn hi)) (nn hi) = some (bz (decide (pE (ps_sgn B L hi σ).2 = 0)), f1) ∧ PG x bl L bs (ps_sgn B L hi σ).2 it1 kg f1 ∧ h_out (x + 62) (x + 65) f f1 ∧ (pE (ps_sgn B L hi σ).2 = 0 → it1 = (ps_sgn B L hi σ).1) := by
  have h3 := hv.2.2.1
  unfold p_X4_readInteger
  rw [P.me, if_neg (by rw [i_le, i_neg (by rw [nn_i (by omega)]; omega), nn_i (by omega)]; show ¬ (0 : Int) ≤ _; omega), P.tk, ob_s, P.kd, ob_s]
  by_cases h5 : kD (pT σ) = 5
  · obtain ⟨f2, k1, k2, k3⟩ := G_adv (V := V) (g := g) P hL hB hv h0
    obtain ⟨f1, it1, e1, e2, e3, e4⟩ := G_j32 (V := V) (g := g) k2 hL hB hv.adv (by rw [ps_adv_0 h0]; rfl) hh true (Or.inr rfl)
    have hs : ps_sgn B L hi σ = (-(nn (ps_num B L hi (ps_adv B L σ)).1), (ps_num B L hi (ps_adv B L σ)).2) := if_pos ⟨h0, h5⟩
    rw [hs]
    refine ⟨f1, it1, ?_, e2, k3.tr e3, fun h => (e4 h).trans (if_pos rfl)⟩
    rw [if_pos (by rw [h5]; rfl)]
    unfold p_X4_readInteger_j20
    rw [if_neg (by decide), P.tk, ob_s, k1, ob_s]
    exact e1
  · obtain ⟨f1, it1, e1, e2, e3, e4⟩ := G_j32 (V := V) (g := g) P hL hB hv h0 hh false (Or.inr rfl)
    have hs : ps_sgn B L hi σ = (nn (ps_num B L hi σ).1, (ps_num B L hi σ).2) := if_neg (fun q => h5 q.2)
    rw [hs]
    refine ⟨f1, it1, ?_, e2, e3, fun h => (e4 h).trans (if_neg (by decide))⟩
    rw [if_neg (fun e => h5 (by rw [n_5, nn_eq (by omega) (by omega)] at e; exact e))]
    unfold p_X4_readInteger_j19 p_X4_readInteger_j20
    rw [if_pos rfl]
    exact e1
end PC


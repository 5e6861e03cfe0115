/-! ===== tokens, on both sides ===== -/
/-- a token: its kind (0 end, 1 word, 2 number, 3 ;, 4 ,, 5 -, 6 none of them), where it begins, where the next may begin -/
abbrev TK : Type := Nat × Nat × Nat
def kD (t : TK) : Nat := t.1
def kS (t : TK) : Nat := t.2.1
def kN (t : TK) : Nat := t.2.2
def s_ws (B : Nat → Int32) : Nat → Nat → Nat
  | 0, i => i
  | d + 1, i => if B i = 32 ∨ B i = 10 then s_ws B d (i + 1) else i
def s_rng (lo hi v : Int32) : Prop := lo ≤ v ∧ v ≤ hi
def s_run (lo hi : Int32) (B : Nat → Int32) : Nat → Nat → Nat
  | 0, i => i
  | d + 1, i => if lo ≤ B i ∧ B i ≤ hi then s_run lo hi B d (i + 1) else i
def s_sgn (c : Int32) : Nat := if c = 59 then 3 else if c = 44 then 4 else if c = 45 then 5 else 6
def s_advB (B : Nat → Int32) (L : Nat) (i : Nat) : TK :=
  if i < L then (if 97 ≤ B i ∧ B i ≤ 122 then (1, i, s_run 97 122 B (L - i) i) else if 48 ≤ B i ∧ B i ≤ 57 then (2, i, s_run 48 57 B (L - i) i) else (s_sgn (B i), i, i + 1)) else (0, i, i)
def s_adv (B : Nat → Int32) (L : Nat) (nx : Nat) : TK := s_advB B L (s_ws B (L - nx) nx)
theorem s_ws_b (B : Nat → Int32) : ∀ (d i : Nat), i ≤ s_ws B d i ∧ s_ws B d i ≤ i + d := by
  intro d
  induction d with
  | zero => intro i; exact ⟨Nat.le_refl _, Nat.le_refl _⟩
  | succ d ih =>
    intro i
    rw [s_ws]
    split
    · have := ih (i + 1); omega
    · omega
theorem s_run_b (lo hi : Int32) (B : Nat → Int32) : ∀ (d i : Nat), i ≤ s_run lo hi B d i ∧ s_run lo hi B d i ≤ i + d ∧ ∀ k, i ≤ k → k < s_run lo hi B d i → lo ≤ B k ∧ B k ≤ hi := by
  intro d
  induction d with
  | zero => intro i; exact ⟨Nat.le_refl _, Nat.le_refl _, fun k h1 h2 => absurd h2 (by rw [s_run]; omega)⟩
  | succ d ih =>
    intro i
    rw [s_run]
    split
    · rename_i h
      have := ih (i + 1)
      refine ⟨by omega, by omega, fun k h1 h2 => ?_⟩
      by_cases e : k = i
      · rw [e]; exact h
      · exact this.2.2 k (by omega) h2
    · exact ⟨Nat.le_refl _, by omega, fun k h1 h2 => by omega⟩
theorem s_run_1 {lo hi : Int32} {B : Nat → Int32} {d i : Nat} (h : lo ≤ B i ∧ B i ≤ hi) (hd : 0 < d) : i < s_run lo hi B d i := by
  obtain ⟨e, rfl⟩ : ∃ e, d = e + 1 := ⟨d - 1, by omega⟩
  rw [s_run, if_pos h]
  have := (s_run_b lo hi B e (i + 1)).1
  omega
/-- a token that the scanner may have made -/
def TKV (B : Nat → Int32) (L : Nat) (t : TK) : Prop := kS t ≤ kN t ∧ kN t ≤ L ∧ kD t ≤ 6 ∧ (kD t = 2 → ∀ k, kS t ≤ k → k < kN t → 48 ≤ B k ∧ B k ≤ 57) ∧ (3 ≤ kD t → kS t < L ∧ kD t = s_sgn (B (kS t)))
theorem s_sgn_b (c : Int32) : 3 ≤ s_sgn c ∧ s_sgn c ≤ 6 := by
  unfold s_sgn
  split
  · omega
  · split
    · omega
    · split <;> omega
theorem s_adv_V (B : Nat → Int32) {L nx : Nat} (h : nx ≤ L) : TKV B L (s_adv B L nx) := by
  have hw := s_ws_b B (L - nx) nx
  unfold s_adv s_advB
  generalize s_ws B (L - nx) nx = i at hw
  by_cases c : i < L
  · rw [if_pos c]
    by_cases c1 : 97 ≤ B i ∧ B i ≤ 122
    · rw [if_pos c1]
      have := s_run_b 97 122 B (L - i) i
      exact ⟨this.1, by show s_run 97 122 B (L - i) i ≤ L; omega, by show 1 ≤ 6; decide, fun e => absurd e (by show ¬ 1 = 2; decide), fun e => absurd e (by show ¬ 3 ≤ 1; decide)⟩
    · rw [if_neg c1]
      by_cases c2 : 48 ≤ B i ∧ B i ≤ 57
      · rw [if_pos c2]
        have := s_run_b 48 57 B (L - i) i
        exact ⟨this.1, by show s_run 48 57 B (L - i) i ≤ L; omega, by show 2 ≤ 6; decide, fun _ => this.2.2, fun e => absurd e (by show ¬ 3 ≤ 2; decide)⟩
      · rw [if_neg c2]
        have := s_sgn_b (B i)
        exact ⟨by show i ≤ i + 1; omega, by show i + 1 ≤ L; omega, this.2, fun e => absurd e (by show ¬ s_sgn (B i) = 2; omega), fun _ => ⟨c, rfl⟩⟩
  · rw [if_neg c]
    exact ⟨Nat.le_refl _, by show i ≤ L; omega, by show 0 ≤ 6; decide, fun e => absurd e (by show ¬ 0 = 2; decide), fun e => absurd e (by show ¬ 3 ≤ 0; decide)⟩
/-! bytes compared -/
theorem BR.eq {c m k : Int32} (h : BR c m) (h0 : 0 ≤ k.toInt) (h1 : k.toInt < 128) : c = k ↔ m = k := by
  rcases h with ⟨a, b, e⟩ | ⟨a, b, e⟩
  · rw [e]
  · rw [i_eq, i_eq]; omega
theorem BR.rng {c m lo hi : Int32} (h : BR c m) (h0 : 0 ≤ lo.toInt) (h1 : hi.toInt < 128) : (lo ≤ c ∧ c ≤ hi) ↔ (lo ≤ m ∧ m ≤ hi) := by
  rcases h with ⟨a, b, e⟩ | ⟨a, b, e⟩
  · rw [e]
  · rw [i_le, i_le, i_le, i_le]; omega
section TC
variable {V : Nat → Nat} {g f0 : GH} {t bl L : Nat} {kd st nx : Int32} {bs B : Nat → Int32}
theorem C_adv_ws (hb : L ≤ 700) (hB : ∀ i, i < L → BR (bs i) (B i)) (K : Nat → GH → Option GH) : ∀ (d N i : Nat), i + d = L → d < N → p_X5_advance_l0 V g K N t (tH t (nn bl) (nn L) kd st (nn i) bs f0) = K t (tH t (nn bl) (nn L) kd st (nn (s_ws B d i)) bs f0) := by
  intro d
  induction d with
  | zero =>
    intro N i he hN
    obtain ⟨N, rfl⟩ : ∃ M, N = M + 1 := ⟨N - 1, by omega⟩
    rw [p_X5_advance_l0, k_nx, ob_s, k_len, ob_s, if_pos (by rw [nn_le (by omega) (by omega)]; omega), s_ws]
  | succ d ih =>
    intro N i he hN
    obtain ⟨N, rfl⟩ : ∃ M, N = M + 1 := ⟨N - 1, by omega⟩
    have hbi := hB i (by omega)
    rw [p_X5_advance_l0, k_nx, ob_s, k_len, ob_s, if_neg (by rw [nn_le (by omega) (by omega)]; omega), k_by, ob_s, ob_s, k_li (by omega), ob_s, s_ws]
    by_cases c1 : B i = 32
    · rw [if_pos ((hbi.eq (by decide) (by decide)).mpr c1), if_pos (Or.inl c1), ob_s, nn_s, k_pnx, ob_s]
      exact ih N (i + 1) (by omega) (by omega)
    · rw [if_neg (fun e => c1 ((hbi.eq (by decide) (by decide)).mp e)), ob_s, ob_s, k_li (by omega), ob_s]
      by_cases c2 : B i = 10
      · rw [if_pos ((hbi.eq (by decide) (by decide)).mpr c2), if_pos (Or.inr c2), ob_s, nn_s, k_pnx, ob_s]
        exact ih N (i + 1) (by omega) (by omega)
      · rw [if_neg (fun e => c2 ((hbi.eq (by decide) (by decide)).mp e)), if_neg (fun e => e.elim c1 c2)]
theorem C_run_l (hb : L ≤ 700) (hB : ∀ i, i < L → BR (bs i) (B i)) {lo hi : Int32} (h0 : 0 ≤ lo.toInt) (h1 : hi.toInt < 128) (K : Int32 → Option Int32) : ∀ (d N i : Nat), i + d = L → d < N → p_X5_endOfRun_l5 V g (tH t (nn bl) (nn L) kd st nx bs f0) K N t lo hi (nn i) = K (nn (s_run lo hi B d i)) := by
  intro d
  induction d with
  | zero =>
    intro N i he hN
    obtain ⟨N, rfl⟩ : ∃ M, N = M + 1 := ⟨N - 1, by omega⟩
    rw [p_X5_endOfRun_l5, k_len, ob_s, if_pos (by rw [nn_le (by omega) (by omega)]; omega), s_run]
  | succ d ih =>
    intro N i he hN
    obtain ⟨N, rfl⟩ : ∃ M, N = M + 1 := ⟨N - 1, by omega⟩
    have hbi := (hB i (by omega)).rng h0 h1
    rw [p_X5_endOfRun_l5, k_len, ob_s, if_neg (by rw [nn_le (by omega) (by omega)]; omega), k_by, ob_s, k_li (by omega), ob_s, s_run]
    by_cases c : lo ≤ B i ∧ B i ≤ hi
    · have c2 := hbi.mpr c
      rw [if_pos c, if_neg (i_not_lt.mpr c2.1), ob_s, k_li (by omega), ob_s, if_neg (i_not_lt.mpr c2.2), nn_s]
      exact ih N (i + 1) (by omega) (by omega)
    · rw [if_neg c]
      by_cases c3 : bs i < lo
      · rw [if_pos c3]
      · rw [if_neg c3, ob_s, k_li (by omega), ob_s, if_pos]
        refine Classical.byContradiction fun h => c (hbi.mp ⟨i_not_lt.mp c3, i_not_lt.mp h⟩)
theorem C_run {i : Nat} (hb : L ≤ 700) (hB : ∀ i, i < L → BR (bs i) (B i)) {lo hi : Int32} (h0 : 0 ≤ lo.toInt) (h1 : hi.toInt < 128) (hi2 : i ≤ L) : p_X5_endOfRun V g (tH t (nn bl) (nn L) kd (nn i) nx bs f0) t lo hi = some (nn (s_run lo hi B (L - i) i)) := by
  unfold p_X5_endOfRun
  rw [k_me, k_st, ob_s]
  exact C_run_l hb hB h0 h1 _ (L - i) FU i (by omega) (by unfold FU; omega)
theorem C_sign {c mm : Int32} (f : GH) (h : BR c mm) : p_X5_kindOfSign V g f c = some (nn (s_sgn mm)) := by
  unfold p_X5_kindOfSign s_sgn
  by_cases c1 : mm = 59
  · rw [if_pos c1, if_pos ((h.eq (by decide) (by decide)).mpr c1)]; rfl
  · rw [if_neg c1, if_neg (fun e => c1 ((h.eq (by decide) (by decide)).mp e))]
    by_cases c2 : mm = 44
    · rw [if_pos c2, if_pos ((h.eq (by decide) (by decide)).mpr c2)]; rfl
    · rw [if_neg c2, if_neg (fun e => c2 ((h.eq (by decide) (by decide)).mp e))]
      by_cases c3 : mm = 45
      · rw [if_pos c3, if_pos ((h.eq (by decide) (by decide)).mpr c3)]; rfl
      · rw [if_neg c3, if_neg (fun e => c3 ((h.eq (by decide) (by decide)).mp e))]; rfl
theorem C_adv {i : Nat} (hb : L ≤ 700) (hB : ∀ i, i < L → BR (bs i) (B i)) (hi : i ≤ L) : p_X5_advance V g (tH t (nn bl) (nn L) kd st (nn i) bs f0) t = some (tH t (nn bl) (nn L) (nn (kD (s_adv B L i))) (nn (kS (s_adv B L i))) (nn (kN (s_adv B L i))) bs f0) := by
  have hw := s_ws_b B (L - i) i
  unfold p_X5_advance
  rw [k_me]
  refine (C_adv_ws hb hB _ (L - i) FU i (by omega) (by unfold FU; omega)).trans ?_
  unfold s_adv
  generalize s_ws B (L - i) i = j at hw
  rw [k_nx, ob_s, k_pst, ob_s, k_nx, ob_s, k_len, ob_s]
  unfold s_advB
  by_cases c : j < L
  · have hbj := hB j c
    rw [if_pos (by rw [nn_lt (by omega) (by omega)]; exact c), if_pos c, k_by, ob_s, ob_s, k_li (by omega), ob_s]
    have h127 : ¬ (97 ≤ B j ∧ B j ≤ 122) → p_X5_advance_j127 V g t (tH t (nn bl) (nn L) kd (nn j) (nn j) bs f0) = some (tH t (nn bl) (nn L) (nn (kD (if 97 ≤ B j ∧ B j ≤ 122 then ((1, j, s_run 97 122 B (L - j) j) : TK) else if 48 ≤ B j ∧ B j ≤ 57 then (2, j, s_run 48 57 B (L - j) j) else (s_sgn (B j), j, j + 1)))) (nn (kS (if 97 ≤ B j ∧ B j ≤ 122 then ((1, j, s_run 97 122 B (L - j) j) : TK) else if 48 ≤ B j ∧ B j ≤ 57 then (2, j, s_run 48 57 B (L - j) j) else (s_sgn (B j), j, j + 1)))) (nn (kN (if 97 ≤ B j ∧ B j ≤ 122 then ((1, j, s_run 97 122 B (L - j) j) : TK) else if 48 ≤ B j ∧ B j ≤ 57 then (2, j, s_run 48 57 B (L - j) j) else (s_sgn (B j), j, j + 1)))) bs f0) := by
      intro n1
      simp only [if_neg n1]
      have h175 : ¬ (48 ≤ B j ∧ B j ≤ 57) → p_X5_advance_j175 V g t (tH t (nn bl) (nn L) kd (nn j) (nn j) bs f0) = some (tH t (nn bl) (nn L) (nn (s_sgn (B j))) (nn j) (nn (j + 1)) bs f0) := by
        intro n2
        unfold p_X5_advance_j175
        rw [k_by, ob_s, k_nx, ob_s, k_li (by omega), ob_s, C_sign _ hbj, ob_s, k_pkd, ob_s, k_nx, ob_s, nn_s, k_pnx, ob_s]
      have hr := hbj.rng (lo := 48) (hi := 57) (by decide) (by decide)
      unfold p_X5_advance_j127
      rw [k_by, ob_s, k_nx, ob_s, k_li (by omega), ob_s]
      by_cases n2 : 48 ≤ B j ∧ B j ≤ 57
      · have n3 := hr.mpr n2
        simp only [if_pos n2]
        rw [if_neg (i_not_lt.mpr n3.1), ob_s, ob_s, k_li (by omega), ob_s, if_neg (i_not_lt.mpr n3.2), k_pkd, ob_s, C_run hb hB (by decide) (by decide) (by omega), ob_s, k_pnx, ob_s]
        rfl
      · simp only [if_neg n2]
        by_cases n4 : bs j < 48
        · rw [if_pos n4, h175 n2]; rfl
        · rw [if_neg n4, ob_s, ob_s, k_li (by omega), ob_s, if_pos (Classical.byContradiction fun h => n2 (hr.mp ⟨i_not_lt.mp n4, i_not_lt.mp h⟩)), h175 n2]; rfl
    have hr := hbj.rng (lo := 97) (hi := 122) (by decide) (by decide)
    by_cases n1 : 97 ≤ B j ∧ B j ≤ 122
    · have n3 := hr.mpr n1
      simp only [if_pos n1]
      rw [if_neg (i_not_lt.mpr n3.1), ob_s, ob_s, k_li (by omega), ob_s, if_neg (i_not_lt.mpr n3.2), k_pkd, ob_s, C_run hb hB (by decide) (by decide) (by omega), ob_s, k_pnx, ob_s]
      rfl
    · by_cases n4 : bs j < 97
      · rw [if_pos n4]; exact h127 n1
      · rw [if_neg n4, ob_s, ob_s, k_li (by omega), ob_s, if_pos (Classical.byContradiction fun h => n1 (hr.mp ⟨i_not_lt.mp n4, i_not_lt.mp h⟩))]; exact h127 n1
  · rw [if_neg (by rw [nn_lt (by omega) (by omega)]; exact c), if_neg c, k_pkd, ob_s]
    rfl
end TC
/-! the reference's scanner -/
section TM2
variable {V : Nat → Nat} {g f0 : GH} {m b L : Nat} {z : Nat → Int32} {A : Nat → Nat → Int32}
/-- the reference's token -/
def MT (z : Nat → Int32) (t : TK) : Prop := z 15 = nn (kN t) ∧ z 16 = nn (kS t) ∧ z 17 = nn (min (kD t) 3)
def eqx (z z1 : Nat → Int32) : Prop := ∀ k, k ≠ 15 → k ≠ 16 → k ≠ 17 → k ≠ 18 → k ≠ 19 → z1 k = z k
end TM2


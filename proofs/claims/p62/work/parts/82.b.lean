/-! ===== all that there is, as an array ===== -/
def psum (T : TS) : Nat → Nat
  | 0 => 0
  | i + 1 => psum T i + cN (tC T i)
def off (T : TS) (i : Nat) : Nat := 5 + 2 * i + 2 * psum T i
theorem off_s (T : TS) (i : Nat) : off T (i + 1) = off T i + 2 + 2 * cN (tC T i) := by
  unfold off
  rw [show psum T (i + 1) = psum T i + cN (tC T i) from rfl]
  omega
theorem off_le (T : TS) {i j : Nat} (h : i ≤ j) : off T i ≤ off T j := by
  induction j with
  | zero => rw [show i = 0 by omega]; exact Nat.le_refl _
  | succ j ih =>
    by_cases e : i = j + 1
    · rw [e]; exact Nat.le_refl _
    · have := ih (by omega)
      rw [off_s]
      omega
theorem off_5 (T : TS) (i : Nat) : 5 ≤ off T i := by unfold off; omega
theorem psum_b {T : TS} (hv : TV T) : ∀ i, i ≤ tN T → psum T i ≤ 129 * i := by
  intro i
  induction i with
  | zero => intro _; exact Nat.le_refl _
  | succ i ih =>
    intro h
    have h1 := ih (by omega)
    have h2 := (hv.2.2 i (by omega)).n2
    rw [show psum T (i + 1) = psum T i + cN (tC T i) from rfl]
    omega
def aL (T : TS) : Nat := off T (tN T)
theorem aL_b {T : TS} (hv : TV T) : aL T ≤ 1565 := by
  have h1 := psum_b hv (tN T) (Nat.le_refl _)
  have h2 := hv.1
  unfold aL off
  omega
def BO (r : Nat → Int32) (o : Nat) (c : CS) (m : Nat) : Prop := r o = cI c ∧ r (o + 1) = nn (cN c) ∧ ∀ k, k < m → r (o + 2 + 2 * k) = cX c k ∧ r (o + 3 + 2 * k) = cY c k
def AP (T : TS) (r : Nat → Int32) (i : Nat) : Prop := r 0 = nn (tN T) ∧ r 1 = tK T ∧ r 2 = tL T ∧ r 3 = tA T ∧ r 4 = tR T ∧ ∀ i', i' < i → BO r (off T i') (tC T i') (cN (tC T i'))
def AA (f : GH) (a : Nat) (T : TS) : Prop := ∃ r, f a = some (.inl (0, aL T, .inl r)) ∧ AP T r (tN T)
theorem BO.upd {r : Nat → Int32} {o m : Nat} {c : CS} (h : BO r o c m) {j : Nat} (hj : o + 2 + 2 * m ≤ j) (v : Int32) : BO (upd r j v) o c m := by
  obtain ⟨h1, h2, h3⟩ := h
  refine ⟨by rw [upd_n _ _ (by omega)]; exact h1, by rw [upd_n _ _ (by omega)]; exact h2, fun k hk => ?_⟩
  rw [upd_n _ _ (by omega), upd_n _ _ (by omega)]
  exact h3 k hk
theorem AP.upd {T : TS} {r : Nat → Int32} {i : Nat} (h : AP T r i) {j : Nat} (hj : off T i ≤ j) (v : Int32) : AP T (upd r j v) i := by
  have h5 := off_5 T i
  obtain ⟨h0, h1, h2, h3, h4, hb⟩ := h
  refine ⟨by rw [upd_n _ _ (by omega)]; exact h0, by rw [upd_n _ _ (by omega)]; exact h1, by rw [upd_n _ _ (by omega)]; exact h2, by rw [upd_n _ _ (by omega)]; exact h3, by rw [upd_n _ _ (by omega)]; exact h4, fun i' hi => ?_⟩
  have q1 := off_le T (show i' + 1 ≤ i by omega)
  rw [off_s] at q1
  exact (hb i' hi).upd (by omega) v
def aH (f : GH) (n L : Nat) (r : Nat → Int32) : GH := h_up f n (.inl (0, L, .inl r))
theorem aH_s {f : GH} {n L i : Nat} {r : Nat → Int32} (hi : i < L) (hL : L ≤ 1600) (v : Int32) : h_si (aH f n L r) n 0 (nn i) v = some (aH f n L (upd r i v)) := by
  unfold aH
  rw [hsi_of (h_up_s _ _ _) hi (by omega), up_up]
section AL
variable {V : Nat → Nat} {g f : GH} {x n : Nat} {T : TS}
theorem L_all9 (J : JR f x T) (m : Nat) (K : Nat → Int32 → Int32 → GH → Nat → Option (Nat × GH × Nat)) : ∀ (d N i : Nat), i + d = tN T → d < N → p_L_all_l9 V g K N x (nn (tN T)) (nn (psum T i)) (nn i) f m = K x (nn (tN T)) (nn (psum T (tN T))) f m := by
  obtain ⟨hs, pc, pn, X, C, hv⟩ := id J
  have h6 := hv.1
  intro d
  induction d with
  | zero =>
    intro N i he hN
    obtain ⟨N, rfl⟩ : ∃ M, N = M + 1 := ⟨N - 1, by omega⟩
    rw [p_L_all_l9, if_pos (by rw [nn_le (by omega) (by omega)]; omega), show i = tN T by omega]
  | succ d ih =>
    intro N i he hN
    obtain ⟨N, rfl⟩ : ∃ M, N = M + 1 := ⟨N - 1, by omega⟩
    rw [p_L_all_l9, if_neg (by rw [nn_le (by omega) (by omega)]; omega), R_cnt J (by omega), ob_s, nn_add, nn_s]
    exact ih N (i + 1) (by omega) (by omega)
theorem L_all149 (J : JR f x T) (hn : x + 21 ≤ n) (m : Nat) {i : Nat} (hi : i < tN T) (K : Nat → Int32 → Nat → Int32 → Int32 → GH → Nat → Option (Nat × GH × Nat)) : ∀ (d N k : Nat) (r : Nat → Int32), k + d = cN (tC T i) → d < N → AP T r i → BO r (off T i) (tC T i) k →
    ∃ r1, p_L_all_l149 V g K N x (nn (tN T)) n (nn (off T i + 2 + 2 * k)) (nn i) (nn k) (aH f n (aL T) r) m = K x (nn (tN T)) n (nn (off T (i + 1))) (nn i) (aH f n (aL T) r1) m ∧ AP T r1 i ∧ BO r1 (off T i) (tC T i) (cN (tC T i)) := by
  obtain ⟨hs, pc, pn, X, C, hv⟩ := id J
  have h6 := hv.1
  have cv := hv.2.2 i hi
  have n2 := cv.n2
  have hL := aL_b hv
  have hoff := off_s T i
  have hoL : off T (i + 1) ≤ aL T := off_le T (by omega)
  have hJ : ∀ r, JR (aH f n (aL T) r) x T := fun r => J.frame (fun a h1 h2 => h_up_n f _ (by omega))
  intro d
  induction d with
  | zero =>
    intro N k r he hN hA hB
    obtain ⟨N, rfl⟩ : ∃ M, N = M + 1 := ⟨N - 1, by omega⟩
    refine ⟨r, ?_, hA, by rw [show cN (tC T i) = k by omega]; exact hB⟩
    rw [p_L_all_l149, R_cnt (hJ r) hi, ob_s, if_pos (by rw [nn_le (by omega) (by omega)]; omega), show off T i + 2 + 2 * k = off T (i + 1) by omega]
  | succ d ih =>
    intro N k r he hN hA hB
    obtain ⟨N, rfl⟩ : ∃ M, N = M + 1 := ⟨N - 1, by omega⟩
    have hk : k < cN (tC T i) := by omega
    have hB2 : BO (upd (upd r (off T i + 2 + 2 * k) (cX (tC T i) k)) (off T i + 2 + 2 * k + 1) (cY (tC T i) k)) (off T i) (tC T i) (k + 1) := by
      obtain ⟨b1, b2, b3⟩ := hB
      refine ⟨by rw [upd_n _ _ (by omega), upd_n _ _ (by omega)]; exact b1, by rw [upd_n _ _ (by omega), upd_n _ _ (by omega)]; exact b2, fun j hj => ?_⟩
      by_cases e : j = k
      · rw [e, upd_n _ _ (by omega), upd_s, show off T i + 3 + 2 * k = off T i + 2 + 2 * k + 1 by omega, upd_s]
        exact ⟨rfl, rfl⟩
      · rw [upd_n _ _ (by omega), upd_n _ _ (by omega), upd_n _ _ (by omega), upd_n _ _ (by omega)]
        exact b3 j (by omega)
    obtain ⟨r1, e1, e2, e3⟩ := ih N (k + 1) _ (by omega) (by omega) ((hA.upd (j := off T i + 2 + 2 * k) (by omega) (cX (tC T i) k)).upd (j := off T i + 2 + 2 * k + 1) (by omega) (cY (tC T i) k)) hB2
    refine ⟨r1, ?_, e2, e3⟩
    rw [p_L_all_l149, R_cnt (hJ r) hi, ob_s, if_neg (by rw [nn_le (by omega) (by omega)]; omega), R_px (hJ r) hi hk, ob_s, aH_s (by omega) (by omega), ob_s, R_py (hJ _) hi hk, ob_s, nn_s, aH_s (by omega) (by omega), ob_s, nn_s, nn_s, show off T i + 2 + 2 * k + 1 + 1 = off T i + 2 + 2 * (k + 1) by omega]
    exact e1
theorem L_all132 (J : JR f x T) (hn : x + 21 ≤ n) (m : Nat) {i : Nat} (hi : i < tN T) (K : Nat → Int32 → Nat → Int32 → Int32 → GH → Nat → Option (Nat × GH × Nat)) {r : Nat → Int32} (hA : AP T r i) :
    ∃ r1, p_L_all_j132 V g K x (nn (tN T)) n (nn (off T i + 1)) (nn i) (cI (tC T i)) (nn (off T i)) n (aH f n (aL T) r) m = K x (nn (tN T)) n (nn (off T (i + 1))) (nn (i + 1)) (aH f n (aL T) r1) m ∧ AP T r1 (i + 1) := by
  obtain ⟨hs, pc, pn, X, C, hv⟩ := id J
  have hL := aL_b hv
  have hoff := off_s T i
  have hoL : off T (i + 1) ≤ aL T := off_le T (by omega)
  have hJ : ∀ r, JR (aH f n (aL T) r) x T := fun r => J.frame (fun a h1 h2 => h_up_n f _ (by omega))
  have n2 := (hv.2.2 i hi).n2
  obtain ⟨r1, e1, e2, e3⟩ := L_all149 (V := V) (g := g) J hn m hi (fun x0 x1 x3 x4 x5 f n => K x0 x1 x3 x4 (x5 + (1 : Int32)) f n) (cN (tC T i)) FU 0 (upd (upd r (off T i) (cI (tC T i))) (off T i + 1) (nn (cN (tC T i)))) (by omega) (by unfold FU; omega) ((hA.upd (by omega) _).upd (by omega) _) ⟨by rw [upd_n _ _ (by omega), upd_s], upd_s _ _ _, fun k hk => absurd hk (by omega)⟩
  refine ⟨r1, ?_, ?_⟩
  · unfold p_L_all_j132
    rw [aH_s (by omega) (by omega), ob_s, R_cnt (hJ _) hi, ob_s, aH_s (by omega) (by omega), ob_s, nn_s]
    refine Eq.trans e1 ?_
    rw [nn_s]
  · obtain ⟨q0, q1, q2, q3, q4, q5⟩ := e2
    refine ⟨q0, q1, q2, q3, q4, fun i' hi' => ?_⟩
    by_cases e : i' = i
    · rw [e]; exact e3
    · exact q5 i' (by omega)
theorem L_all106 (J : JR f x T) (hn : x + 21 ≤ n) (m : Nat) (K : Nat → GH → Nat → Option (Nat × GH × Nat)) : ∀ (d N i : Nat) (r : Nat → Int32), i + d = tN T → d < N → AP T r i →
    ∃ r1, p_L_all_l106 V g K N x (nn (tN T)) n (nn (off T i)) (nn i) (aH f n (aL T) r) m = K n (aH f n (aL T) r1) m ∧ AP T r1 (tN T) := by
  obtain ⟨hs, pc, pn, X, C, hv⟩ := id J
  have h6 := hv.1
  have hJ : ∀ r, JR (aH f n (aL T) r) x T := fun r => J.frame (fun a h1 h2 => h_up_n f _ (by omega))
  intro d
  induction d with
  | zero =>
    intro N i r he hN hA
    obtain ⟨N, rfl⟩ : ∃ M, N = M + 1 := ⟨N - 1, by omega⟩
    refine ⟨r, ?_, by rw [show tN T = i by omega]; exact hA⟩
    rw [p_L_all_l106, if_pos (by rw [nn_le (by omega) (by omega)]; omega)]
  | succ d ih =>
    intro N i r he hN hA
    obtain ⟨N, rfl⟩ : ∃ M, N = M + 1 := ⟨N - 1, by omega⟩
    have hi : i < tN T := by omega
    obtain ⟨r1, e1, e2⟩ := L_all132 (V := V) (g := g) J hn m hi (p_L_all_l106 V g K N) hA
    obtain ⟨r2, e3, e4⟩ := ih N (i + 1) r1 (by omega) (by omega) e2
    refine ⟨r2, ?_, e4⟩
    rw [p_L_all_l106, if_neg (by rw [nn_le (by omega) (by omega)]; omega), R_isl (hJ r) hi, ob_s, nn_s]
    rcases (hv.2.2 i hi).i01 with q | q
    · rw [q] at e1
      rw [q, if_pos rfl, e1, e3]
    · rw [q] at e1
      rw [q, if_neg (by decide), e1, e3]
theorem L_all (J : JR f x T) (hn : x + 21 ≤ n) : ∃ f1, p_L_all V g f n x = some (n, f1, n + 1) ∧ AA f1 n T ∧ ∀ a, a ≠ n → f1 a = f a := by
  obtain ⟨hs, pc, pn, X, C, hv⟩ := id J
  have h6 := hv.1
  have hL := aL_b hv
  have h5 := off_5 T (tN T)
  have h5 : 5 ≤ aL T := h5
  have hJ : ∀ r, JR (aH f n (aL T) r) x T := fun r => J.frame (fun a h1 h2 => h_up_n f _ (by omega))
  have hlen : ((5 : Int32) + ((2 : Int32) * nn (tN T))) + ((2 : Int32) * nn (psum T (tN T))) = nn (aL T) := by
    rw [nn_d, nn_d, n_5, nn_add, nn_add]
    rfl
  have hnv : h_nv f n 0 (nn (aL T)) 1600 = some (aH f n (aL T) (fun _ => 0)) := by
    unfold h_nv aH
    rw [nn_c (by omega), if_pos ⟨nn_nl _ (by omega), by omega⟩]
  have h69 : ∃ f1, p_L_all_j69 V g x (nn (tN T)) n (nn 2) (tK T) (nn 1) n (aH f n (aL T) (upd (fun _ => 0) 0 (nn (tN T)))) (n + 1) = some (n, f1, n + 1) ∧ AA f1 n T ∧ ∀ a, a ≠ n → f1 a = f a := by
    obtain ⟨r1, e1, e2⟩ := L_all106 (V := V) (g := g) J hn (n + 1) (fun x3 f n => some (x3, f, n)) (tN T) FU 0 (upd (upd (upd (upd (upd (fun _ => 0) 0 (nn (tN T))) 1 (tK T)) 2 (tL T)) 3 (tA T)) 4 (tR T)) (by omega) (by unfold FU; omega) ⟨rfl, rfl, rfl, rfl, rfl, fun i' h => absurd h (by omega)⟩
    refine ⟨_, ?_, ⟨r1, h_up_s _ _ _, e2⟩, fun a ha => h_up_n f _ ha⟩
    unfold p_L_all_j69
    rw [aH_s (by omega) (by omega), ob_s, R_lo (hJ _), ob_s, aH_s (by omega) (by omega), ob_s, R_ad (hJ _), ob_s, nn_s, aH_s (by omega) (by omega), ob_s, R_re (hJ _), ob_s, nn_s, aH_s (by omega) (by omega), ob_s, nn_s]
    exact e1
  obtain ⟨f1, e1, e2, e3⟩ := h69
  refine ⟨f1, ?_, e2, e3⟩
  unfold p_L_all
  rw [R_n J, ob_s, show p_L_all_l9 V g _ FU x (nn (tN T)) (0 : Int32) (0 : Int32) f n = _ from L_all9 J n _ (tN T) FU 0 (by omega) (by unfold FU; omega)]
  rw [hlen, hnv, ob_s, show h_si (aH f n (aL T) (fun _ => 0)) n 0 (0 : Int32) (nn (tN T)) = _ from aH_s (i := 0) (by omega) (by omega) _, ob_s, R_k (hJ _), ob_s]
  rcases hv.2.1 with q | q
  · rw [q] at e1
    rw [q, if_pos rfl]
    exact e1
  · rw [q] at e1
    rw [q, if_neg (by decide)]
    exact e1
/-! the same twice -/
def CE (c e : CS) : Prop := cI c = cI e ∧ cN c = cN e ∧ ∀ k, k < cN c → cX c k = cX e k ∧ cY c k = cY e k
def TE (T U : TS) : Prop := tN T = tN U ∧ tK T = tK U ∧ tL T = tL U ∧ tA T = tA U ∧ tR T = tR U ∧ ∀ i, i < tN T → CE (tC T i) (tC U i)
theorem CE.rf (c : CS) : CE c c := ⟨rfl, rfl, fun _ _ => ⟨rfl, rfl⟩⟩
theorem TE.rf (T : TS) : TE T T := ⟨rfl, rfl, rfl, rfl, rfl, fun _ _ => CE.rf _⟩
theorem off_TE {T U : TS} (h : TE T U) : ∀ i, i ≤ tN T → off T i = off U i := by
  intro i
  induction i with
  | zero => intro _; rfl
  | succ i ih =>
    intro hi
    rw [off_s, off_s, ih (by omega), (h.2.2.2.2.2 i (by omega)).2.1]
theorem off_cov (T : TS) : ∀ n j, j < off T n → j < 5 ∨ ∃ i, i < n ∧ off T i ≤ j ∧ j < off T (i + 1) := by
  intro n
  induction n with
  | zero => intro j hj; exact Or.inl hj
  | succ n ih =>
    intro j hj
    by_cases c : j < off T n
    · rcases ih j c with h | ⟨i, h1, h2, h3⟩
      · exact Or.inl h
      · exact Or.inr ⟨i, by omega, h2, h3⟩
    · exact Or.inr ⟨n, by omega, by omega, hj⟩
theorem AP_eq {T U : TS} {r s : Nat → Int32} (h : TE T U) (hr : AP T r (tN T)) (hs : AP U s (tN U)) : ∀ j, j < aL T → r j = s j := by
  intro j hj
  obtain ⟨a0, a1, a2, a3, a4, ab⟩ := hr
  obtain ⟨b0, b1, b2, b3, b4, bb⟩ := hs
  obtain ⟨t0, t1, t2, t3, t4, tb⟩ := h
  rcases off_cov T (tN T) j hj with q | ⟨i, h1, h2, h3⟩
  · have : j = 0 ∨ j = 1 ∨ j = 2 ∨ j = 3 ∨ j = 4 := by omega
    rcases this with rfl | rfl | rfl | rfl | rfl
    · rw [a0, b0, t0]
    · rw [a1, b1, t1]
    · rw [a2, b2, t2]
    · rw [a3, b3, t3]
    · rw [a4, b4, t4]
  · have hA := ab i h1
    have hB := bb i (by omega)
    have hC := tb i h1
    rw [← off_TE ⟨t0, t1, t2, t3, t4, tb⟩ i (by omega)] at hB
    rw [off_s] at h3
    generalize off T i = o at hA hB h2 h3
    by_cases e0 : j = o
    · rw [e0, hA.1, hB.1, hC.1]
    · by_cases e1 : j = o + 1
      · rw [e1, hA.2.1, hB.2.1, hC.2.1]
      · have hk : (j - o - 2) / 2 < cN (tC T i) := by omega
        have q1 := hA.2.2 _ hk
        have q2 := hB.2.2 _ (show (j - o - 2) / 2 < cN (tC U i) by rw [← hC.2.1]; exact hk)
        have q3 := hC.2.2 _ hk
        by_cases e2 : (j - o) % 2 = 0
        · rw [show j = o + 2 + 2 * ((j - o - 2) / 2) by omega, q1.1, q2.1, q3.1]
        · rw [show j = o + 3 + 2 * ((j - o - 2) / 2) by omega, q1.2, q2.2, q3.2]
theorem L_alike {a b : Nat} {U : TS} (hA : AA f a T) (hB : AA f b U) (hE : TE T U) (hv : TV T) : p_L_alike V g f a b = some (1 : Int32) := by
  obtain ⟨r, r1, r2⟩ := hA
  obtain ⟨s, s1, s2⟩ := hB
  have hLe : aL T = aL U := by
    unfold aL
    rw [off_TE hE (tN T) (Nat.le_refl _), hE.1]
  have hL := aL_b hv
  have heq := AP_eq hE r2 s2
  have key : ∀ (K26 K34 : Option Int32) (d N i : Nat), i + d = aL T → d < N → p_L_alike_l11 V g f K26 K34 N a b (nn i) = K34 := by
    intro K26 K34 d
    induction d with
    | zero =>
      intro N i he hN
      obtain ⟨N, rfl⟩ : ∃ M, N = M + 1 := ⟨N - 1, by omega⟩
      rw [p_L_alike_l11, hal_of r1, ob_s]
      dsimp only
      rw [if_pos (by rw [nn_le (by omega) (by omega)]; omega)]
    | succ d ih =>
      intro N i he hN
      obtain ⟨N, rfl⟩ : ∃ M, N = M + 1 := ⟨N - 1, by omega⟩
      rw [p_L_alike_l11, hal_of r1, ob_s]
      dsimp only
      rw [if_neg (by rw [nn_le (by omega) (by omega)]; omega), hli_of r1 (by omega) (by omega), ob_s, hli_of s1 (by omega) (by omega), ob_s, if_pos (heq i (by omega)), nn_s]
      exact ih N (i + 1) (by omega) (by omega)
  unfold p_L_alike
  rw [hal_of r1, ob_s, hal_of s1, ob_s]
  dsimp only
  rw [if_pos (by rw [hLe])]
  exact key _ _ (aL T) FU 0 (by omega) (by unfold FU; omega)
theorem L_at {a k i : Nat} (hA : AA f a T) (hv : TV T) (hk : k < tN T) (hi : i < cN (tC T k)) : p_L_at V g f a (nn k) (nn i) = some (nn (off T k + 2 + 2 * i)) := by
  obtain ⟨r, r1, r2⟩ := hA
  have hL := aL_b hv
  have h6 := hv.1
  have key : ∀ (K29 : Int32 → Int32 → Option Int32) (d N j : Nat), j + d = k → d < N → p_L_at_l5 V g f K29 N a (nn k) (nn i) (nn (off T j)) (nn j) = K29 (nn i) (nn (off T k)) := by
    intro K29 d
    induction d with
    | zero =>
      intro N j he hN
      obtain ⟨N, rfl⟩ : ∃ M, N = M + 1 := ⟨N - 1, by omega⟩
      rw [p_L_at_l5, if_pos (by rw [nn_le (by omega) (by omega)]; omega), show j = k by omega]
    | succ d ih =>
      intro N j he hN
      obtain ⟨N, rfl⟩ : ∃ M, N = M + 1 := ⟨N - 1, by omega⟩
      have h1 : off T (j + 1) ≤ aL T := off_le T (by omega)
      have h2 := off_s T j
      rw [p_L_at_l5, if_neg (by rw [nn_le (by omega) (by omega)]; omega), nn_s, hli_of r1 (by omega) (by omega), ob_s, (r2.2.2.2.2.2 j (by omega)).2.1, nn_d, n_2, nn_add, nn_add, nn_s, show off T j + (2 + 2 * cN (tC T j)) = off T (j + 1) by omega]
      exact ih N (j + 1) (by omega) (by omega)
  unfold p_L_at
  rw [show p_L_at_l5 V g f _ FU a (nn k) (nn i) (5 : Int32) (0 : Int32) = _ from key _ k FU 0 (by omega) (by unfold FU; omega), nn_d, n_2, nn_add, nn_add]
end AL

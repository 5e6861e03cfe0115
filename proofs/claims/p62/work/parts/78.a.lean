/-! ===== changes: what a command asks of a map ===== -/
/-- a command's cell: its verb, coastline, point, two numbers, metric; its shape lies behind it -/
def CmA (f : GH) (q : Nat) (V : Nat → Nat) (v : Nat) (a p u w k : Int32) (c : CS) : Prop := f q = some (.inr (6, [.ref (V v), .int a, .int p, .int u, .int w, .int k, .ref (q + 1)])) ∧ CoA f (q + 1) 33 c
def s_hp (v : Nat) : Bool := v == 5 || v == 6 || v == 7
def s_lim (v : Nat) : Int32 := if v = 3 then 50 else if v = 5 ∨ v = 6 then 1000 else if v = 8 then 2000 else 0
def s_mayV (v : Nat) (c : CS) (u w : Int32) : Bool := match v with
  | 3 => decide (s_why c u = 0)
  | 4 => decide (s_need c ≤ (cN c + 1) / 2)
  | 6 => decide (cN c < 129)
  | 7 => decide (s_need c < cN c)
  | 8 => s_may c u w (cN c) 0
  | _ => true
def s_refC (v : Nat) (c : CS) (p u w : Int32) : Int32 :=
  if s_hp v = true ∧ inC (cN c + (if v = 6 then 1 else 0)) p = false then 1
  else if s_in (-(s_lim v)) (s_lim v) u = true then (if s_in (-(s_lim v)) (s_lim v) w = true then (if s_mayV v c u w = true then 0 else 3) else 2) else 2
/-- why a command is refused: 0 if it is not -/
def s_ref (v : Nat) (T : TS) (a p u w : Int32) : Int32 :=
  if v ≤ 2 then (if tN T < 6 then 0 else 3) else if v = 11 then 0 else if inC (tN T) a = true then s_refC v (tC T (ix a)) p u w else 1
def s_put (c : CS) (p : Nat) (u w : Int32) : CS := (cI c, cN c, upd (cX c) p u, upd (cY c) p w)
/-- the coastline behind a change -/
def s_nc (v : Nat) (c : CS) (p u w : Int32) : CS := match v with
  | 3 => s_fold c u
  | 4 => s_unf c
  | 5 => s_put c (ix p) u w
  | 6 => s_ins c (ix p) u w
  | 7 => s_cut c (ix p)
  | 8 => s_mv c u w
  | _ => s_rev c
def ts_set (T : TS) (i : Nat) (c : CS) : TS := (tN T, tK T, tL T, tA T + nn (cN c - cN (tC T i)), tR T + nn (cN (tC T i) - cN c), fun j => if j = i then c else tC T j)
def ts_rem (T : TS) (i : Nat) : TS := (tN T - 1, tK T, tL T, tA T, tR T + nn (cN (tC T i)), fun j => if j < i then tC T j else tC T (j + 1))
def ts_add (T : TS) (c : CS) : TS := (tN T + 1, tK T, tL T, tA T + nn (cN c), tR T, fun j => if j = tN T then c else tC T j)
def ts_met (T : TS) (k : Int32) : TS := (tN T, k, tL T, tA T, tR T, tC T)
def ts_do (v : Nat) (T : TS) (a p u w k : Int32) (c : CS) : TS :=
  if v ≤ 2 then ts_add T c else if v = 11 then ts_met T k else if v = 10 then ts_rem T (ix a) else ts_set T (ix a) (s_nc v (tC T (ix a)) p u w)
def s_ans (v : Nat) (T : TS) (a p u w : Int32) : Int32 :=
  if v ≤ 2 then nn (tN T) else if v = 11 then tK T else if v = 10 then nn (cN (tC T (ix a))) else if v = 5 then s_dist (tK T) (cX (tC T (ix a)) (ix p) - u) (cY (tC T (ix a)) (ix p) - w) else nn (cN (s_nc v (tC T (ix a)) p u w))
/-! the constants -/
section ST
variable {V : Nat → Nat} {g : GH}
theorem vl_ord : ∀ i, i < 11 → vl_ordinal.getD i 0 = nn i := by decide
theorem StOK.vb (S : StOK V g) {v : Nat} (h1 : 1 ≤ v) (h2 : v ≤ 11) : gO g (V v) = some (.inr (50, [.int (nn (v - 1)), .ref (V (vl_ws.getD (v - 1) 0)), .int (vl_isCoast.getD (v - 1) 0), .int (vl_hasPoint.getD (v - 1) 0), .int (vl_integers.getD (v - 1) 0), .int (vl_limit.getD (v - 1) 0)])) := by
  obtain ⟨i, rfl⟩ : ∃ i, v = 1 + i := ⟨v - 1, by omega⟩
  have h := S.1 i (by omega)
  rw [vl_ord i (by omega)] at h
  rw [show 1 + i - 1 = i by omega]
  exact h
theorem StOK.ne (S : StOK V g) {v w : Nat} (h1 : 1 ≤ v) (h2 : v ≤ 11) (h3 : 1 ≤ w) (h4 : w ≤ 11) (h : V v = V w) : v = w := by
  have a := S.vb h1 h2
  have b := S.vb h3 h4
  rw [h, b] at a
  have e := (Prod.mk.inj (Sum.inr.inj (Option.some.inj a))).2
  have e2 := Value.int.inj (List.cons.inj e).1
  rw [nn_eq (by omega) (by omega)] at e2
  omega
theorem StOK.sw (S : StOK V g) {v : Nat} (h1 : 1 ≤ v) (h2 : v ≤ 11) : h_li (gA g) (V 13) 0 (nn (v - 1)) = some (al_sw.getD (v - 1) 0) := by
  obtain ⟨r, q1, q2⟩ := S.2.2.1
  rw [hli_of q1 (by omega) (by omega), q2 _ (by omega)]
theorem StOK.or (S : StOK V g) (f : GH) {v : Nat} (h1 : 1 ≤ v) (h2 : v ≤ 11) : p_Jx29ce0_ordinal_8abf5 V g f (V v) = some (nn (v - 1)) := by
  unfold p_Jx29ce0_ordinal_8abf5
  rw [hme_of (S.vb h1 h2), hgi_of (S.vb h1 h2) rfl, ob_s]
theorem StOK.al (S : StOK V g) (f : GH) {v : Nat} (h1 : 1 ≤ v) (h2 : v ≤ 11) (y : Int32) : p_X6_allows V g f (V v) y = some (bz (s_in (-(s_lim v)) (s_lim v) y)) := by
  unfold p_X6_allows
  have hl : vl_limit.getD (v - 1) 0 = s_lim v := by
    have : ∀ i, i < 11 → vl_limit.getD i 0 = s_lim (i + 1) := by decide
    rw [this _ (by omega), show v - 1 + 1 = v by omega]
  rw [hme_of (S.vb h1 h2), hgi_of (S.vb h1 h2) rfl, ob_s, ob_s, hl]
  unfold s_in bz
  by_cases c1 : y < -(s_lim v)
  · rw [if_pos c1, if_neg (by simp [c1])]
  · by_cases c2 : s_lim v < y
    · rw [if_neg c1, if_pos c2, if_neg (by simp [c2])]
    · rw [if_neg c1, if_neg c2, if_pos (by simp [c1, c2])]
end ST
/-! the class's side -/
section CW
variable {V : Nat → Nat} {g f f1 : GH} {h q r v : Nat} {T : TS} {c c0 : CS} {a p u w k : Int32}
theorem CmA.gv (K : CmA f q V v a p u w k c0) : h_gr f q 6 0 = some (V v) := hgr_of K.1 rfl
theorem CmA.ga (K : CmA f q V v a p u w k c0) : h_gi f q 6 1 = some a := hgi_of K.1 rfl
theorem CmA.gp (K : CmA f q V v a p u w k c0) : h_gi f q 6 2 = some p := hgi_of K.1 rfl
theorem CmA.gu (K : CmA f q V v a p u w k c0) : h_gi f q 6 3 = some u := hgi_of K.1 rfl
theorem CmA.gw (K : CmA f q V v a p u w k c0) : h_gi f q 6 4 = some w := hgi_of K.1 rfl
theorem CmA.gk (K : CmA f q V v a p u w k c0) : h_gi f q 6 5 = some k := hgi_of K.1 rfl
theorem CmA.gs (K : CmA f q V v a p u w k c0) : h_gr f q 6 6 = some (q + 1) := hgr_of K.1 rfl
theorem CmA.frame (K : CmA f q V v a p u w k c0) (e : ∀ b, q ≤ b → b < q + 4 → f1 b = f b) : CmA f1 q V v a p u w k c0 :=
  ⟨by rw [e q (by omega) (by omega)]; exact K.1, K.2.frame (fun b h1 h2 => e b (by omega) (by omega))⟩
theorem C_slideOK_l (h : CoA f r 129 c) (u w : Int32) : ∀ (d N t : Nat), t + d = cN c → d < N → p_X2_canSlide_l2 V g f (some (0 : Int32)) (some (1 : Int32)) N r u w (nn t) = some (bz (s_may c u w d t)) := by
  intro d
  have hb := h.nb
  induction d with
  | zero =>
    intro N t he hN
    obtain ⟨N, rfl⟩ : ∃ M, N = M + 1 := ⟨N - 1, by omega⟩
    rw [p_X2_canSlide_l2, h.n, ob_s, if_pos (by rw [nn_le (by omega) (by omega)]; omega)]
    rfl
  | succ d ih =>
    intro N t he hN
    obtain ⟨N, rfl⟩ : ∃ M, N = M + 1 := ⟨N - 1, by omega⟩
    rw [p_X2_canSlide_l2, h.n, ob_s, if_neg (by rw [nn_le (by omega) (by omega)]; omega), h.xs, ob_s, h.x (by omega), ob_s, P_coord, ob_s, s_may]
    by_cases c1 : s_in (-1000) 1000 (cX c t + u) = true
    · rw [c1, if_neg bz_tn, h.ys, ob_s, h.y (by omega), ob_s, P_coord, ob_s]
      by_cases c2 : s_in (-1000) 1000 (cY c t + w) = true
      · rw [c2, if_neg bz_tn, nn_s, ih N (t + 1) (by omega) (by omega)]
        rfl
      · rw [Bool.not_eq_true] at c2
        rw [c2, if_pos bz_f]
        rfl
    · rw [Bool.not_eq_true] at c1
      rw [c1, if_pos bz_f]
      rfl
theorem C_slideOK (h : CoA f r 129 c) (u w : Int32) : p_X2_canSlide V g f r u w = some (bz (s_may c u w (cN c) 0)) := by
  have hb := h.nb
  unfold p_X2_canSlide
  rw [h.me]
  exact C_slideOK_l h u w (cN c) FU 0 (by omega) (by unfold FU; omega)
theorem s_need_lt (c : CS) : s_need c < 4 := by
  unfold s_need
  split <;> decide
theorem C_allows (S : StOK V g) (C : ChA f h T) (K : CmA f q V v a p u w k c0) (D : CoA f r 129 c) (hn : 1 ≤ cN c) (h3 : 3 ≤ v) (h10 : v ≤ 10) : p_X1_allowsChange V g f h r q = some (bz (s_mayV v c u w)) := by
  have hb := D.nb
  have hne := s_need_lt c
  unfold p_X1_allowsChange
  rw [C.me, K.gv, ob_s, S.or f (by omega) (by omega), ob_s, S.sw (by omega) (by omega), ob_s]
  have hv : v = 3 ∨ v = 4 ∨ v = 5 ∨ v = 6 ∨ v = 7 ∨ v = 8 ∨ v = 9 ∨ v = 10 := by omega
  rcases hv with rfl | rfl | rfl | rfl | rfl | rfl | rfl | rfl
  · show (if (1 : Int32) = 1 then _ else _) = _
    rw [if_pos rfl, K.gu, ob_s, C_why D hn, ob_s]
    unfold s_mayV bz
    by_cases c1 : s_why c u = 0
    · rw [if_pos c1, if_pos (by simp [c1])]
    · rw [if_neg c1, if_neg (by simp [c1])]
  · show (if (2 : Int32) = 1 then _ else if (2 : Int32) = 2 then _ else _) = _
    rw [if_neg (by decide), if_pos rfl, C_left D, ob_s, C_need D, ob_s]
    unfold s_mayV bz
    by_cases c1 : s_need c ≤ (cN c + 1) / 2
    · rw [if_neg (by rw [nn_lt (by omega) (by omega)]; omega), if_pos (by simp [c1])]
    · rw [if_pos (by rw [nn_lt (by omega) (by omega)]; omega), if_neg (by simp [c1])]
  · rfl
  · show (if (3 : Int32) = 1 then _ else if (3 : Int32) = 2 then _ else if (3 : Int32) = 3 then _ else _) = _
    rw [if_neg (by decide), if_neg (by decide), if_pos rfl, D.n, ob_s, show (129 : Int32) = nn 129 from rfl]
    unfold s_mayV bz
    by_cases c1 : cN c < 129
    · rw [if_neg (by rw [nn_le (by omega) (by omega)]; omega), if_pos (by simp [c1])]
    · rw [if_pos (by rw [nn_le (by omega) (by omega)]; omega), if_neg (by simp [c1])]
  · show (if (4 : Int32) = 1 then _ else if (4 : Int32) = 2 then _ else if (4 : Int32) = 3 then _ else if (4 : Int32) = 4 then _ else _) = _
    rw [if_neg (by decide), if_neg (by decide), if_neg (by decide), if_pos rfl, D.n, ob_s, C_need D, ob_s]
    unfold s_mayV bz
    by_cases c1 : s_need c < cN c
    · rw [if_neg (by rw [nn_le (by omega) (by omega)]; omega), if_pos (by simp [c1])]
    · rw [if_pos (by rw [nn_le (by omega) (by omega)]; omega), if_neg (by simp [c1])]
  · show (if (5 : Int32) = 1 then _ else if (5 : Int32) = 2 then _ else if (5 : Int32) = 3 then _ else if (5 : Int32) = 4 then _ else if (5 : Int32) = 5 then _ else _) = _
    rw [if_neg (by decide), if_neg (by decide), if_neg (by decide), if_neg (by decide), if_pos rfl, K.gu, ob_s, K.gw, ob_s, C_slideOK D, ob_s, hbz, ob_s]
    rfl
  · rfl
  · rfl
theorem C_j106 (S : StOK V g) (C : ChA f h T) (K : CmA f q V v a p u w k c0) (D : CoA f r 129 c) (hn : 1 ≤ cN c) (h3 : 3 ≤ v) (h10 : v ≤ 10) : p_X1_refusalOf_j106 V g f h q (V v) r = some (if s_in (-(s_lim v)) (s_lim v) u = true then (if s_in (-(s_lim v)) (s_lim v) w = true then (if s_mayV v c u w = true then 0 else 3) else 2) else 2) := by
  unfold p_X1_refusalOf_j106
  rw [K.gu, ob_s, S.al f (by omega) (by omega), ob_s]
  by_cases c1 : s_in (-(s_lim v)) (s_lim v) u = true
  · rw [if_pos c1, c1, if_neg bz_tn, K.gw, ob_s, S.al f (by omega) (by omega), ob_s]
    by_cases c2 : s_in (-(s_lim v)) (s_lim v) w = true
    · rw [if_pos c2, c2, if_neg bz_tn, C_allows S C K D hn h3 h10, ob_s]
      by_cases c3 : s_mayV v c u w = true
      · rw [if_pos c3, c3, if_neg bz_tn]
      · rw [if_neg c3, if_pos ((bz_0 _).mpr (by simpa using c3))]
    · rw [if_neg c2, if_pos ((bz_0 _).mpr (by simpa using c2))]
  · rw [if_neg c1, if_pos ((bz_0 _).mpr (by simpa using c1))]
theorem C_j79 (S : StOK V g) (C : ChA f h T) (K : CmA f q V v a p u w k c0) (D : CoA f r 129 c) (hn : 1 ≤ cN c) (h3 : 3 ≤ v) (h10 : v ≤ 10) : p_X1_refusalOf_j79 V g f h q (V v) r (nn (cN c + (if v = 6 then 1 else 0))) = some (s_refC v c p u w) := by
  have hb := D.nb
  have hN : cN c + (if v = 6 then 1 else 0) < 2147483648 := by split <;> omega
  unfold p_X1_refusalOf_j79 s_refC
  rw [hgi_of (S.vb (v := v) (by omega) (by omega)) rfl, ob_s]
  have hhp : vl_hasPoint.getD (v - 1) 0 = bz (s_hp v) := by
    have : ∀ i, i < 11 → vl_hasPoint.getD i 0 = bz (s_hp (i + 1)) := by decide
    rw [this _ (by omega), show v - 1 + 1 = v by omega]
  rw [hhp]
  by_cases c1 : s_hp v = true
  · rw [c1, if_neg bz_tn, K.gp, ob_s, ob_s]
    unfold inC
    by_cases c2 : p < 0
    · rw [if_pos c2, if_pos ⟨rfl, by simp [c2]⟩]
    · rw [if_neg c2]
      by_cases c3 : p < nn (cN c + (if v = 6 then 1 else 0))
      · rw [if_pos c3]
        exact (C_j106 S C K D hn h3 h10).trans (congrArg some (if_neg (by simp [c2, c3])).symm)
      · rw [if_neg c3, if_pos ⟨rfl, by simp [c2, c3]⟩]
  · rw [if_pos ((bz_0 _).mpr (by simpa using c1))]
    exact (C_j106 S C K D hn h3 h10).trans (congrArg some (if_neg (by simp [c1])).symm)
theorem C_refusal (S : StOK V g) (C : ChA f h T) (hv : TV T) (K : CmA f q V v a p u w k c0) (h1 : 1 ≤ v) (h11 : v ≤ 11) : p_X1_refusalOf V g f h q = some (s_ref v T a p u w) := by
  have h6 := hv.1
  unfold p_X1_refusalOf s_ref
  rw [C.me, K.gv, ob_s, hgi_of (S.vb (v := v) (by omega) (by omega)) rfl, ob_s]
  have hic : vl_isCoast.getD (v - 1) 0 = if v ≤ 2 then 1 else 0 := by
    have : ∀ i, i < 11 → vl_isCoast.getD i 0 = if i + 1 ≤ 2 then 1 else 0 := by decide
    rw [this _ (by omega), show v - 1 + 1 = v by omega]
  rw [hic]
  by_cases c1 : v ≤ 2
  · rw [if_pos c1, if_pos c1, if_neg (by decide), C.n, ob_s, n_6]
    by_cases c2 : tN T < 6
    · rw [if_pos c2, if_neg (by rw [nn_le (by omega) (by omega)]; omega)]
    · rw [if_neg c2, if_pos (by rw [nn_le (by omega) (by omega)]; omega)]
  · rw [if_neg c1, if_neg c1, if_pos rfl]
    by_cases c2 : v = 11
    · rw [if_pos c2, if_pos (by rw [c2])]
    · rw [if_neg c2, if_neg (fun e => c2 (S.ne (by omega) (by omega) (by decide) (by decide) (Option.some.inj e))), K.ga, ob_s, P_has C, ob_s]
      by_cases c3 : inC (tN T) a = true
      · obtain ⟨ea, hia⟩ := inC_t (by omega) c3
        obtain ⟨r, r1, r2, r3, r4⟩ := C.co hia
        have cv := hv.2.2 _ hia
        have hn := cv.n1
        rw [if_pos c3, c3, if_neg bz_tn, C.arr, ob_s, ob_s, show h_lq f (h + 1) 5 a = some r by rw [ea]; exact r1, ob_s]
        have hj := C_j79 S C K r2 (by omega) (by omega) (by omega)
        by_cases c4 : v = 6
        · rw [if_pos (by rw [c4]), r2.n, ob_s, nn_s]
          rw [if_pos c4] at hj
          exact hj
        · rw [if_neg (fun e => c4 (S.ne (by omega) (by omega) (by decide) (by decide) (Option.some.inj e))), r2.n, ob_s]
          rw [if_neg c4, Nat.add_zero] at hj
          exact hj
      · rw [if_neg c3, if_pos ((bz_0 _).mpr (by simpa using c3))]
end CW


/-! ===== the law's readings of a map that stands ===== -/
def JR (f : GH) (x : Nat) (T : TS) : Prop := ∃ hs pc pn, XoA f x hs pc pn ∧ ChA f (x + 1) T ∧ TV T
theorem nt_r {ξ α : Type} (v : α) : h_nt (some (.inr v) : Option (ξ ⊕ α)) = some v := rfl
theorem sin_of {lo hi v : Int32} (h1 : lo.toInt ≤ v.toInt) (h2 : v.toInt ≤ hi.toInt) : s_in lo hi v = true := by
  unfold s_in
  rw [decide_eq_true_eq, i_lt, i_lt]
  omega
theorem sin_nn {l m : Nat} (hm : m < 1000) (hl : l ≤ m) : s_in 0 (nn m) (nn l) = true := by
  rw [s_inL (by omega)]
  exact inC_nn (by omega) (by omega)
theorem sin_7 {l : Nat} (hl : l < 8) : s_in 0 7 (nn l) = true := sin_nn (m := 7) (by omega) (by omega)
theorem sin_6 {l : Nat} (hl : l < 7) : s_in 0 6 (nn l) = true := sin_nn (m := 6) (by omega) (by omega)
theorem sin_bd {v : Int32} (h : bd v) : s_in (-1000) 1000 v = true := sin_of h.1 h.2
theorem TV.n {T : TS} (hv : TV T) : tN T < 2147483648 := by have := hv.1; omega
theorem sco_in {α : Type} {T : TS} (hv : TV T) {k : Nat} (hk : k < tN T) (F : CS → Nat ⊕ α) : sCo T (nn k) F = F (tC T k) := by
  unfold sCo
  have := hv.1
  rw [if_pos (inC_nn (by omega) hk), ix_nn (by omega)]
theorem sin_in {α : Type} {lo hi v : Int32} (h : s_in lo hi v = true) (F : Nat ⊕ α) : sIn lo hi v F = F := by
  unfold sIn
  rw [if_pos h]
theorem spt_in {α : Type} {n p : Nat} (hn : n ≤ 129) (h : p < n) (F : Nat ⊕ α) : sPt n (nn p) F = F := by
  unfold sPt
  rw [if_pos (inC_nn (by omega) h)]
theorem sst_in {α : Type} {n p : Nat} (hn : n < 2000) (h : p < n) (F : Nat ⊕ α) : sSt n (nn p) F = F := by
  unfold sSt
  rw [if_pos (inC_nn (by omega) h)]
theorem sis_in {α : Type} {c : CS} (h : cI c ≠ 0) (F : Nat ⊕ α) : sIs c F = F := by
  unfold sIs
  rw [if_neg h]
section RD
variable {V : Nat → Nat} {g f : GH} {x k : Nat} {T : TS}
theorem R_cnt (J : JR f x T) (hk : k < tN T) : h_nt (p_X7_pointCount V g f x (nn k)) = some (nn (cN (tC T k))) := by
  obtain ⟨hs, pc, pn, X, C, hv⟩ := J
  have cv := hv.2.2 k hk
  have c2 := cv.n2
  rw [P_pointCount X C hv _, sco_in hv hk, nt_r]
theorem R_isl (J : JR f x T) (hk : k < tN T) : h_nt (p_X7_isIsland V g f x (nn k)) = some (cI (tC T k)) := by
  obtain ⟨hs, pc, pn, X, C, hv⟩ := J
  have cv := hv.2.2 k hk
  have c2 := cv.n2
  rw [P_isIsland X C hv _, sco_in hv hk, nt_r]
theorem R_px (J : JR f x T) (hk : k < tN T) {i : Nat} (hi : i < cN (tC T k)) : h_nt (p_X7_pointX V g f x (nn k) (nn i)) = some (cX (tC T k) i) := by
  obtain ⟨hs, pc, pn, X, C, hv⟩ := J
  have cv := hv.2.2 k hk
  have c2 := cv.n2
  rw [P_pointX X C hv _ _, sco_in hv hk, spt_in c2 hi, ix_nn (by omega), nt_r]
theorem R_py (J : JR f x T) (hk : k < tN T) {i : Nat} (hi : i < cN (tC T k)) : h_nt (p_X7_pointY V g f x (nn k) (nn i)) = some (cY (tC T k) i) := by
  obtain ⟨hs, pc, pn, X, C, hv⟩ := J
  have cv := hv.2.2 k hk
  have c2 := cv.n2
  rw [P_pointY X C hv _ _, sco_in hv hk, spt_in c2 hi, ix_nn (by omega), nt_r]
theorem R_dist (J : JR f x T) (hk : k < tN T) {i j : Nat} (hi : i < cN (tC T k)) (hj : j < cN (tC T k)) : h_nt (p_X7_pointDistance V g f x (nn k) (nn i) (nn j)) = some (s_d (tK T) (tC T k) i j) := by
  obtain ⟨hs, pc, pn, X, C, hv⟩ := J
  have cv := hv.2.2 k hk
  have c2 := cv.n2
  rw [P_pointDistance X C hv _ _ _, sco_in hv hk, spt_in c2 hi, spt_in c2 hj, ix_nn (by omega), ix_nn (by omega), nt_r]
theorem R_near (J : JR f x T) (hk : k < tN T) {u v : Int32} (hu : bd u) (hw : bd v) : h_nt (p_X7_nearestPoint V g f x (nn k) u v) = some (nn (s_near (tK T) (tC T k) u v)) := by
  obtain ⟨hs, pc, pn, X, C, hv⟩ := J
  have cv := hv.2.2 k hk
  have c2 := cv.n2
  rw [P_nearestPoint X C hv _ _ _, sco_in hv hk, sin_in (sin_bd hu), sin_in (sin_bd hw), nt_r]
theorem R_len (J : JR f x T) (hk : k < tN T) {l : Nat} (hl : l < 8) : h_nt (p_X7_lengthAt V g f x (nn k) (nn l)) = some (s_len (tK T) (tC T k) l) := by
  obtain ⟨hs, pc, pn, X, C, hv⟩ := J
  have cv := hv.2.2 k hk
  have c2 := cv.n2
  rw [P_lengthAt X C hv _ _, sco_in hv hk, sin_in (sin_7 hl), ix_nn (by omega), nt_r]
theorem R_sc (J : JR f x T) (hk : k < tN T) {l : Nat} (hl : l < 8) : h_nt (p_X7_stickCount V g f x (nn k) (nn l)) = some (nn (s_sticks (tC T k) l)) := by
  obtain ⟨hs, pc, pn, X, C, hv⟩ := J
  have cv := hv.2.2 k hk
  have c2 := cv.n2
  rw [P_stickCount X C hv _ _, sco_in hv hk, sin_in (sin_7 hl), ix_nn (by omega), nt_r]
theorem R_ss (J : JR f x T) (hk : k < tN T) {l s : Nat} (hl : l < 8) (hs : s < s_sticks (tC T k) l) : h_nt (p_X7_stickStart V g f x (nn k) (nn l) (nn s)) = some (nn (s * 2 ^ l)) := by
  obtain ⟨hs0, pc, pn, X, C, hv⟩ := J
  have cv := hv.2.2 k hk
  have c3 := s_sticks_200 (l := l) cv
  rw [P_stickStart X C hv _ _ _]
  unfold sStk
  rw [sco_in hv hk, sin_in (sin_7 hl), ix_nn (by omega), sst_in (by omega) hs, ix_nn (by omega), nt_r]
theorem R_sl (J : JR f x T) (hk : k < tN T) {l s : Nat} (hl : l < 8) (hs : s < s_sticks (tC T k) l) : h_nt (p_X7_stickLength V g f x (nn k) (nn l) (nn s)) = some (s_span (tK T) (tC T k) l s) := by
  obtain ⟨hs0, pc, pn, X, C, hv⟩ := J
  have cv := hv.2.2 k hk
  have c3 := s_sticks_200 (l := l) cv
  rw [P_stickLength X C hv _ _ _]
  unfold sStk
  rw [sco_in hv hk, sin_in (sin_7 hl), ix_nn (by omega), sst_in (by omega) hs, ix_nn (by omega), nt_r]
theorem R_ls (J : JR f x T) (hk : k < tN T) {l : Nat} (hl : l < 8) : h_nt (p_X7_longestStick V g f x (nn k) (nn l)) = some (nn (s_am (s_span (tK T) (tC T k) l) (s_sticks (tC T k) l - 1))) := by
  obtain ⟨hs, pc, pn, X, C, hv⟩ := J
  have cv := hv.2.2 k hk
  have c2 := cv.n2
  rw [P_longestStick X C hv _ _, sco_in hv hk, sin_in (sin_7 hl), ix_nn (by omega), nt_r]
theorem R_lg (J : JR f x T) (hk : k < tN T) {l : Nat} (hl : l < 7) : h_nt (p_X7_lengthGain V g f x (nn k) (nn l)) = some (s_gain (tK T) (tC T k) l) := by
  obtain ⟨hs, pc, pn, X, C, hv⟩ := J
  have cv := hv.2.2 k hk
  have c2 := cv.n2
  rw [P_lengthGain X C hv _ _, sco_in hv hk, sin_in (sin_6 hl), ix_nn (by omega), nt_r]
theorem R_gg (J : JR f x T) (hk : k < tN T) : h_nt (p_X7_levelOfGreatestGain V g f x (nn k)) = some (nn (s_am (s_gain (tK T) (tC T k)) 6)) := by
  obtain ⟨hs, pc, pn, X, C, hv⟩ := J
  have cv := hv.2.2 k hk
  have c2 := cv.n2
  rw [P_levelOfGreatestGain X C hv _, sco_in hv hk, nt_r]
theorem R_clf (J : JR f x T) (hk : k < tN T) {z : Int32} (hz : 0 ≤ z.toInt) : h_nt (p_X7_coarsestLevelFor V g f x (nn k) z) = some (s_coarsest (tK T) (tC T k) z 7) := by
  obtain ⟨hs, pc, pn, X, C, hv⟩ := J
  have cv := hv.2.2 k hk
  have c2 := cv.n2
  rw [P_coarsestLevelFor X C hv _ _, sco_in hv hk, sin_in (sin_of (lo := 0) (hi := 2147483647) hz (by have := i_hi z; show z.toInt ≤ 2147483647; omega)), nt_r]
theorem R_cel (J : JR f x T) (hk : k < tN T) : h_nt (p_X7_coarsestExactLevel V g f x (nn k)) = some (s_coarsest (tK T) (tC T k) (s_len (tK T) (tC T k) 0) 7) := by
  obtain ⟨hs, pc, pn, X, C, hv⟩ := J
  have cv := hv.2.2 k hk
  have c2 := cv.n2
  rw [P_coarsestExactLevel X C hv _, sco_in hv hk, nt_r]
theorem R_da (J : JR f x T) (hk : k < tN T) (hi : cI (tC T k) ≠ 0) : h_nt (p_X7_doubledArea V g f x (nn k)) = some (s_abs (s_area (tC T k))) := by
  obtain ⟨hs, pc, pn, X, C, hv⟩ := J
  have cv := hv.2.2 k hk
  have c2 := cv.n2
  rw [P_doubledArea X C hv _, sco_in hv hk, sis_in hi, nt_r]
theorem R_cont (J : JR f x T) (hk : k < tN T) (hi : cI (tC T k) ≠ 0) {u v : Int32} (hu : bd u) (hw : bd v) : h_nt (p_X7_contains V g f x (nn k) u v) = some (bz (s_covers (tC T k) u v)) := by
  obtain ⟨hs, pc, pn, X, C, hv⟩ := J
  have cv := hv.2.2 k hk
  have c2 := cv.n2
  rw [P_contains X C hv _ _ _, sco_in hv hk, sis_in hi, sin_in (sin_bd hu), sin_in (sin_bd hw), nt_r]
theorem R_inn (J : JR f x T) (hk : k < tN T) : h_nt (p_X7_innermostIslandAround V g f x (nn k)) = some (s_inn T k (tN T)) := by
  obtain ⟨hs, pc, pn, X, C, hv⟩ := J
  have cv := hv.2.2 k hk
  have c2 := cv.n2
  rw [P_innermostIslandAround X C hv _, sco_in hv hk, ix_nn (by have := hv.1; omega), nt_r]
theorem R_ring (J : JR f x T) (hk : k < tN T) : h_nt (p_X7_ringDepth V g f x (nn k)) = some (s_ring T k) := by
  obtain ⟨hs, pc, pn, X, C, hv⟩ := J
  have cv := hv.2.2 k hk
  have c2 := cv.n2
  rw [P_ringDepth X C hv _, sco_in hv hk, ix_nn (by have := hv.1; omega), nt_r]
theorem R_bw (J : JR f x T) (hk : k < tN T) : h_nt (p_X7_boxWidth V g f x (nn k)) = some (s_box (cX (tC T k)) (cN (tC T k))) := by
  obtain ⟨hs, pc, pn, X, C, hv⟩ := J
  have cv := hv.2.2 k hk
  have c2 := cv.n2
  rw [P_boxWidth X C hv _, sco_in hv hk, nt_r]
theorem R_bh (J : JR f x T) (hk : k < tN T) : h_nt (p_X7_boxHeight V g f x (nn k)) = some (s_box (cY (tC T k)) (cN (tC T k))) := by
  obtain ⟨hs, pc, pn, X, C, hv⟩ := J
  have cv := hv.2.2 k hk
  have c2 := cv.n2
  rw [P_boxHeight X C hv _, sco_in hv hk, nt_r]
theorem R_obs (J : JR f x T) (hk : k < tN T) {w : Int32} (hw : -50 ≤ w.toInt ∧ w.toInt ≤ 50) : h_nt (p_X7_foldObstacle V g f x (nn k) w) = some (s_why (tC T k) w) := by
  obtain ⟨hs, pc, pn, X, C, hv⟩ := J
  have cv := hv.2.2 k hk
  have c2 := cv.n2
  rw [P_foldObstacle X C hv _ _, sco_in hv hk, sin_in (sin_of (lo := -50) (hi := 50) hw.1 hw.2), nt_r]
theorem R_wo (J : JR f x T) (hk : k < tN T) {i : Nat} (hi : i < cN (tC T k)) : h_nt (p_X7_lengthWithoutPoint V g f x (nn k) (nn i)) = some (s_but (tK T) (tC T k) i) := by
  obtain ⟨hs, pc, pn, X, C, hv⟩ := J
  have cv := hv.2.2 k hk
  have c2 := cv.n2
  rw [P_lengthWithoutPoint X C hv _ _, sco_in hv hk, spt_in c2 hi, ix_nn (by omega), nt_r]
theorem R_lip (J : JR f x T) (hk : k < tN T) : h_nt (p_X7_leastImportantPoint V g f x (nn k)) = some (s_lip T (tC T k)) := by
  obtain ⟨hs, pc, pn, X, C, hv⟩ := J
  have cv := hv.2.2 k hk
  have c2 := cv.n2
  rw [P_leastImportantPoint X C hv _, sco_in hv hk, nt_r]
theorem R_oth (J : JR f x T) (hk : k < tN T) {l : Nat} (hl : l < 8) : h_nt (p_X7_lengthInOtherMetric V g f x (nn k) (nn l)) = some (s_other T (tC T k) l) := by
  obtain ⟨hs, pc, pn, X, C, hv⟩ := J
  have cv := hv.2.2 k hk
  have c2 := cv.n2
  rw [P_lengthInOtherMetric X C hv _ _, sco_in hv hk, sin_in (sin_7 hl), ix_nn (by omega), nt_r]
theorem R_enc (J : JR f x T) {i : Nat} (hi : i < tN T) (hk : k < tN T) (h : cI (tC T i) ≠ 0) : h_nt (p_X7_encloses V g f x (nn i) (nn k)) = some (bz (s_surr T i k)) := by
  obtain ⟨hs, pc, pn, X, C, hv⟩ := J
  have := hv.1
  rw [P_encloses X C hv _ _, sco_in hv hk, sco_in hv hi, sis_in h, ix_nn (by omega), ix_nn (by omega), nt_r]
theorem R_tot (J : JR f x T) {l : Nat} (hl : l < 8) : h_nt (p_X7_totalLength V g f x (nn l)) = some (s_tot T l) := by
  obtain ⟨hs, pc, pn, X, C, hv⟩ := J
  rw [P_totalLength X C hv _, sin_in (sin_7 hl), ix_nn (by omega), nt_r]
theorem R_lc (J : JR f x T) {l : Nat} (hl : l < 8) : h_nt (p_X7_longestCoast V g f x (nn l)) = some (s_lc T l) := by
  obtain ⟨hs, pc, pn, X, C, hv⟩ := J
  rw [P_longestCoast X C hv _, sin_in (sin_7 hl), ix_nn (by omega), nt_r]
theorem R_n (J : JR f x T) : p_X7_coastCount V g f x = some (nn (tN T)) := by
  obtain ⟨hs, pc, pn, X, C, hv⟩ := J
  exact P_coastCount X C
theorem R_k (J : JR f x T) : p_X7_usesKingMetric V g f x = some (tK T) := by
  obtain ⟨hs, pc, pn, X, C, hv⟩ := J
  exact P_usesKingMetric X C hv
theorem R_lo (J : JR f x T) : p_X7_loadedPoints V g f x = some (tL T) := by
  obtain ⟨hs, pc, pn, X, C, hv⟩ := J
  exact P_loadedPoints X C
theorem R_ad (J : JR f x T) : p_X7_addedPoints V g f x = some (tA T) := by
  obtain ⟨hs, pc, pn, X, C, hv⟩ := J
  exact P_addedPoints X C
theorem R_re (J : JR f x T) : p_X7_removedPoints V g f x = some (tR T) := by
  obtain ⟨hs, pc, pn, X, C, hv⟩ := J
  exact P_removedPoints X C
theorem R_gap (J : JR f x T) : p_X7_ledgerGap V g f x = some (s_gap T) := by
  obtain ⟨hs, pc, pn, X, C, hv⟩ := J
  exact P_ledgerGap X C
theorem JR.frame {f1 : GH} (J : JR f x T) (e : ∀ a, x ≤ a → a < x + 21 → f1 a = f a) : JR f1 x T := by
  obtain ⟨hs, pc, pn, X, C, hv⟩ := J
  exact ⟨hs, pc, pn, X.fr (e x (by omega) (by omega)), C.frame (fun a h1 h2 => e a (by omega) (by omega)), hv⟩
end RD

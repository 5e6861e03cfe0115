/-! ===== act: which change ===== -/
section AE
variable {V : Nat → Nat} {g : GH} {T : TS} {k : Nat}
theorem AO.cg {P Q : Nat → Nat → GH → Nat → Option (Int32 × GH × Nat)} (h : AO V T P) (e : ∀ x y f n, Q x y f n = P x y f n) : AO V T Q := by
  obtain ⟨T1, b, h⟩ := h
  refine ⟨T1, b, fun f x y n hs u p H S h1 h2 h3 h4 => ?_⟩
  rw [e]
  exact h f x y n hs u p H S h1 h2 h3 h4
theorem A_718 (S0 : StOK V g) (hv : TV T) (hk : k < tN T) {i z : Nat} (hi : i < cN (tC T k)) (hz : z < 18) {a : Int32} (ha : -80 ≤ a.toInt ∧ a.toInt ≤ 80) : AO V T (fun x _ f n => p_L_act_j718 V g x (nn z) (nn (tN T)) (nn k) (nn (cN (tC T k))) (nn i) a f n) := by
  by_cases c12 : z = 12
  · exact (A_drop S0 hv hk hi).cg (fun x y f n => by unfold p_L_act_j718; rw [if_pos (by rw [c12]; rfl)])
  · have n12 : ¬ nn z = (12 : Int32) := by rw [show (12 : Int32) = nn 12 from rfl, nn_eq (by omega) (by omega)]; exact c12
    by_cases c13 : z = 13
    · exact (A_shift S0 hv hk ha).cg (fun x y f n => by unfold p_L_act_j718; rw [if_neg n12, if_pos (by rw [c13]; rfl)])
    · have n13 : ¬ nn z = (13 : Int32) := by rw [show (13 : Int32) = nn 13 from rfl, nn_eq (by omega) (by omega)]; exact c13
      by_cases c14 : z = 14
      · exact (A_rev S0 hv hk).cg (fun x y f n => by unfold p_L_act_j718; rw [if_neg n12, if_neg n13, if_pos (by rw [c14]; rfl)])
      · have n14 : ¬ nn z = (14 : Int32) := by rw [show (14 : Int32) = nn 14 from rfl, nn_eq (by omega) (by omega)]; exact c14
        by_cases c15 : z = 15
        · exact (A_rem S0 hv hk).cg (fun x y f n => by unfold p_L_act_j718; rw [if_neg n12, if_neg n13, if_neg n14, if_pos (by rw [c15]; rfl)])
        · have n15 : ¬ nn z = (15 : Int32) := by rw [show (15 : Int32) = nn 15 from rfl, nn_eq (by omega) (by omega)]; exact c15
          exact (A_met S0 hv hk).cg (fun x y f n => by unfold p_L_act_j718; rw [if_neg n12, if_neg n13, if_neg n14, if_neg n15])
theorem A_406 (S0 : StOK V g) (hv : TV T) (hk : k < tN T) {i z : Nat} (hi : i < cN (tC T k)) (hz : z < 18) {a b : Int32} (ha : -80 ≤ a.toInt ∧ a.toInt ≤ 80) (hb : -80 ≤ b.toInt ∧ b.toInt ≤ 80) : AO V T (fun x _ f n => p_L_act_j406 V g x (nn z) (nn (tN T)) (nn k) (nn (cN (tC T k))) (nn i) a b f n) := by
  have n2 := (hv.2.2 k hk).n2
  have ba : bd a := by unfold bd; omega
  have bb : bd b := by unfold bd; omega
  have le : ∀ m : Nat, m < 100 → ((nn m ≤ nn z) ↔ m ≤ z) := fun m hm => nn_le (by omega) (by omega)
  by_cases c8 : 8 ≤ z
  · have p8 : (8 : Int32) ≤ nn z := (le 8 (by omega)).mpr c8
    by_cases c10 : 10 ≤ z
    · have p10 : (10 : Int32) ≤ nn z := (le 10 (by omega)).mpr c10
      by_cases c12 : 12 ≤ z
      · have p12 : (12 : Int32) ≤ nn z := (le 12 (by omega)).mpr c12
        exact (A_718 S0 hv hk hi hz ha).cg (fun x y f n => by unfold p_L_act_j406; rw [if_pos p8, if_pos p10, if_pos p12])
      · have p12 : ¬ (12 : Int32) ≤ nn z := fun q => c12 ((le 12 (by omega)).mp q)
        by_cases c : 129 ≤ cN (tC T k)
        · have p129 : (129 : Int32) ≤ nn (cN (tC T k)) := (nn_le (a := 129) (by omega) (by omega)).mpr c
          exact (A_718 S0 hv hk hi hz ha).cg (fun x y f n => by unfold p_L_act_j406; rw [if_pos p8, if_pos p10, if_neg p12, if_pos p129])
        · have p129 : ¬ (129 : Int32) ≤ nn (cN (tC T k)) := fun q => c ((nn_le (a := 129) (by omega) (by omega)).mp q)
          exact (A_ins S0 hv hk hi (by omega) ba bb).cg (fun x y f n => by unfold p_L_act_j406; rw [if_pos p8, if_pos p10, if_neg p12, if_neg p129])
    · have p10 : ¬ (10 : Int32) ≤ nn z := fun q => c10 ((le 10 (by omega)).mp q)
      exact (A_move S0 hv hk hi ba bb).cg (fun x y f n => by unfold p_L_act_j406; rw [if_pos p8, if_neg p10])
  · have p8 : ¬ (8 : Int32) ≤ nn z := fun q => c8 ((le 8 (by omega)).mp q)
    exact (A_unfold S0 hv hk).cg (fun x y f n => by unfold p_L_act_j406; rw [if_neg p8])
theorem A_263 (S0 : StOK V g) (hv : TV T) (hk : k < tN T) {z : Nat} (hz : z < 18) (v : Int32) : AO V T (fun x _ f n => p_L_act_j263 V g x (nn z) v (nn (tN T)) (nn k) f n) := by
  have cv := hv.2.2 k hk
  have n1 := cv.n1
  have n2 := cv.n2
  have hi := mo_lt (v >>> ((2 : Int32) &&& 31)) (show 1 ≤ cN (tC T k) by omega)
  have ca := co_s (v >>> ((1 : Int32) &&& 31))
  have cb := co_s (v >>> ((3 : Int32) &&& 31))
  have hh : ∀ x f n hs u p H S, JW V f x T hs u p H S → p_L_act_j263 V g x (nn z) v (nn (tN T)) (nn k) f n = (if (6 : Int32) ≤ nn z then p_L_act_j406 V g x (nn z) (nn (tN T)) (nn k) (nn (cN (tC T k))) (nn (mo (v >>> ((2 : Int32) &&& 31)) (cN (tC T k)))) (nn (mo (v >>> ((1 : Int32) &&& 31)) 161) - (80 : Int32)) (nn (mo (v >>> ((3 : Int32) &&& 31)) 161) - (80 : Int32)) f n
      else (if (20 : Int32) < nn (cN (tC T k)) then p_L_act_j406 V g x (nn z) (nn (tN T)) (nn k) (nn (cN (tC T k))) (nn (mo (v >>> ((2 : Int32) &&& 31)) (cN (tC T k)))) (nn (mo (v >>> ((1 : Int32) &&& 31)) 161) - (80 : Int32)) (nn (mo (v >>> ((3 : Int32) &&& 31)) 161) - (80 : Int32)) f n
        else (h_nt (p_X7_lengthAfterFold V g f x (nn k) (nn (mo v 41) - (20 : Int32)) (0 : Int32))).bind fun v145 =>
      (h_nt (p_X7_foldObstacle V g v145.2 x (nn k) (nn (mo v 41) - (20 : Int32)))).bind fun v146 =>
      (if v146 ≤ (0 : Int32) then
        (h_nt (p_X7_fold V g v145.2 x (nn k) (nn (mo v 41) - (20 : Int32)))).bind fun v148 =>
        (h_nt (p_X7_pointCount V g v148.2 x (nn k))).bind fun v149 =>
        (if v148.1 = v149 then
          (h_nt (p_X7_lengthAt V g v148.2 x (nn k) (0 : Int32))).bind fun v151 =>
          (if v151 = v145.1 then
            some ((1 : Int32), v148.2, n)
          else
            some ((0 : Int32), v148.2, n))
        else
          some ((0 : Int32), v148.2, n))
      else
        (if v145.1 = (-1 : Int32) then
          some ((1 : Int32), v145.2, n)
        else
          some ((0 : Int32), v145.2, n))))) := by
    intro x f n hs u p H S hJ
    obtain ⟨bs, cc, I⟩ := hJ
    unfold p_L_act_j263
    rw [R_cnt I.jr hk, ob_s, L_most V g f _ (by omega) (by omega), ob_s, show p_L_most V g f (v >>> ((1 : Int32) &&& 31)) (161 : Int32) = some (nn (mo (v >>> ((1 : Int32) &&& 31)) 161)) from L_most V g f _ (b := 161) (by omega) (by omega), ob_s, show p_L_most V g f (v >>> ((3 : Int32) &&& 31)) (161 : Int32) = some (nn (mo (v >>> ((3 : Int32) &&& 31)) 161)) from L_most V g f _ (b := 161) (by omega) (by omega), ob_s, show p_L_most V g f v (41 : Int32) = some (nn (mo v 41)) from L_most V g f _ (b := 41) (by omega) (by omega), ob_s]
  have cg : ∀ {P : Nat → Nat → GH → Nat → Option (Int32 × GH × Nat)}, AO V T P → (∀ x y f n hs u p H S, JW V f x T hs u p H S → p_L_act_j263 V g x (nn z) v (nn (tN T)) (nn k) f n = P x y f n) → AO V T (fun x _ f n => p_L_act_j263 V g x (nn z) v (nn (tN T)) (nn k) f n) := by
    intro P h e
    obtain ⟨T1, b, h⟩ := h
    refine ⟨T1, b, fun f x y n hs u p H S h1 h2 h3 h4 => ?_⟩
    dsimp only
    rw [e x y f n hs u p H S h4]
    exact h f x y n hs u p H S h1 h2 h3 h4
  by_cases c6 : 6 ≤ z
  · have p6 : (6 : Int32) ≤ nn z := (nn_le (a := 6) (by omega) (by omega)).mpr c6
    exact cg (A_406 S0 hv hk hi hz ca cb) (fun x y f n hs u p H S h4 => by rw [hh x f n hs u p H S h4, if_pos p6])
  · have p6 : ¬ (6 : Int32) ≤ nn z := fun q => c6 ((nn_le (a := 6) (by omega) (by omega)).mp q)
    by_cases c20 : 20 < cN (tC T k)
    · have p20 : (20 : Int32) < nn (cN (tC T k)) := (nn_lt (a := 20) (by omega) (by omega)).mpr c20
      exact cg (A_406 S0 hv hk hi hz ca cb) (fun x y f n hs u p H S h4 => by rw [hh x f n hs u p H S h4, if_neg p6, if_pos p20])
    · have p20 : ¬ (20 : Int32) < nn (cN (tC T k)) := fun q => c20 ((nn_lt (a := 20) (by omega) (by omega)).mp q)
      exact cg (A_fold S0 hv hk v) (fun x y f n hs u p H S h4 => by rw [hh x f n hs u p H S h4, if_neg p6, if_neg p20])
end AE

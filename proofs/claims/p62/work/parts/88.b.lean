/-! ===== act: its text, and all of it ===== -/
def al (s : List Nat) : Prop := ∀ a ∈ s, a < 128
theorem al.ap {s w : List Nat} (h : al s) (k : al w) : al (s ++ w) := fun a ha => by
  rcases List.mem_append.mp ha with h1 | h1
  · exact h a h1
  · exact k a h1
theorem al.co {a : Nat} {s : List Nat} (h : a < 128) (k : al s) : al (a :: s) := fun b hb => by
  rcases List.mem_cons.mp hb with h1 | h1
  · omega
  · exact k b h1
theorem al.at {s : List Nat} (h : al s) (j : Nat) : s.getD j 0 < 128 := by
  rw [List.getD_eq_getElem?_getD]
  by_cases c : j < s.length
  · rw [List.getElem?_eq_getElem c]
    exact h _ (List.getElem_mem c)
  · rw [List.getElem?_eq_none (by omega)]
    exact (by decide : (0 : Nat) < 128)
theorem al_nil : al [] := fun a ha => by cases ha
theorem al_dg {w : Nat} (h : w < 100) : al (dg w) := fun a ha => by have := dg_d h a ha; omega
theorem al_sg (m : Bool) : al (sg m) := by
  cases m
  · exact al_nil
  · exact al.co (by omega) al_nil
theorem al_pn {q : PN} (h : pn_b q) {r : List Nat} (k : al r) : al (pn_t q r) := (al_sg _).ap ((al_dg h.1).ap (al.co (by omega) ((al_sg _).ap ((al_dg h.2).ap k))))
theorem al_rs : ∀ (P : List PN), (∀ p ∈ P, pn_b p) → ∀ {r : List Nat}, al r → al (rs_t P r) := by
  intro P
  induction P with
  | nil => intro _ r k; exact k
  | cons q P ih => intro h r k; exact al.co (by omega) (al_pn (h q (List.mem_cons_self ..)) (ih (fun p hp => h p (List.mem_cons_of_mem _ hp)) k))
theorem al_cw (b : Bool) : al (cwt b) := by cases b <;> (unfold al; decide)
theorem al_ct {b : Bool} {q : PN} {P : List PN} (h : ∀ p ∈ q :: P, pn_b p) {r : List Nat} (k : al r) : al (co_t b q P r) := (al_cw b).ap (al.co (by omega) (al_pn (h q (List.mem_cons_self ..)) (al_rs P (fun p hp => h p (List.mem_cons_of_mem _ hp)) k)))
theorem dg_2 {w : Nat} (h : w < 100) : (dg w).length ≤ 2 := by
  unfold dg
  split
  · show 1 ≤ 2; omega
  · show 2 ≤ 2; omega
def tB (s : List Nat) (i : Nat) : Int32 := nn (s.getD i 0)
theorem At_t {s : List Nat} (h : al s) : At (tB s) s.length 0 s := ⟨by omega, fun j _ => by rw [Nat.zero_add]; rfl, h.at⟩
def ac_p (v : Int32) : PN × List PN := ((false, mo v 90, false, mo (v >>> ((1 : Int32) &&& 31)) 90), [(false, mo (v >>> ((2 : Int32) &&& 31)) 90, false, mo (v >>> ((3 : Int32) &&& 31)) 90), (false, mo (v >>> ((4 : Int32) &&& 31)) 90, true, mo (v >>> ((5 : Int32) &&& 31)) 90)])
def ac_t (b : Bool) (v : Int32) : List Nat := co_t b (ac_p v).1 (ac_p v).2 []
theorem ac_b (v : Int32) : ∀ p ∈ (ac_p v).1 :: (ac_p v).2, pn_b p := by
  have h : ∀ v, mo v 90 < 100 := fun v => Nat.lt_trans (mo_lt v (by omega)) (by omega)
  intro p hp
  unfold ac_p at hp
  simp at hp
  rcases hp with rfl | rfl | rfl
  · exact ⟨h _, h _⟩
  · exact ⟨h _, h _⟩
  · exact ⟨h _, h _⟩
noncomputable def ac_T (b : Bool) (v : Int32) (T : TS) : TS := ts_add T (c_lone (tB (ac_t b v)) (ac_t b v).length)
section AB
variable {V : Nat → Nat} {g f : GH} {x y u p q n : Nat} {T S : TS} {H : Nat → TS} {hs cc : Int32} {bs : Nat → Int32}
def cwU (V : Nat → Nat) (b : Bool) : Nat := if b then V 50 else V 51
theorem B_cw (S : StOK V g) {s : List Nat} (B : BU f n q s) (b : Bool) (ho : s.length + 20 ≤ 290) : ∃ f1 n1, p_J4_append_15ec4 V g f n q (cwU V b) = some (q, f1, n1) ∧ BDo f f1 n n1 q (s ++ (cwt b ++ [32])) := by
  cases b with
  | true => exact B_str S B (i := 14) (by omega) (w := cwt true ++ [32]) (by decide) ho
  | false => exact B_str S B (i := 15) (by omega) (w := cwt false ++ [32]) (by decide) ho
theorem B_sp (S : StOK V g) {s : List Nat} (B : BU f n q s) (ho : s.length + 20 ≤ 290) : ∃ f1 n1, p_J4_append_15ec4 V g f n q (V 52) = some (q, f1, n1) ∧ BDo f f1 n n1 q (s ++ [32]) := B_str S B (i := 16) (by omega) (w := [32]) (by decide) ho
theorem B_cm (S : StOK V g) {s : List Nat} (B : BU f n q s) (ho : s.length + 20 ≤ 290) : ∃ f1 n1, p_J4_append_15ec4 V g f n q (V 53) = some (q, f1, n1) ∧ BDo f f1 n n1 q (s ++ [44]) := B_str S B (i := 17) (by omega) (w := [44]) (by decide) ho
theorem B_mi (S : StOK V g) {s : List Nat} (B : BU f n q s) (ho : s.length + 20 ≤ 290) : ∃ f1 n1, p_J4_append_15ec4 V g f n q (V 54) = some (q, f1, n1) ∧ BDo f f1 n n1 q (s ++ [32, 45]) := B_str S B (i := 18) (by omega) (w := [32, 45]) (by decide) ho
theorem AO.cj {P Q : Nat → Nat → GH → Nat → Option (Int32 × GH × Nat)} (h : AO V T P) (e : ∀ x y f n, JR f x T → Q x y f n = P x y f n) : AO V T Q := by
  obtain ⟨T1, b, h⟩ := h
  refine ⟨T1, b, fun f x y n hs u p H S h1 h2 h3 h4 => ?_⟩
  obtain ⟨bs, cc, I⟩ := id h4
  rw [e x y f n I.jr]
  exact h f x y n hs u p H S h1 h2 h3 h4
theorem A_88 (S0 : StOK V g) (I : JV V f x T hs u p H S 0 bs cc) (hW : WZ f y) (hy1 : x + 235 ≤ y) (hyq : y < q) (B : BU f n q []) (h6 : tN T < 6) (b : Bool) (v : Int32) : ∃ f1 n1, p_L_act_j88 V g x y v (nn (tN T)) (bz b) (cwU V b) q f n = some ((1 : Int32), f1, n1) ∧ JW V f1 x (ac_T b v T) hs (h_pu u) (h_pp p) (h_pH u H T) S ∧ WZ f1 y ∧ (∀ a, a < x ∨ x + 235 ≤ a → a < q → a ≠ y → f1 a = f a) ∧ n ≤ n1 := by
  have hm : ∀ f v, p_L_most V g f v (90 : Int32) = some (nn (mo v 90)) := fun f v => L_most V g f v (b := 90) (by omega) (by omega)
  have hb : ∀ v, mo v 90 < 100 := fun v => Nat.lt_trans (mo_lt v (by omega)) (by omega)
  have htx : ac_t b v = cwt b ++ 32 :: (dg (mo v 90) ++ 32 :: (dg (mo (v >>> ((1 : Int32) &&& 31)) 90) ++ 44 :: (dg (mo (v >>> ((2 : Int32) &&& 31)) 90) ++ 32 :: (dg (mo (v >>> ((3 : Int32) &&& 31)) 90) ++ 44 :: (dg (mo (v >>> ((4 : Int32) &&& 31)) 90) ++ 32 :: 45 :: (dg (mo (v >>> ((5 : Int32) &&& 31)) 90) ++ [])))))) := rfl
  have hal : al (ac_t b v) := al_ct (ac_b v) al_nil
  have hlo := lone_ok (B := tB (ac_t b v)) (L := (ac_t b v).length) (isl := b) (q := (ac_p v).1) (P := (ac_p v).2) (ac_b v) (At_t hal) (by show 2 ≤ 2; omega) (by show 2 ≤ 30; omega)
  have e0 := hb v
  have e1 := hb (v >>> ((1 : Int32) &&& 31))
  have e2 := hb (v >>> ((2 : Int32) &&& 31))
  have e3 := hb (v >>> ((3 : Int32) &&& 31))
  have e4 := hb (v >>> ((4 : Int32) &&& 31))
  have e5 := hb (v >>> ((5 : Int32) &&& 31))
  have l0 := dg_2 e0
  have l1 := dg_2 e1
  have l2 := dg_2 e2
  have l3 := dg_2 e3
  have l4 := dg_2 e4
  have l5 := dg_2 e5
  have lc : (cwt b).length ≤ 6 := by cases b <;> decide
  unfold p_L_act_j88
  obtain ⟨f1, n1, c1, B1, s1, o1⟩ := B_cw S0 B b (by show 0 + 20 ≤ 290; omega)
  rw [c1, ob_s]
  dsimp only
  rw [hm, ob_s]
  obtain ⟨f2, n2, c2, B2, s2, o2⟩ := B_num S0 B1 e0 (by simp only [List.length_append, List.length_cons, List.length_nil]; omega)
  rw [c2, ob_s]
  dsimp only
  obtain ⟨f3, n3, c3, B3, s3, o3⟩ := B_sp S0 B2 (by simp only [List.length_append, List.length_cons, List.length_nil]; omega)
  rw [c3, ob_s]
  dsimp only
  rw [hm, ob_s]
  obtain ⟨f4, n4, c4, B4, s4, o4⟩ := B_num S0 B3 e1 (by simp only [List.length_append, List.length_cons, List.length_nil]; omega)
  rw [c4, ob_s]
  dsimp only
  obtain ⟨f5, n5, c5, B5, s5, o5⟩ := B_cm S0 B4 (by simp only [List.length_append, List.length_cons, List.length_nil]; omega)
  rw [c5, ob_s]
  dsimp only
  rw [hm, ob_s]
  obtain ⟨f6, n6, c6, B6, s6, o6⟩ := B_num S0 B5 e2 (by simp only [List.length_append, List.length_cons, List.length_nil]; omega)
  rw [c6, ob_s]
  dsimp only
  obtain ⟨f7, n7, c7, B7, s7, o7⟩ := B_sp S0 B6 (by simp only [List.length_append, List.length_cons, List.length_nil]; omega)
  rw [c7, ob_s]
  dsimp only
  rw [hm, ob_s]
  obtain ⟨f8, n8, c8, B8, s8, o8⟩ := B_num S0 B7 e3 (by simp only [List.length_append, List.length_cons, List.length_nil]; omega)
  rw [c8, ob_s]
  dsimp only
  obtain ⟨f9, n9, c9, B9, s9, o9⟩ := B_cm S0 B8 (by simp only [List.length_append, List.length_cons, List.length_nil]; omega)
  rw [c9, ob_s]
  dsimp only
  rw [hm, ob_s]
  obtain ⟨f10, n10, c10, B10, s10, o10⟩ := B_num S0 B9 e4 (by simp only [List.length_append, List.length_cons, List.length_nil]; omega)
  rw [c10, ob_s]
  dsimp only
  obtain ⟨f11, n11, c11, B11, s11, o11⟩ := B_mi S0 B10 (by simp only [List.length_append, List.length_cons, List.length_nil]; omega)
  rw [c11, ob_s]
  dsimp only
  rw [hm, ob_s]
  obtain ⟨f12, n12, c12, B12, s12, o12⟩ := B_num S0 B11 e5 (by simp only [List.length_append, List.length_cons, List.length_nil]; omega)
  rw [c12, ob_s]
  dsimp only
  have etx : ([] ++ (cwt b ++ [32]) ++ dg (mo v 90) ++ [32] ++ dg (mo (v >>> ((1 : Int32) &&& 31)) 90) ++ [44] ++ dg (mo (v >>> ((2 : Int32) &&& 31)) 90) ++ [32] ++ dg (mo (v >>> ((3 : Int32) &&& 31)) 90) ++ [44] ++ dg (mo (v >>> ((4 : Int32) &&& 31)) 90) ++ [32, 45] ++ dg (mo (v >>> ((5 : Int32) &&& 31)) 90)) = ac_t b v := by
    rw [htx]
    simp only [List.append_assoc, List.cons_append, List.nil_append, List.append_nil]
  rw [etx] at B12
  have hlen : (ac_t b v).length ≤ 30 := by
    rw [htx]
    simp only [List.length_append, List.length_cons, List.length_nil]
    omega
  obtain ⟨f13, c13, X13, o13⟩ := B_tos (V := V) (g := g) B12
  rw [c13, ob_s]
  dsimp only
  have ltq : q < n12 := by
    obtain ⟨va, cap, ml, bs, BB⟩ := B12
    have := BB.1
    omega
  have o : ∀ a, a < q → f13 a = f a := fun a ha => by rw [o13 a (by omega), o12 a ha, o11 a ha, o10 a ha, o9 a ha, o8 a ha, o7 a ha, o6 a ha, o5 a ha, o4 a ha, o3 a ha, o2 a ha, o1 a ha]
  have I13 := I.frame (f1 := f13) (fun a h1 h2 => o a (by omega))
  have W13 : WZ f13 y := hW.fr (o y hyq)
  rw [R_ad I13.jr, ob_s]
  obtain ⟨f14, bs14, c14, I14, A14, Y14, T14, o14⟩ := L_say (g := g) I13 W13 X13 hy1 (by omega) (by omega) (by omega) (by omega) (fun j _ => hal.at j) (by omega)
  rw [c14, ob_s]
  obtain ⟨f15, bs15, bl, c15, h15, k15, I15, W15, Y15, o15⟩ := L_end (g := g) I14 A14 Y14 T14 hy1 (by omega)
  rw [c15, ob_s]
  dsimp only
  obtain ⟨f16, bs16, c16, I16, o16⟩ := J_add (L := (ac_t b v).length) S0 I15 h6 h15 (B := tB (ac_t b v)) (fun i hi => by rw [Y15 i hi]; exact BR_nn (hal.at i)) hlo.1
  have hc : tC (ts_add T (c_lone (tB (ac_t b v)) (ac_t b v).length)) (tN T) = c_lone (tB (ac_t b v)) (ac_t b v).length := if_pos rfl
  have hk : tN T < tN (ts_add T (c_lone (tB (ac_t b v)) (ac_t b v).length)) := by show tN T < tN T + 1; omega
  have h3 : cN (c_lone (tB (ac_t b v)) (ac_t b v).length) = 3 := hlo.2.1
  rw [c16, nt_r, ob_s]
  dsimp only
  rw [if_pos rfl, R_cnt I16.jr hk, ob_s, hc, h3, if_pos (show nn 3 = (3 : Int32) from rfl), R_isl I16.jr hk, ob_s, hc, hlo.2.2, if_pos rfl, R_ad I16.jr, ob_s, if_pos (by show tA T + nn (cN (c_lone (tB (ac_t b v)) (ac_t b v).length)) = _; rw [h3]; rfl), J_err I16, ob_s, if_pos rfl]
  refine ⟨f16, n12 + 2, rfl, ⟨bs16, 0, I16⟩, W15.fr (o16 y (by omega)), fun a h1 h2 h4 => by rw [o16 a h1, o15 a h1 h4, o14 a h1 h4, o a h2], by omega⟩
theorem A_53 (S0 : StOK V g) (h6 : tN T < 6) (v : Int32) : AO V T (fun x y f n => p_L_act_j53 V g x y v (nn (tN T)) f n) := by
  have main : ∀ b : Bool, (∀ f x y n, p_L_act_j53 V g x y v (nn (tN T)) f n = p_L_act_j67 V g x y v (nn (tN T)) (bz b) f n) → AO V T (fun x y f n => p_L_act_j53 V g x y v (nn (tN T)) f n) := by
    intro b hb
    refine ⟨ac_T b v T, true, fun f x y n hs u p H S hy1 hy2 hW hJ => ?_⟩
    obtain ⟨bs, cc, I⟩ := hJ
    obtain ⟨f1, c1, B1, s1, o1⟩ := B_new (V := V) (g := g) f n
    have I1 := I.frame (f1 := f1) (fun a h1 h2 => o1 a (by omega))
    obtain ⟨f2, n2, c2, J2, W2, o2, l2⟩ := A_88 S0 I1 (hW.fr (o1 y hy2)) hy1 hy2 B1 h6 b v
    refine ⟨f2, n2, ?_, Or.inl ⟨rfl, J2⟩, W2, fun a h1 h2 h3 => (o2 a h1 h2 h3).trans (o1 a h2), by omega⟩
    dsimp only
    rw [hb]
    unfold p_L_act_j67
    rw [ob_s, c1, ob_s]
    dsimp only
    cases b with
    | true => rw [if_neg (show ¬ bz true = (0 : Int32) by decide)]; exact c2
    | false => rw [if_pos (show bz false = (0 : Int32) by decide)]; exact c2
  have hm : ∀ f, p_L_most V g f v (2 : Int32) = some (nn (mo v 2)) := fun f => L_most V g f v (b := 2) (by omega) (by omega)
  have h2 := mo_lt v (show 1 ≤ 2 by omega)
  by_cases c : mo v 2 = 0
  · refine main true (fun f x y n => ?_)
    unfold p_L_act_j53
    rw [hm, ob_s, c, if_pos (show nn 0 = (0 : Int32) from rfl)]
    rfl
  · refine main false (fun f x y n => ?_)
    unfold p_L_act_j53
    rw [hm, ob_s, if_neg (fun e => c (by rw [n_0, nn_eq (by omega) (by omega)] at e; exact e))]
    rfl
/-- what act does -/
theorem L_act (S0 : StOK V g) (hv : TV T) (v : Int32) : AO V T (fun x y f n => p_L_act V g f n x y v) := by
  have h6 := hv.1
  have hm : ∀ f, p_L_most V g f v (18 : Int32) = some (nn (mo v 18)) := fun f => L_most V g f v (b := 18) (by omega) (by omega)
  have h18 := mo_lt v (show 1 ≤ 18 by omega)
  by_cases c : tN T = 0
  · refine AO.cj (A_53 (g := g) S0 (by omega) (v >>> ((4 : Int32) &&& 31))) (fun x y f n J => ?_)
    unfold p_L_act p_L_act_j34
    rw [hm, ob_s, R_n J, ob_s, c, if_pos (show nn 0 = (0 : Int32) from rfl), if_pos (show nn 0 = (0 : Int32) from rfl)]
  · have hk := mo_lt (v >>> ((4 : Int32) &&& 31)) (show 1 ≤ tN T by omega)
    by_cases d : 2 ≤ mo v 18 ∨ 6 ≤ tN T
    · refine AO.cj (A_263 (g := g) S0 hv hk h18 (v >>> ((4 : Int32) &&& 31))) (fun x y f n J => ?_)
      unfold p_L_act p_L_act_j34
      rw [hm, ob_s, R_n J, ob_s, if_neg (fun e => c (by rw [n_0, nn_eq (by omega) (by omega)] at e; exact e)), L_most V g f _ (b := tN T) (by omega) (by omega), ob_s, if_neg (fun e => c (by rw [n_0, nn_eq (by omega) (by omega)] at e; exact e))]
      by_cases d1 : 2 ≤ mo v 18
      · rw [if_pos (by rw [n_2, nn_le (by omega) (by omega)]; exact d1)]
      · rw [if_neg (by rw [n_2, nn_le (by omega) (by omega)]; exact d1), if_pos (by rw [show (6 : Int32) = nn 6 from rfl, nn_le (by omega) (by omega)]; omega)]
    · refine AO.cj (A_53 (g := g) S0 (by omega) (v >>> ((4 : Int32) &&& 31))) (fun x y f n J => ?_)
      unfold p_L_act p_L_act_j34
      rw [hm, ob_s, R_n J, ob_s, if_neg (fun e => c (by rw [n_0, nn_eq (by omega) (by omega)] at e; exact e)), L_most V g f _ (b := tN T) (by omega) (by omega), ob_s, if_neg (fun e => c (by rw [n_0, nn_eq (by omega) (by omega)] at e; exact e)), if_neg (by rw [n_2, nn_le (by omega) (by omega)]; omega), if_neg (by rw [show (6 : Int32) = nn 6 from rfl, nn_le (by omega) (by omega)]; omega)]
end AB

/-! ===== the law, whole ===== -/
theorem al_ma : ∀ C : List CT, (∀ c ∈ C, ct_b c) → al (ma_t C) := by
  intro C
  induction C with
  | nil => intro _; exact al_nil
  | cons c C ih =>
    intro h
    exact al_ct (h c (List.mem_cons_self ..)).1 (al.co (by omega) (ih (fun d hd => h d (List.mem_cons_of_mem _ hd))))
def hdr (kg : Bool) : List Nat := [109, 97, 112] ++ 32 :: (mwt kg ++ [59])
def hdV (V : Nat → Nat) (kg : Bool) : Nat := if kg then V 55 else V 56
section MD
variable {V : Nat → Nat} {g f : GH} {x y b L n : Nat} {r : Nat → Int32}
theorem M_38 (S0 : StOK V g) (hb : gA g b = some (.inl (0, L, .inl r))) (hL : L ≤ 260) (F : FIN V f x) (hW : WZ f y) (hy : x + 315 ≤ y) {q0 : Nat} (hq : y < q0) (kg : Bool) (v : Int32) : ∃ f1 n1, p_L_law_j38 V g b x y v (hdV V kg) q0 q0 (h_up f q0 (.inr (1, [.null, .int 0, .int 0, .int 0]))) (q0 + 1) = some ((1 : Int32), f1, n1) := by
  have hlen : (hdr kg).length ≤ 12 := by cases kg <;> decide
  obtain ⟨f1, n1, c1, B1, s1, o1⟩ : ∃ f1 n1, p_J4_init_a7421 V g (h_up f q0 (.inr (1, [.null, .int 0, .int 0, .int 0]))) (q0 + 1) q0 (hdV V kg) = some (f1, n1) ∧ BDo f f1 q0 n1 q0 (hdr kg) := by
    cases kg with
    | true => exact B_newS S0 f q0 (i := 19) (by omega) (w := hdr true) (by decide)
    | false => exact B_newS S0 f q0 (i := 20) (by omega) (w := hdr false) (by decide)
  have hm5 : p_L_most V g f1 (v >>> ((1 : Int32) &&& 31)) (5 : Int32) = some (nn (mo (v >>> ((1 : Int32) &&& 31)) 5)) := L_most V g f1 _ (b := 5) (by omega) (by omega)
  have h5 := mo_lt (v >>> ((1 : Int32) &&& 31)) (show 1 ≤ 5 by omega)
  unfold p_L_law_j38
  rw [c1, ob_s]
  dsimp only
  rw [hm5, ob_s]
  generalize mo (v >>> ((1 : Int32) &&& 31)) 5 = m at *
  obtain ⟨C, f2, n2, hC, hcb, hl, c2, B2, s2, o2⟩ := M_55 S0 hb hL (x1 := x) (x2 := y) (m := m) (by omega) (K := fun x0 x1 x2 x4 x5 f n =>
    (p_J4_toString_0e30d V g f n x4).bind fun v28 =>
    (p_L_say V g v28.2.1 x1 x2 v28.1).bind fun v29 =>
    (p_L_end V g v29 x1 x2).bind fun v30 =>
    (h_nt (p_X7_loadMap V g v30.2 x1 v30.1)).bind fun v31 =>
    (if v31.1 = x5 then
      (p_X7_undoableCount V g v31.2 x1).bind fun v33 =>
      (if v33 = (0 : Int32) then
        (p_X7_addedPoints V g v31.2 x1).bind fun v35 =>
        (if v35 = (0 : Int32) then
          p_L_law_l279 V g (fun f n =>
            some ((0 : Int32), f, n)) (fun f n =>
            some ((0 : Int32), f, n)) (fun f n =>
            some ((0 : Int32), f, n)) (fun f n =>
            some ((0 : Int32), f, n)) (kSave V g) 25 x0 x1 x2 (0 : Int32) v31.2 v28.2.2
        else
          some ((0 : Int32), v31.2, v28.2.2))
      else
        some ((0 : Int32), v31.2, v28.2.2))
    else
      some ((0 : Int32), v31.2, v28.2.2))) m 5 0 f1 n1 (hdr kg) (by omega) (by omega) B1 (by omega)
  suffices hs : ∃ f3 n3, p_L_law_l55 V g (fun x0 x1 x2 x4 x5 f n =>
    (p_J4_toString_0e30d V g f n x4).bind fun v28 =>
    (p_L_say V g v28.2.1 x1 x2 v28.1).bind fun v29 =>
    (p_L_end V g v29 x1 x2).bind fun v30 =>
    (h_nt (p_X7_loadMap V g v30.2 x1 v30.1)).bind fun v31 =>
    (if v31.1 = x5 then
      (p_X7_undoableCount V g v31.2 x1).bind fun v33 =>
      (if v33 = (0 : Int32) then
        (p_X7_addedPoints V g v31.2 x1).bind fun v35 =>
        (if v35 = (0 : Int32) then
          p_L_law_l279 V g (fun f n =>
            some ((0 : Int32), f, n)) (fun f n =>
            some ((0 : Int32), f, n)) (fun f n =>
            some ((0 : Int32), f, n)) (fun f n =>
            some ((0 : Int32), f, n)) (kSave V g) 25 x0 x1 x2 (0 : Int32) v31.2 v28.2.2
        else
          some ((0 : Int32), v31.2, v28.2.2))
      else
        some ((0 : Int32), v31.2, v28.2.2))
    else
      some ((0 : Int32), v31.2, v28.2.2))) 5 b x y q0 (nn m) (nn 0) f1 n1 = some ((1 : Int32), f3, n3) from hs
  rw [c2]
  have htx : hdr kg ++ ma_t C = [109, 97, 112] ++ 32 :: (mwt kg ++ 59 :: ma_t C) := by
    unfold hdr
    simp only [List.append_assoc, List.cons_append, List.nil_append]
  have hal : al (hdr kg ++ ma_t C) := (show al (hdr kg) by cases kg <;> (unfold al; decide)).ap (al_ma C hcb)
  have htl : (hdr kg ++ ma_t C).length ≤ 264 := by
    rw [List.length_append]
    omega
  have hwo := whole_ok (B := tB (hdr kg ++ ma_t C)) (L := (hdr kg ++ ma_t C).length) (kg := kg) (C := C) hcb (by omega) (by rw [← htx]; exact At_t hal)
  generalize hdr kg ++ ma_t C = s at *
  have ltq : q0 < n2 := by
    obtain ⟨va, cap, ml, bs, BB⟩ := B2
    have := BB.1
    omega
  obtain ⟨f3, c3, X3, o3⟩ := B_tos (V := V) (g := g) B2
  have o : ∀ a, a < q0 → f3 a = f a := fun a ha => by rw [o3 a (by omega), o2 a ha, o1 a ha]
  have I3 := (J_fin F).frame (f1 := f3) (fun a h1 h2 => o a (by omega))
  have W3 : WZ f3 y := hW.fr (o y hq)
  obtain ⟨f4, bs4, c4, I4, A4, Y4, T4, o4⟩ := L_say (g := g) I3 W3 X3 (by omega) (by omega) (by omega) (by omega) (by omega) (fun j _ => hal.at j) (by omega)
  obtain ⟨f5, bs5, bl, c5, h5l, k5, I5, W5, Y5, o5⟩ := L_end (g := g) I4 A4 Y4 T4 (by omega) (by omega)
  obtain ⟨f6, bs6, c6, I6, o6⟩ := J_load (L := s.length) S0 I5 h5l (B := tB s) (fun i hi => by rw [Y5 i hi]; exact BR_nn (hal.at i)) hwo.1
  have J6 : JT V f6 x y (n2 + 2) 0 (T_new M_3 0) := ⟨⟨_, _, _, _, _, _, I6⟩, W5.fr (o6 y (by omega)), by omega, by omega⟩
  obtain ⟨f7, n7, c7, J7⟩ := T_279 (K0 := fun f n => some ((0 : Int32), f, n)) (K1 := fun f n => some ((0 : Int32), f, n)) (K2 := fun f n => some ((0 : Int32), f, n)) (K4 := fun f n => some ((0 : Int32), f, n)) (K5 := kSave V g) S0 hb hL 24 25 0 f6 (n2 + 2) (by omega) (by omega) J6
  obtain ⟨f8, n8, c8⟩ := T_save S0 hb hL J7
  refine ⟨f8, n8, ?_⟩
  rw [c3, ob_s]
  dsimp only
  rw [c4, ob_s, c5, ob_s]
  dsimp only
  rw [c6, nt_r, ob_s]
  dsimp only
  rw [if_pos (by rw [hwo.2, hC]), J_und I6, ob_s, if_pos (show nn 0 = (0 : Int32) from rfl), R_ad I6.jr, ob_s, if_pos (show tA (T_new _ _) = 0 from rfl)]
  exact c7.trans c8
end MD
theorem law_ok (V : Nat → Nat) (g : GH) (n0 b L : Nat) (xs : Nat → Int32) (S0 : StOK V g) (_h0 : V 0 = n0) (hL : L ≤ 260) (hx : ∃ r, gA g b = some (.inl (0, L, .inl r)) ∧ ∀ j, j < L → r j = xs j) : ∃ (f : GH) (n : Nat), p_L_law V g (fun _ => none) n0 b = some ((1 : Int32), f, n) := by
  obtain ⟨r, hb, -⟩ := hx
  obtain ⟨f1, c1, F1, o1⟩ := I_X7 (V := V) (g := g) S0 (fun _ => none) n0
  obtain ⟨v, hv⟩ : ∃ v, ∀ f, p_L_cell V g f b (0 : Int32) = some v := L_cell (V := V) (j := 0) hb hL (by omega)
  have hm : ∀ f, p_L_most V g f v (2 : Int32) = some (nn (mo v 2)) := fun f => L_most V g f v (b := 2) (by omega) (by omega)
  have h2 := mo_lt v (show 1 ≤ 2 by omega)
  have hy : ∀ a, a ≠ n0 + 315 → h_up f1 (n0 + 315) (.inl (0, 6, .inl fun _ => 0)) a = f1 a := fun a ha => h_up_n _ _ ha
  have W : WZ (h_up f1 (n0 + 315) (.inl (0, 6, .inl fun _ => 0))) (n0 + 315) := ⟨fun _ => 0, h_up_s _ _ _, fun _ _ => rfl⟩
  have F : FIN V (h_up f1 (n0 + 315) (.inl (0, 6, .inl fun _ => 0))) n0 := by
    obtain ⟨i1, i2, i3, ⟨ra, p1, p2⟩, ⟨rb, q1, q2⟩⟩ := F1
    exact ⟨i1.fr (hy _ (by omega)), i2.frame (fun a h1 h2 => hy a (by omega)), i3.frame (fun a h => hy a (by omega)), ⟨ra, (hy _ (by omega)).trans p1, fun j hj => ⟨(p2 j hj).1, (p2 j hj).2.frame (fun a h1 h2 => hy a (by omega))⟩⟩, ⟨rb, (hy _ (by omega)).trans q1, fun j hj => ⟨(q2 j hj).1, (q2 j hj).2.frame (fun a h1 h2 => hy a (by omega))⟩⟩⟩
  unfold p_L_law
  rw [ob_s, c1, ob_s]
  dsimp only
  rw [ob_s, hv, ob_s, ob_s, hm, ob_s]
  by_cases c : mo v 2 = 0
  · rw [c, if_pos (show nn 0 = (0 : Int32) from rfl)]
    exact M_38 S0 hb hL F W (Nat.le_refl _) (q0 := n0 + 315 + 1) (by omega) true v
  · rw [if_neg (fun e => c (by rw [n_0, nn_eq (by omega) (by omega)] at e; exact e))]
    exact M_38 S0 hb hL F W (Nat.le_refl _) (q0 := n0 + 315 + 1) (by omega) false v

/-! ===== the law's steps and its beginning ===== -/
def IVx (V : Nat → Nat) (x m o d : Nat) (f : GH) : Prop := ∃ z A T hs u p H S, IV V x m o d f z A T hs u p H S
theorem ite_ok {α : Type} {c : Prop} [Decidable c] {a b : Option α} {P : α → Prop} (h1 : ∃ f, a = some f ∧ P f) (h2 : ∃ f, b = some f ∧ P f) : ∃ f, (if c then a else b) = some f ∧ P f := by
  by_cases h : c
  · rw [if_pos h]; exact h1
  · rw [if_neg h]; exact h2
section PS2
variable {V : Nat → Nat} {g f : GH} {x m o d u p n x0 : Nat} {z : Nat → Int32} {A : Nat → Nat → Int32} {T S : TS} {H : Nat → TS} {hs x5 : Int32}
theorem rdx (I : IV V x m o d f z A T hs u p H S) {r : Option GH} (h : ∃ f1, r = some f1 ∧ Rd V x m 0 o d z A f f1) : ∃ f1, r = some f1 ∧ IVx V x m o d f1 := by
  obtain ⟨f1, e, h⟩ := h
  obtain ⟨z1, A1, I1⟩ := I.rd h
  exact ⟨f1, e, _, _, _, _, _, _, _, _, I1⟩
theorem IV.spare {f2 : GH} (I : IV V x m o d f z A T hs u p H S) (e : h_out (x + 70) (x + 73) f f2) (hc : ∃ c1, CoA f2 (x + 70) 129 c1) : IV V x m o d f2 z A T hs u p H S := by
  obtain ⟨F, r, t, zz, ⟨x1, x2, x3, x4⟩, ⟨v, q1, q2, q3, q4, q5, cq, hK⟩, ⟨T0, k1⟩, ⟨T1, k2⟩, ⟨bl, len, kd, st, nx, bs, t1, t2, t3, t4, t5⟩, ⟨it, kg, g1, g2⟩, ⟨⟨ra, s1, s2⟩, s3⟩, _, ⟨va, cap, ol, bb, ml, b1, b2, b3, b4, b5, b6, b7, b8, b9, b10⟩⟩ := I
  have hm := F.2.2.2.1
  have hod := F.2.2.2.2
  refine ⟨F.up (fun a h1 h2 => e a (by omega)), r, t, zz, ⟨x1.fr (e x (by omega)), x2.frame (fun a h1 h2 => e a (by omega)), x3.frame (fun a h => e a (by omega)), fun h => (x4 h).frame (fun a h1 h2 => e a (by omega))⟩, ⟨v, q1, q2, q3, q4, q5, cq, hK.frame (fun a h1 h2 => e a (by omega))⟩, ⟨T0, k1.frame (fun a h1 h2 => e a (by omega))⟩, ⟨T1, k2.frame (fun a h1 h2 => e a (by omega))⟩, ⟨bl, len, kd, st, nx, bs, t1, t2, (e _ (by omega)).trans t3, (e _ (by omega)).trans t4, t5⟩, ⟨it, kg, (e _ (by omega)).trans g1, g2⟩, ⟨⟨ra, (e _ (by omega)).trans s1, s2⟩, fun j hj => ?_⟩, hc, ⟨va, cap, ol, bb, ml, b1, b2, b3, b4, b5, (e _ (by omega)).trans b6, (e _ (by omega)).trans b7, b8, b9, b10⟩⟩
  obtain ⟨v, a, q, r, w, k, c, hc⟩ := s3 j hj
  exact ⟨v, a, q, r, w, k, c, hc.frame (fun b h1 h2 => e b (by omega))⟩
theorem step_ok {v p1 p2 p3 p4 p5 : Int32} (S0 : StOK V g) (hn : ∀ a e, f a = some e → a < n) (I : IV V x m o d f z A T hs u p H S) (h0 : h_li (gA g) x0 0 x5 = some v) (h1 : h_li (gA g) x0 0 (x5 + (1 : Int32)) = some p1) (h2 : h_li (gA g) x0 0 (x5 + (2 : Int32)) = some p2) (h3 : h_li (gA g) x0 0 (x5 + (3 : Int32)) = some p3) (h4 : h_li (gA g) x0 0 (x5 + (4 : Int32)) = some p4) (h5 : h_li (gA g) x0 0 (x5 + (5 : Int32)) = some p5) : ∃ f1, p_step V g f n x0 x m o d x5 = some f1 ∧ IVx V x m o d f1 := by
  obtain ⟨c0, hsp⟩ := I.2.2.2.2.2.2.2.2.2.2.2.1
  have r0 : ∃ f1, p_case_0 V g f n x0 x m o d x5 = some f1 ∧ IVx V x m o d f1 := by
    obtain ⟨f2, e, w0, w1, I1⟩ := case_0 (V := V) (g := g) (n := n) (x0 := x0) (x5 := x5) I h1 h2 h3 h4 h5
    exact ⟨f2, e, _, _, _, _, _, _, _, _, I1⟩
  have r1 : ∃ f1, p_case_1 V g f n x0 x m o d x5 = some f1 ∧ IVx V x m o d f1 := by
    obtain ⟨f2, e, w0, w1, w2, w3, w4, w5, w6, I1⟩ := case_1 (V := V) (g := g) (n := n) (x0 := x0) (x5 := x5) S0 I h1
    exact ⟨f2, e, _, _, _, _, _, _, _, _, I1⟩
  have r2 : ∃ f1, p_case_2 V g f n x0 x m o d x5 = some f1 ∧ IVx V x m o d f1 := by
    obtain ⟨f2, e, w0, w1, I1⟩ := case_2 (V := V) (g := g) (n := n) (x0 := x0) (x5 := x5) I 
    exact ⟨f2, e, _, _, _, _, _, _, _, _, I1⟩
  have r3 : ∃ f1, p_case_3 V g f n x0 x m o d x5 = some f1 ∧ IVx V x m o d f1 := by
    obtain ⟨f2, e, w0, w1, I1⟩ := case_3 (V := V) (g := g) (n := n) (x0 := x0) (x5 := x5) I 
    exact ⟨f2, e, _, _, _, _, _, _, _, _, I1⟩
  have r4 : ∃ f1, p_case_4 V g f n x0 x m o d x5 = some f1 ∧ IVx V x m o d f1 := rdx I (case_4 I.bs )
  have r5 : ∃ f1, p_case_5 V g f n x0 x m o d x5 = some f1 ∧ IVx V x m o d f1 := rdx I (case_5 I.bs )
  have r6 : ∃ f1, p_case_6 V g f n x0 x m o d x5 = some f1 ∧ IVx V x m o d f1 := rdx I (case_6 I.bs h1)
  have r7 : ∃ f1, p_case_7 V g f n x0 x m o d x5 = some f1 ∧ IVx V x m o d f1 := rdx I (case_7 I.bs h1)
  have r8 : ∃ f1, p_case_8 V g f n x0 x m o d x5 = some f1 ∧ IVx V x m o d f1 := rdx I (case_8 I.bs h1 h2)
  have r9 : ∃ f1, p_case_9 V g f n x0 x m o d x5 = some f1 ∧ IVx V x m o d f1 := rdx I (case_9 I.bs h1 h2)
  have r10 : ∃ f1, p_case_10 V g f n x0 x m o d x5 = some f1 ∧ IVx V x m o d f1 := rdx I (case_10 I.bs h1 h2 h3)
  have r11 : ∃ f1, p_case_11 V g f n x0 x m o d x5 = some f1 ∧ IVx V x m o d f1 := rdx I (case_11 I.bs h1 h2 h3)
  have r12 : ∃ f1, p_case_12 V g f n x0 x m o d x5 = some f1 ∧ IVx V x m o d f1 := rdx I (case_12 I.bs h1 h2)
  have r13 : ∃ f1, p_case_13 V g f n x0 x m o d x5 = some f1 ∧ IVx V x m o d f1 := rdx I (case_13 I.bs h1 h2)
  have r14 : ∃ f1, p_case_14 V g f n x0 x m o d x5 = some f1 ∧ IVx V x m o d f1 := rdx I (case_14 I.bs h1 h2 h3)
  have r15 : ∃ f1, p_case_15 V g f n x0 x m o d x5 = some f1 ∧ IVx V x m o d f1 := rdx I (case_15 I.bs h1 h2 h3)
  have r16 : ∃ f1, p_case_16 V g f n x0 x m o d x5 = some f1 ∧ IVx V x m o d f1 := rdx I (case_16 I.bs h1 h2)
  have r17 : ∃ f1, p_case_17 V g f n x0 x m o d x5 = some f1 ∧ IVx V x m o d f1 := rdx I (case_17 I.bs h1 h2)
  have r18 : ∃ f1, p_case_18 V g f n x0 x m o d x5 = some f1 ∧ IVx V x m o d f1 := rdx I (case_18 I.bs h1)
  have r19 : ∃ f1, p_case_19 V g f n x0 x m o d x5 = some f1 ∧ IVx V x m o d f1 := rdx I (case_19 I.bs h1 h2)
  have r20 : ∃ f1, p_case_20 V g f n x0 x m o d x5 = some f1 ∧ IVx V x m o d f1 := rdx I (case_20 I.bs h1)
  have r21 : ∃ f1, p_case_21 V g f n x0 x m o d x5 = some f1 ∧ IVx V x m o d f1 := rdx I (case_21 I.bs h1)
  have r22 : ∃ f1, p_case_22 V g f n x0 x m o d x5 = some f1 ∧ IVx V x m o d f1 := rdx I (case_22 I.bs h1)
  have r23 : ∃ f1, p_case_23 V g f n x0 x m o d x5 = some f1 ∧ IVx V x m o d f1 := rdx I (case_23 I.bs h1 h2)
  have r24 : ∃ f1, p_case_24 V g f n x0 x m o d x5 = some f1 ∧ IVx V x m o d f1 := rdx I (case_24 I.bs h1 h2)
  have r25 : ∃ f1, p_case_25 V g f n x0 x m o d x5 = some f1 ∧ IVx V x m o d f1 := rdx I (case_25 I.bs h1)
  have r26 : ∃ f1, p_case_26 V g f n x0 x m o d x5 = some f1 ∧ IVx V x m o d f1 := rdx I (case_26 I.bs h1)
  have r27 : ∃ f1, p_case_27 V g f n x0 x m o d x5 = some f1 ∧ IVx V x m o d f1 := rdx I (case_27 I.bs h1 h2 h3)
  have r28 : ∃ f1, p_case_28 V g f n x0 x m o d x5 = some f1 ∧ IVx V x m o d f1 := rdx I (case_28 I.bs h1 h2)
  have r29 : ∃ f1, p_case_29 V g f n x0 x m o d x5 = some f1 ∧ IVx V x m o d f1 := rdx I (case_29 I.bs h1)
  have r30 : ∃ f1, p_case_30 V g f n x0 x m o d x5 = some f1 ∧ IVx V x m o d f1 := rdx I (case_30 I.bs h1)
  have r31 : ∃ f1, p_case_31 V g f n x0 x m o d x5 = some f1 ∧ IVx V x m o d f1 := rdx I (case_31 I.bs h1)
  have r32 : ∃ f1, p_case_32 V g f n x0 x m o d x5 = some f1 ∧ IVx V x m o d f1 := rdx I (case_32 I.bs h1)
  have r33 : ∃ f1, p_case_33 V g f n x0 x m o d x5 = some f1 ∧ IVx V x m o d f1 := rdx I (case_33 I.bs h1 h2)
  have r34 : ∃ f1, p_case_34 V g f n x0 x m o d x5 = some f1 ∧ IVx V x m o d f1 := by
    obtain ⟨f2, f1, q1, q2, q3, q4⟩ := case_34 (V := V) (g := g) (n := n) (x0 := x0) (x5 := x5) I.bs hsp (Nat.le_refl _) h1 h2 h3
    obtain ⟨z1, A1, I1⟩ := (I.spare q1 q2).rd q4
    exact ⟨f1, q3, _, _, _, _, _, _, _, _, I1⟩
  have r35 : ∃ f1, p_case_35 V g f n x0 x m o d x5 = some f1 ∧ IVx V x m o d f1 := rdx I (case_35 I.bs h1 h2)
  have r36 : ∃ f1, p_case_36 V g f n x0 x m o d x5 = some f1 ∧ IVx V x m o d f1 := rdx I (case_36 I.bs h1)
  have r37 : ∃ f1, p_case_37 V g f n x0 x m o d x5 = some f1 ∧ IVx V x m o d f1 := rdx I (case_37 I.bs h1 h2)
  have r38 : ∃ f1, p_case_38 V g f n x0 x m o d x5 = some f1 ∧ IVx V x m o d f1 := rdx I (case_38 I.bs )
  have r39 : ∃ f1, p_case_39 V g f n x0 x m o d x5 = some f1 ∧ IVx V x m o d f1 := rdx I (case_39 I.bs )
  have r40 : ∃ f1, p_case_40 V g f n x0 x m o d x5 = some f1 ∧ IVx V x m o d f1 := rdx I (case_40 I.bs )
  have r41 : ∃ f1, p_case_41 V g f n x0 x m o d x5 = some f1 ∧ IVx V x m o d f1 := rdx I (case_41 I.bs )
  have r42 : ∃ f1, p_case_42 V g f n x0 x m o d x5 = some f1 ∧ IVx V x m o d f1 := by
    obtain ⟨f2, e, w0, w1, w2, w3, w4, w5, I1⟩ := case_42 (V := V) (g := g) (n := n) (x0 := x0) (x5 := x5) S0 I h1
    exact ⟨f2, e, _, _, _, _, _, _, _, _, I1⟩
  have r43 : ∃ f1, p_case_43 V g f n x0 x m o d x5 = some f1 ∧ IVx V x m o d f1 := by
    obtain ⟨f2, e, w0, w1, w2, w3, w4, w5, I1⟩ := case_43 (V := V) (g := g) (n := n) (x0 := x0) (x5 := x5) S0 I h1
    exact ⟨f2, e, _, _, _, _, _, _, _, _, I1⟩
  have r44 : ∃ f1, p_case_44 V g f n x0 x m o d x5 = some f1 ∧ IVx V x m o d f1 := by
    obtain ⟨f2, e, w0, w1, w2, w3, w4, w5, I1⟩ := case_44 (V := V) (g := g) (n := n) (x0 := x0) (x5 := x5) S0 I h1 h2
    exact ⟨f2, e, _, _, _, _, _, _, _, _, I1⟩
  have r45 : ∃ f1, p_case_45 V g f n x0 x m o d x5 = some f1 ∧ IVx V x m o d f1 := by
    obtain ⟨f2, e, w0, w1, w2, w3, w4, w5, I1⟩ := case_45 (V := V) (g := g) (n := n) (x0 := x0) (x5 := x5) S0 I h1
    exact ⟨f2, e, _, _, _, _, _, _, _, _, I1⟩
  have r46 : ∃ f1, p_case_46 V g f n x0 x m o d x5 = some f1 ∧ IVx V x m o d f1 := by
    obtain ⟨f2, e, w0, w1, w2, w3, w4, w5, I1⟩ := case_46 (V := V) (g := g) (n := n) (x0 := x0) (x5 := x5) S0 I h1 h2 h3 h4
    exact ⟨f2, e, _, _, _, _, _, _, _, _, I1⟩
  have r47 : ∃ f1, p_case_47 V g f n x0 x m o d x5 = some f1 ∧ IVx V x m o d f1 := by
    obtain ⟨f2, e, w0, w1, w2, w3, w4, w5, I1⟩ := case_47 (V := V) (g := g) (n := n) (x0 := x0) (x5 := x5) S0 I h1 h2 h3 h4
    exact ⟨f2, e, _, _, _, _, _, _, _, _, I1⟩
  have r48 : ∃ f1, p_case_48 V g f n x0 x m o d x5 = some f1 ∧ IVx V x m o d f1 := by
    obtain ⟨f2, e, w0, w1, w2, w3, w4, w5, I1⟩ := case_48 (V := V) (g := g) (n := n) (x0 := x0) (x5 := x5) S0 I h1 h2
    exact ⟨f2, e, _, _, _, _, _, _, _, _, I1⟩
  have r49 : ∃ f1, p_case_49 V g f n x0 x m o d x5 = some f1 ∧ IVx V x m o d f1 := by
    obtain ⟨f2, e, w0, w1, w2, w3, w4, w5, I1⟩ := case_49 (V := V) (g := g) (n := n) (x0 := x0) (x5 := x5) S0 I h1 h2 h3
    exact ⟨f2, e, _, _, _, _, _, _, _, _, I1⟩
  have r50 : ∃ f1, p_case_50 V g f n x0 x m o d x5 = some f1 ∧ IVx V x m o d f1 := by
    obtain ⟨f2, e, w0, w1, w2, w3, w4, w5, I1⟩ := case_50 (V := V) (g := g) (n := n) (x0 := x0) (x5 := x5) S0 I h1
    exact ⟨f2, e, _, _, _, _, _, _, _, _, I1⟩
  have r51 : ∃ f1, p_case_51 V g f n x0 x m o d x5 = some f1 ∧ IVx V x m o d f1 := by
    obtain ⟨f2, e, w0, w1, w2, w3, w4, w5, I1⟩ := case_51 (V := V) (g := g) (n := n) (x0 := x0) (x5 := x5) S0 I h1
    exact ⟨f2, e, _, _, _, _, _, _, _, _, I1⟩
  have r52 : ∃ f1, p_case_52 V g f n x0 x m o d x5 = some f1 ∧ IVx V x m o d f1 := by
    obtain ⟨f2, e, w0, w1, w2, w3, w4, w5, I1⟩ := case_52 (V := V) (g := g) (n := n) (x0 := x0) (x5 := x5) S0 I h1
    exact ⟨f2, e, _, _, _, _, _, _, _, _, I1⟩
  have r53 : ∃ f1, p_case_53 V g f n x0 x m o d x5 = some f1 ∧ IVx V x m o d f1 := by
    obtain ⟨f2, e, w0, w1, I1⟩ := case_53 (V := V) (g := g) (n := n) (x0 := x0) (x5 := x5) S0 I hn h1
    exact ⟨f2, e, _, _, _, _, _, _, _, _, I1⟩
  have r54 : ∃ f1, p_case_54 V g f n x0 x m o d x5 = some f1 ∧ IVx V x m o d f1 := by
    obtain ⟨f2, e, w0, w1, I1⟩ := case_54 (V := V) (g := g) (n := n) (x0 := x0) (x5 := x5) I h1
    exact ⟨f2, e, _, _, _, _, _, _, _, _, I1⟩
  have r55 : ∃ f1, p_case_55 V g f n x0 x m o d x5 = some f1 ∧ IVx V x m o d f1 := by
    obtain ⟨f2, e, w0, w1, I1⟩ := case_55 (V := V) (g := g) (n := n) (x0 := x0) (x5 := x5) I 
    exact ⟨f2, e, _, _, _, _, _, _, _, _, I1⟩
  have r56 : ∃ f1, p_case_56 V g f n x0 x m o d x5 = some f1 ∧ IVx V x m o d f1 := by
    obtain ⟨f2, e, w0, w1, w2, w3, w4, w5, I1⟩ := case_56 (V := V) (g := g) (n := n) (x0 := x0) (x5 := x5) I 
    exact ⟨f2, e, _, _, _, _, _, _, _, _, I1⟩
  have r57 : ∃ f1, p_case_57 V g f n x0 x m o d x5 = some f1 ∧ IVx V x m o d f1 := by
    obtain ⟨f2, e, w0, w1, I1⟩ := case_57 (V := V) (g := g) (n := n) (x0 := x0) (x5 := x5) I 
    exact ⟨f2, e, _, _, _, _, _, _, _, _, I1⟩
  have r58 : ∃ f1, p_case_58 V g f n x0 x m o d x5 = some f1 ∧ IVx V x m o d f1 := by
    obtain ⟨f2, e, w0, w1, w2, w3, w4, w5, I1⟩ := case_58 (V := V) (g := g) (n := n) (x0 := x0) (x5 := x5) I 
    exact ⟨f2, e, _, _, _, _, _, _, _, _, I1⟩
  unfold p_step
  rw [h0, ob_s]
  exact ite_ok r0 (ite_ok r1 (ite_ok r2 (ite_ok r3 (ite_ok r4 (ite_ok r5 (ite_ok r6 (ite_ok r7 (ite_ok r8 (ite_ok r9 (ite_ok r10 (ite_ok r11 (ite_ok r12 (ite_ok r13 (ite_ok r14 (ite_ok r15 (ite_ok r16 (ite_ok r17 (ite_ok r18 (ite_ok r19 (ite_ok r20 (ite_ok r21 (ite_ok r22 (ite_ok r23 (ite_ok r24 (ite_ok r25 (ite_ok r26 (ite_ok r27 (ite_ok r28 (ite_ok r29 (ite_ok r30 (ite_ok r31 (ite_ok r32 (ite_ok r33 (ite_ok r34 (ite_ok r35 (ite_ok r36 (ite_ok r37 (ite_ok r38 (ite_ok r39 (ite_ok r40 (ite_ok r41 (ite_ok r42 (ite_ok r43 (ite_ok r44 (ite_ok r45 (ite_ok r46 (ite_ok r47 (ite_ok r48 (ite_ok r49 (ite_ok r50 (ite_ok r51 (ite_ok r52 (ite_ok r53 (ite_ok r54 (ite_ok r55 (ite_ok r56 (ite_ok r57 (ite_ok r58 (⟨f, rfl, _, _, _, _, _, _, _, _, I⟩)))))))))))))))))))))))))))))))))))))))))))))))))))))))))))
end PS2
theorem law0_ok {V : Nat → Nat} {g : GH} (S0 : StOK V g) (x b : Nat) : ∃ f, p_law0 V g (fun _ => none) x b = some (x, x + 315, x + 315 + 11, x + 315 + 11 + 1, f, x + 315 + 11 + 2) ∧ Inv V x (x + 315) (x + 315 + 11) (x + 315 + 11 + 1) f (x + 315 + 11 + 2) := by
  obtain ⟨F1, e1, ⟨a1, a2, ⟨b1, b2, b3, b4, b5, b6, b7, b8, b9⟩, ⟨ra, p1, p2⟩, ⟨rb, s1, s2⟩⟩, o1⟩ := I_X7 (V := V) (g := g) S0 (fun _ => none) x
  obtain ⟨A, F2, e2, M2, R2, o2⟩ := I_X8 (V := V) (g := g) S0 F1 (x + 315)
  have oo : ∀ a, a < x + 315 → h_up (h_up F2 (x + 315 + 11) (.inl (2, 1, .inr (.inl (fun _ => 0))))) (x + 315 + 11 + 1) (.inl (3, 1, .inr (.inr (.inr (.inl (fun _ => 0)))))) a = F1 a := fun a ha => by rw [h_up_n _ _ (by omega), h_up_n _ _ (by omega), o2 a (by omega)]
  have hM : MR V (x + 315) 0 z_0 A (h_up (h_up F2 (x + 315 + 11) (.inl (2, 1, .inr (.inl (fun _ => 0))))) (x + 315 + 11 + 1) (.inl (3, 1, .inr (.inr (.inr (.inl (fun _ => 0))))))) := M2.up (fun a h1 h2 => by rw [h_up_n _ _ (by omega), h_up_n _ _ (by omega)])
  have hO : OA (h_up (h_up F2 (x + 315 + 11) (.inl (2, 1, .inr (.inl (fun _ => 0))))) (x + 315 + 11 + 1) (.inl (3, 1, .inr (.inr (.inr (.inl (fun _ => 0))))))) (x + 315 + 11) := ⟨fun _ => 0, by rw [h_up_n _ _ (by omega), h_up_s]⟩
  have hD : DA (h_up (h_up F2 (x + 315 + 11) (.inl (2, 1, .inr (.inl (fun _ => 0))))) (x + 315 + 11 + 1) (.inl (3, 1, .inr (.inr (.inr (.inl (fun _ => 0))))))) (x + 315 + 11 + 1) := ⟨fun _ => 0, h_up_s _ _ _⟩
  have hE : p_law0 V g (fun _ => none) x b = some (x, x + 315, x + 315 + 11, x + 315 + 11 + 1, h_up (h_up F2 (x + 315 + 11) (.inl (2, 1, .inr (.inl (fun _ => 0))))) (x + 315 + 11 + 1) (.inl (3, 1, .inr (.inr (.inr (.inl (fun _ => 0)))))), x + 315 + 11 + 2) := by
    unfold p_law0
    rw [ob_s, e1, ob_s, ob_s]
    dsimp only
    rw [e2, ob_s]
    dsimp only
    rw [ob_s, ob_s]
  have hB : ∀ a e, h_up (h_up F2 (x + 315 + 11) (.inl (2, 1, .inr (.inl (fun _ => 0))))) (x + 315 + 11 + 1) (.inl (3, 1, .inr (.inr (.inr (.inl (fun _ => 0)))))) a = some e → a < x + 315 + 11 + 2 := fun a e h => by
    apply Classical.byContradiction
    intro q
    rw [h_up_n _ _ (by omega), h_up_n _ _ (by omega), o2 a (by omega), o1 a (by omega)] at h
    cases h
  generalize h_up (h_up F2 (x + 315 + 11) (.inl (2, 1, .inr (.inl (fun _ => 0))))) (x + 315 + 11 + 1) (.inl (3, 1, .inr (.inr (.inr (.inl (fun _ => 0)))))) = F at *
  refine ⟨F, hE, hB, z_0, A, T_new M_3 0, 0, 0, 0, fun _ => T_new M_3 0, T_new M_3 0, ⟨hM, hO, hD, by omega, by omega, by omega⟩, ⟨R2, fun k hk => absurd hk (Nat.not_lt_zero k), fun h => absurd h (by decide)⟩, ⟨T_new_v M_3_V (Or.inl rfl), fun k hk => absurd hk (Nat.not_lt_zero k), fun h => absurd h (by decide), by decide, by decide, Or.inl rfl⟩, ⟨rfl, rfl⟩, ⟨a1.fr (oo x (by omega)), a2.frame (fun a h1 h2 => oo a (by omega)), ⟨⟨ra, (oo _ (by omega)).trans p1, fun j hj => (p2 j hj).1⟩, fun j hj => ⟨_, ((p2 j hj).2.ch (by decide)).frame (fun a h1 h2 => oo a (by omega))⟩, fun k hk => absurd hk (Nat.not_lt_zero k)⟩, fun h => absurd h (by decide)⟩, ⟨11, 0, 0, 0, 0, 0, c_new 0, b6.frame (fun a h1 h2 => oo a (by omega))⟩, ?_⟩
  refine ⟨⟨_, (b1.ch (by decide)).frame (fun a h1 h2 => oo a (by omega))⟩, ⟨_, (b2.ch (by decide)).frame (fun a h1 h2 => oo a (by omega))⟩, ⟨0, 0, 0, 0, 0, fun _ => 0, by decide, rfl, (oo _ (by omega)).trans b3, (oo _ (by omega)).trans b4, fun i hi => absurd hi (Nat.not_lt_zero i)⟩, ⟨0, 0, (oo _ (by omega)).trans b5, Or.inl rfl⟩, ⟨⟨rb, (oo _ (by omega)).trans s1, fun j hj => (s2 j hj).1⟩, fun j hj => ⟨_, _, _, _, _, _, _, (s2 j hj).2.frame (fun a h1 h2 => oo a (by omega))⟩⟩, ⟨_, b7.frame (fun a h1 h2 => oo a (by omega))⟩, ⟨x + 74, 16, 0, fun _ => 0, 0, rfl, by decide, by decide, by decide, by decide, (oo _ (by omega)).trans b8, (oo _ (by omega)).trans b9, Or.inl rfl, fun _ => bfit_0, fun i hi => absurd hi (Nat.not_lt_zero i)⟩⟩
theorem pure_law : PureLaw := by
  intro V g n0 b L xs S0 _ hL hb
  obtain ⟨r, hr, _⟩ := hb
  obtain ⟨f, e, hI⟩ := law0_ok S0 n0 b
  refine ⟨n0, n0 + 315, n0 + 315 + 11, n0 + 315 + 11 + 1, f, n0 + 315 + 11 + 2, Inv V n0 (n0 + 315) (n0 + 315 + 11) (n0 + 315 + 11 + 1), e, hI, ?_⟩
  intro f n t ht hI
  obtain ⟨hn, z, A, T, hs, u, p, H, S, I⟩ := hI
  have at_ : ∀ j, j < 6 → h_li (gA g) b 0 (nn (6 * t + j)) = some (r (6 * t + j)) := fun j hj => hli_of hr (by omega) (by omega)
  obtain ⟨f1, e1, h1⟩ := step_ok (x0 := b) (x5 := nn (6 * t)) (n := n) S0 hn I (at_ 0 (by decide)) (by rw [nn_s]; exact at_ 1 (by decide)) (by rw [nn_a2]; exact at_ 2 (by decide)) (by rw [nn_a3]; exact at_ 3 (by decide)) (by rw [nn_a4]; exact at_ 4 (by decide)) (by rw [nn_a5]; exact at_ 5 (by decide))
  exact ⟨f1, e1, fun n1 _ hb1 => ⟨hb1, h1⟩⟩

/-! ===== the law's changing cases ===== -/
section CH2
variable {V : Nat → Nat} {g f f1 f2 : GH} {x m o d u p u1 p1 : Nat} {z z1 : Nat → Int32} {A A1 : Nat → Nat → Int32} {T T1 S S1 : TS} {H H1 : Nat → TS} {hs hs1 : Int32}
theorem s_ref_cs {v : Nat} {a q r w : Int32} (h2 : ¬ v ≤ 2) (h11 : v ≠ 11) : s_ref v T a q r w = 0 ∨ s_ref v T a q r w = 1 ∨ ((s_in (-(s_lim v)) (s_lim v) r = false ∨ s_in (-(s_lim v)) (s_lim v) w = false) ∧ s_ref v T a q r w = 2) ∨ ((∃ c, s_mayV v c r w = false) ∧ s_ref v T a q r w = 3) := by
  unfold s_ref s_refC
  rw [if_neg h2, if_neg h11]
  by_cases b1 : inC (tN T) a = true
  · rw [if_pos b1]
    by_cases b2 : s_hp v = true ∧ inC (cN (tC T (ix a)) + (if v = 6 then 1 else 0)) q = false
    · rw [if_pos b2]; exact Or.inr (Or.inl rfl)
    · rw [if_neg b2]
      cases b3 : s_in (-(s_lim v)) (s_lim v) r with
      | true =>
        cases b4 : s_in (-(s_lim v)) (s_lim v) w with
        | true =>
          cases b5 : s_mayV v (tC T (ix a)) r w with
          | true => exact Or.inl rfl
          | false => exact Or.inr (Or.inr (Or.inr ⟨⟨_, b5⟩, rfl⟩))
        | false => exact Or.inr (Or.inr (Or.inl ⟨Or.inr rfl, rfl⟩))
      | false => exact Or.inr (Or.inr (Or.inl ⟨Or.inl rfl, rfl⟩))
  · rw [if_neg b1]; exact Or.inr (Or.inl rfl)
theorem cd_std {v : Nat} {a q r w code : Int32} (h2 : ¬ v ≤ 2) (h11 : v ≠ 11) (c0 : s_ref v T a q r w = 0 → code = 0) (ce : ∀ e, e < 3 → s_ref v T a q r w = nn (e + 1) → code = nn (e + 1)) : code = s_ref v T a q r w := by
  rcases s_ref_cs (T := T) (v := v) (a := a) (q := q) (r := r) (w := w) h2 h11 with h | h | ⟨-, h⟩ | ⟨-, h⟩
  · rw [h]; exact c0 h
  · rw [h]; exact ce 0 (by decide) h
  · rw [h]; exact ce 1 (by decide) h
  · rw [h]; exact ce 2 (by decide) h
theorem cd_two {v : Nat} {a q r w code : Int32} (h2 : ¬ v ≤ 2) (h11 : v ≠ 11) (c0 : s_ref v T a q r w = 0 → code = 0) (ce : ∀ e, e < 3 → s_ref v T a q r w = nn (e + 1) → code = if e = 2 then 2 else nn (e + 1)) : code = if s_ref v T a q r w = 3 then 2 else s_ref v T a q r w := by
  rcases s_ref_cs (T := T) (v := v) (a := a) (q := q) (r := r) (w := w) h2 h11 with h | h | ⟨-, h⟩ | ⟨-, h⟩
  · rw [h]; exact c0 h
  · rw [h]; exact ce 0 (by decide) h
  · rw [h]; exact ce 1 (by decide) h
  · rw [h]; exact ce 2 (by decide) h
theorem case_43 {n x0 : Nat} {x5 a : Int32} (S0 : StOK V g) (I : IV V x m o d f z A T hs u p H S) (h1 : h_li (gA g) x0 0 (x5 + (1 : Int32)) = some a) : ∃ f2, p_case_43 V g f n x0 x m o d x5 = some f2 ∧ ∃ z1 A1 T1 u1 p1 H1, IV V x m o d f2 z1 A1 T1 hs u1 p1 H1 S := by
  obtain ⟨f2, e, r⟩ := chg_ok (v := 10) (a := a) (q := 0) (r := 0) (w := 0) (cd := (fun e => nn (e + 1))) (L := p_L_removeCoast V g f x a o) (Q := fun f => p_X8_removeCoast V g f m a) S0 I (by decide) (by decide) (by decide) (fun y hy => by
    refine ⟨fun e f1 h he3 hs2 => ?_, fun b f1 h => ?_⟩
    · subst h
      have he : e = 0 ∨ e = 1 ∨ e = 2 := by omega
      rcases he with rfl | rfl | rfl
      · show (match p_X7_removeCoast V g f x a with | none => none | some (.inl z) => _ | some (.inr v) => _) = _
        rw [show p_X7_removeCoast V g f x a = _ from hy]
        rfl
      · rcases s_ref_cs (T := T) (v := 10) (a := a) (q := 0) (r := 0) (w := 0) (by decide) (by decide) with q0 | q0 | ⟨q1, q0⟩ | ⟨q1, q0⟩
        · rw [q0] at hs2; exact absurd hs2 (by decide)
        · rw [q0] at hs2; exact absurd hs2 (by decide)
        · rcases q1 with q1 | q1 <;> exact absurd q1 (by decide)
        · rw [q0] at hs2; exact absurd hs2 (by decide)
      · rcases s_ref_cs (T := T) (v := 10) (a := a) (q := 0) (r := 0) (w := 0) (by decide) (by decide) with q0 | q0 | ⟨q1, q0⟩ | ⟨q1, q0⟩
        · rw [q0] at hs2; exact absurd hs2 (by decide)
        · rw [q0] at hs2; exact absurd hs2 (by decide)
        · rw [q0] at hs2; exact absurd hs2 (by decide)
        · obtain ⟨c, q1⟩ := q1
          exact absurd q1 (fun q2 => absurd (show true = false from q2) (by decide))
    · subst h
      show (match p_X7_removeCoast V g f x a with | none => none | some (.inl z) => _ | some (.inr v) => _) = _
      rw [show p_X7_removeCoast V g f x a = _ from hy]) (fun k c0 f1 code c1 c2 => by
      rw [cd_std (by decide) (by decide) c1 c2]
      exact Q_removeCoast I.2.1.1 I.2.2.1.1 I.2.2.2.1.1 I.2.2.1.2.2.2.1 I.2.1.2.1 I.2.2.1.2.1 a k c0)
  refine ⟨f2, ?_, r⟩
  rw [← e]
  unfold p_case_43 caseI
  simp only [h1, ob_s]
theorem case_44 {n x0 : Nat} {x5 a w : Int32} (S0 : StOK V g) (I : IV V x m o d f z A T hs u p H S) (h1 : h_li (gA g) x0 0 (x5 + (1 : Int32)) = some a) (h2 : h_li (gA g) x0 0 (x5 + (2 : Int32)) = some w) : ∃ f2, p_case_44 V g f n x0 x m o d x5 = some f2 ∧ ∃ z1 A1 T1 u1 p1 H1, IV V x m o d f2 z1 A1 T1 hs u1 p1 H1 S := by
  obtain ⟨f2, e, r⟩ := chg_ok (v := 3) (a := a) (q := 0) (r := w) (w := 0) (cd := (fun e => nn (e + 1))) (L := p_L_fold V g f x a w o) (Q := fun f => p_X8_fold V g f m a w) S0 I (by decide) (by decide) (by decide) (fun y hy => by
    refine ⟨fun e f1 h he3 hs2 => ?_, fun b f1 h => ?_⟩
    · subst h
      have he : e = 0 ∨ e = 1 ∨ e = 2 := by omega
      rcases he with rfl | rfl | rfl
      · show (match p_X7_fold V g f x a w with | none => none | some (.inl z) => _ | some (.inr v) => _) = _
        rw [show p_X7_fold V g f x a w = _ from hy]
        rfl
      · show (match p_X7_fold V g f x a w with | none => none | some (.inl z) => _ | some (.inr v) => _) = _
        rw [show p_X7_fold V g f x a w = _ from hy]
        rfl
      · show (match p_X7_fold V g f x a w with | none => none | some (.inl z) => _ | some (.inr v) => _) = _
        rw [show p_X7_fold V g f x a w = _ from hy]
        rfl
    · subst h
      show (match p_X7_fold V g f x a w with | none => none | some (.inl z) => _ | some (.inr v) => _) = _
      rw [show p_X7_fold V g f x a w = _ from hy]) (fun k c0 f1 code c1 c2 => by
      rw [cd_std (by decide) (by decide) c1 c2]
      exact Q_fold I.2.1.1 I.2.2.1.1 I.2.2.2.1.1 I.2.2.1.2.2.2.1 I.2.1.2.1 I.2.2.1.2.1 a w k c0)
  refine ⟨f2, ?_, r⟩
  rw [← e]
  unfold p_case_44 caseI
  simp only [h1, h2, ob_s]
theorem case_45 {n x0 : Nat} {x5 a : Int32} (S0 : StOK V g) (I : IV V x m o d f z A T hs u p H S) (h1 : h_li (gA g) x0 0 (x5 + (1 : Int32)) = some a) : ∃ f2, p_case_45 V g f n x0 x m o d x5 = some f2 ∧ ∃ z1 A1 T1 u1 p1 H1, IV V x m o d f2 z1 A1 T1 hs u1 p1 H1 S := by
  obtain ⟨f2, e, r⟩ := chg_ok (v := 4) (a := a) (q := 0) (r := 0) (w := 0) (cd := (fun e => if e = 2 then 2 else nn (e + 1))) (L := p_L_unfold V g f x a o) (Q := fun f => p_X8_unfold V g f m a) S0 I (by decide) (by decide) (by decide) (fun y hy => by
    refine ⟨fun e f1 h he3 hs2 => ?_, fun b f1 h => ?_⟩
    · subst h
      have he : e = 0 ∨ e = 1 ∨ e = 2 := by omega
      rcases he with rfl | rfl | rfl
      · show (match p_X7_unfold V g f x a with | none => none | some (.inl z) => _ | some (.inr v) => _) = _
        rw [show p_X7_unfold V g f x a = _ from hy]
        rfl
      · rcases s_ref_cs (T := T) (v := 4) (a := a) (q := 0) (r := 0) (w := 0) (by decide) (by decide) with q0 | q0 | ⟨q1, q0⟩ | ⟨q1, q0⟩
        · rw [q0] at hs2; exact absurd hs2 (by decide)
        · rw [q0] at hs2; exact absurd hs2 (by decide)
        · rcases q1 with q1 | q1 <;> exact absurd q1 (by decide)
        · rw [q0] at hs2; exact absurd hs2 (by decide)
      · show (match p_X7_unfold V g f x a with | none => none | some (.inl z) => _ | some (.inr v) => _) = _
        rw [show p_X7_unfold V g f x a = _ from hy]
        rfl
    · subst h
      show (match p_X7_unfold V g f x a with | none => none | some (.inl z) => _ | some (.inr v) => _) = _
      rw [show p_X7_unfold V g f x a = _ from hy]) (fun k c0 f1 code c1 c2 => by
      rw [cd_two (by decide) (by decide) c1 c2]
      exact Q_unfold I.2.1.1 I.2.2.1.1 I.2.2.2.1.1 I.2.2.1.2.2.2.1 I.2.1.2.1 I.2.2.1.2.1 a k c0)
  refine ⟨f2, ?_, r⟩
  rw [← e]
  unfold p_case_45 caseI
  simp only [h1, ob_s]
theorem case_46 {n x0 : Nat} {x5 a q r w : Int32} (S0 : StOK V g) (I : IV V x m o d f z A T hs u p H S) (h1 : h_li (gA g) x0 0 (x5 + (1 : Int32)) = some a) (h2 : h_li (gA g) x0 0 (x5 + (2 : Int32)) = some q) (h3 : h_li (gA g) x0 0 (x5 + (3 : Int32)) = some r) (h4 : h_li (gA g) x0 0 (x5 + (4 : Int32)) = some w) : ∃ f2, p_case_46 V g f n x0 x m o d x5 = some f2 ∧ ∃ z1 A1 T1 u1 p1 H1, IV V x m o d f2 z1 A1 T1 hs u1 p1 H1 S := by
  obtain ⟨f2, e, r⟩ := chg_ok (v := 5) (a := a) (q := q) (r := r) (w := w) (cd := (fun e => nn (e + 1))) (L := p_L_movePoint V g f x a q r w o) (Q := fun f => p_X8_movePoint V g f m a q r w) S0 I (by decide) (by decide) (by decide) (fun y hy => by
    refine ⟨fun e f1 h he3 hs2 => ?_, fun b f1 h => ?_⟩
    · subst h
      have he : e = 0 ∨ e = 1 ∨ e = 2 := by omega
      rcases he with rfl | rfl | rfl
      · show (match p_X7_movePoint V g f x a q r w with | none => none | some (.inl z) => _ | some (.inr v) => _) = _
        rw [show p_X7_movePoint V g f x a q r w = _ from hy]
        rfl
      · show (match p_X7_movePoint V g f x a q r w with | none => none | some (.inl z) => _ | some (.inr v) => _) = _
        rw [show p_X7_movePoint V g f x a q r w = _ from hy]
        rfl
      · rcases s_ref_cs (T := T) (v := 5) (a := a) (q := q) (r := r) (w := w) (by decide) (by decide) with q0 | q0 | ⟨q1, q0⟩ | ⟨q1, q0⟩
        · rw [q0] at hs2; exact absurd hs2 (by decide)
        · rw [q0] at hs2; exact absurd hs2 (by decide)
        · rw [q0] at hs2; exact absurd hs2 (by decide)
        · obtain ⟨c, q1⟩ := q1
          exact absurd q1 (fun q2 => absurd (show true = false from q2) (by decide))
    · subst h
      show (match p_X7_movePoint V g f x a q r w with | none => none | some (.inl z) => _ | some (.inr v) => _) = _
      rw [show p_X7_movePoint V g f x a q r w = _ from hy]) (fun k c0 f1 code c1 c2 => by
      rw [cd_std (by decide) (by decide) c1 c2]
      exact Q_movePoint I.2.1.1 I.2.2.1.1 I.2.2.2.1.1 I.2.2.1.2.2.2.1 I.2.1.2.1 I.2.2.1.2.1 a q r w k c0)
  refine ⟨f2, ?_, r⟩
  rw [← e]
  unfold p_case_46 caseI
  simp only [h1, h2, h3, h4, ob_s]
theorem case_47 {n x0 : Nat} {x5 a q r w : Int32} (S0 : StOK V g) (I : IV V x m o d f z A T hs u p H S) (h1 : h_li (gA g) x0 0 (x5 + (1 : Int32)) = some a) (h2 : h_li (gA g) x0 0 (x5 + (2 : Int32)) = some q) (h3 : h_li (gA g) x0 0 (x5 + (3 : Int32)) = some r) (h4 : h_li (gA g) x0 0 (x5 + (4 : Int32)) = some w) : ∃ f2, p_case_47 V g f n x0 x m o d x5 = some f2 ∧ ∃ z1 A1 T1 u1 p1 H1, IV V x m o d f2 z1 A1 T1 hs u1 p1 H1 S := by
  obtain ⟨f2, e, r⟩ := chg_ok (v := 6) (a := a) (q := q) (r := r) (w := w) (cd := (fun e => nn (e + 1))) (L := p_L_insertPoint V g f x a q r w o) (Q := fun f => p_X8_insertPoint V g f m a q r w) S0 I (by decide) (by decide) (by decide) (fun y hy => by
    refine ⟨fun e f1 h he3 hs2 => ?_, fun b f1 h => ?_⟩
    · subst h
      have he : e = 0 ∨ e = 1 ∨ e = 2 := by omega
      rcases he with rfl | rfl | rfl
      · show (match p_X7_insertPoint V g f x a q r w with | none => none | some (.inl z) => _ | some (.inr v) => _) = _
        rw [show p_X7_insertPoint V g f x a q r w = _ from hy]
        rfl
      · show (match p_X7_insertPoint V g f x a q r w with | none => none | some (.inl z) => _ | some (.inr v) => _) = _
        rw [show p_X7_insertPoint V g f x a q r w = _ from hy]
        rfl
      · show (match p_X7_insertPoint V g f x a q r w with | none => none | some (.inl z) => _ | some (.inr v) => _) = _
        rw [show p_X7_insertPoint V g f x a q r w = _ from hy]
        rfl
    · subst h
      show (match p_X7_insertPoint V g f x a q r w with | none => none | some (.inl z) => _ | some (.inr v) => _) = _
      rw [show p_X7_insertPoint V g f x a q r w = _ from hy]) (fun k c0 f1 code c1 c2 => by
      rw [cd_std (by decide) (by decide) c1 c2]
      exact Q_insertPoint I.2.1.1 I.2.2.1.1 I.2.2.2.1.1 I.2.2.1.2.2.2.1 I.2.1.2.1 I.2.2.1.2.1 a q r w k c0)
  refine ⟨f2, ?_, r⟩
  rw [← e]
  unfold p_case_47 caseI
  simp only [h1, h2, h3, h4, ob_s]
theorem case_48 {n x0 : Nat} {x5 a q : Int32} (S0 : StOK V g) (I : IV V x m o d f z A T hs u p H S) (h1 : h_li (gA g) x0 0 (x5 + (1 : Int32)) = some a) (h2 : h_li (gA g) x0 0 (x5 + (2 : Int32)) = some q) : ∃ f2, p_case_48 V g f n x0 x m o d x5 = some f2 ∧ ∃ z1 A1 T1 u1 p1 H1, IV V x m o d f2 z1 A1 T1 hs u1 p1 H1 S := by
  obtain ⟨f2, e, r⟩ := chg_ok (v := 7) (a := a) (q := q) (r := 0) (w := 0) (cd := (fun e => if e = 2 then 2 else nn (e + 1))) (L := p_L_removePoint V g f x a q o) (Q := fun f => p_X8_removePoint V g f m a q) S0 I (by decide) (by decide) (by decide) (fun y hy => by
    refine ⟨fun e f1 h he3 hs2 => ?_, fun b f1 h => ?_⟩
    · subst h
      have he : e = 0 ∨ e = 1 ∨ e = 2 := by omega
      rcases he with rfl | rfl | rfl
      · show (match p_X7_removePoint V g f x a q with | none => none | some (.inl z) => _ | some (.inr v) => _) = _
        rw [show p_X7_removePoint V g f x a q = _ from hy]
        rfl
      · rcases s_ref_cs (T := T) (v := 7) (a := a) (q := q) (r := 0) (w := 0) (by decide) (by decide) with q0 | q0 | ⟨q1, q0⟩ | ⟨q1, q0⟩
        · rw [q0] at hs2; exact absurd hs2 (by decide)
        · rw [q0] at hs2; exact absurd hs2 (by decide)
        · rcases q1 with q1 | q1 <;> exact absurd q1 (by decide)
        · rw [q0] at hs2; exact absurd hs2 (by decide)
      · show (match p_X7_removePoint V g f x a q with | none => none | some (.inl z) => _ | some (.inr v) => _) = _
        rw [show p_X7_removePoint V g f x a q = _ from hy]
        rfl
    · subst h
      show (match p_X7_removePoint V g f x a q with | none => none | some (.inl z) => _ | some (.inr v) => _) = _
      rw [show p_X7_removePoint V g f x a q = _ from hy]) (fun k c0 f1 code c1 c2 => by
      rw [cd_two (by decide) (by decide) c1 c2]
      exact Q_removePoint I.2.1.1 I.2.2.1.1 I.2.2.2.1.1 I.2.2.1.2.2.2.1 I.2.1.2.1 I.2.2.1.2.1 a q k c0)
  refine ⟨f2, ?_, r⟩
  rw [← e]
  unfold p_case_48 caseI
  simp only [h1, h2, ob_s]
theorem case_49 {n x0 : Nat} {x5 a r w : Int32} (S0 : StOK V g) (I : IV V x m o d f z A T hs u p H S) (h1 : h_li (gA g) x0 0 (x5 + (1 : Int32)) = some a) (h2 : h_li (gA g) x0 0 (x5 + (2 : Int32)) = some r) (h3 : h_li (gA g) x0 0 (x5 + (3 : Int32)) = some w) : ∃ f2, p_case_49 V g f n x0 x m o d x5 = some f2 ∧ ∃ z1 A1 T1 u1 p1 H1, IV V x m o d f2 z1 A1 T1 hs u1 p1 H1 S := by
  obtain ⟨f2, e, r⟩ := chg_ok (v := 8) (a := a) (q := 0) (r := r) (w := w) (cd := (fun e => nn (e + 1))) (L := p_L_shift V g f x a r w o) (Q := fun f => p_X8_shift V g f m a r w) S0 I (by decide) (by decide) (by decide) (fun y hy => by
    refine ⟨fun e f1 h he3 hs2 => ?_, fun b f1 h => ?_⟩
    · subst h
      have he : e = 0 ∨ e = 1 ∨ e = 2 := by omega
      rcases he with rfl | rfl | rfl
      · show (match p_X7_shift V g f x a r w with | none => none | some (.inl z) => _ | some (.inr v) => _) = _
        rw [show p_X7_shift V g f x a r w = _ from hy]
        rfl
      · show (match p_X7_shift V g f x a r w with | none => none | some (.inl z) => _ | some (.inr v) => _) = _
        rw [show p_X7_shift V g f x a r w = _ from hy]
        rfl
      · show (match p_X7_shift V g f x a r w with | none => none | some (.inl z) => _ | some (.inr v) => _) = _
        rw [show p_X7_shift V g f x a r w = _ from hy]
        rfl
    · subst h
      show (match p_X7_shift V g f x a r w with | none => none | some (.inl z) => _ | some (.inr v) => _) = _
      rw [show p_X7_shift V g f x a r w = _ from hy]) (fun k c0 f1 code c1 c2 => by
      rw [cd_std (by decide) (by decide) c1 c2]
      exact Q_shift I.2.1.1 I.2.2.1.1 I.2.2.2.1.1 I.2.2.1.2.2.2.1 I.2.1.2.1 I.2.2.1.2.1 a r w k c0)
  refine ⟨f2, ?_, r⟩
  rw [← e]
  unfold p_case_49 caseI
  simp only [h1, h2, h3, ob_s]
theorem case_50 {n x0 : Nat} {x5 a : Int32} (S0 : StOK V g) (I : IV V x m o d f z A T hs u p H S) (h1 : h_li (gA g) x0 0 (x5 + (1 : Int32)) = some a) : ∃ f2, p_case_50 V g f n x0 x m o d x5 = some f2 ∧ ∃ z1 A1 T1 u1 p1 H1, IV V x m o d f2 z1 A1 T1 hs u1 p1 H1 S := by
  obtain ⟨f2, e, r⟩ := chg_ok (v := 9) (a := a) (q := 0) (r := 0) (w := 0) (cd := (fun e => nn (e + 1))) (L := p_L_reverse V g f x a o) (Q := fun f => p_X8_reverse V g f m a) S0 I (by decide) (by decide) (by decide) (fun y hy => by
    refine ⟨fun e f1 h he3 hs2 => ?_, fun b f1 h => ?_⟩
    · subst h
      have he : e = 0 ∨ e = 1 ∨ e = 2 := by omega
      rcases he with rfl | rfl | rfl
      · show (match p_X7_reverse V g f x a with | none => none | some (.inl z) => _ | some (.inr v) => _) = _
        rw [show p_X7_reverse V g f x a = _ from hy]
        rfl
      · rcases s_ref_cs (T := T) (v := 9) (a := a) (q := 0) (r := 0) (w := 0) (by decide) (by decide) with q0 | q0 | ⟨q1, q0⟩ | ⟨q1, q0⟩
        · rw [q0] at hs2; exact absurd hs2 (by decide)
        · rw [q0] at hs2; exact absurd hs2 (by decide)
        · rcases q1 with q1 | q1 <;> exact absurd q1 (by decide)
        · rw [q0] at hs2; exact absurd hs2 (by decide)
      · rcases s_ref_cs (T := T) (v := 9) (a := a) (q := 0) (r := 0) (w := 0) (by decide) (by decide) with q0 | q0 | ⟨q1, q0⟩ | ⟨q1, q0⟩
        · rw [q0] at hs2; exact absurd hs2 (by decide)
        · rw [q0] at hs2; exact absurd hs2 (by decide)
        · rw [q0] at hs2; exact absurd hs2 (by decide)
        · obtain ⟨c, q1⟩ := q1
          exact absurd q1 (fun q2 => absurd (show true = false from q2) (by decide))
    · subst h
      show (match p_X7_reverse V g f x a with | none => none | some (.inl z) => _ | some (.inr v) => _) = _
      rw [show p_X7_reverse V g f x a = _ from hy]) (fun k c0 f1 code c1 c2 => by
      rw [cd_std (by decide) (by decide) c1 c2]
      exact Q_reverse I.2.1.1 I.2.2.1.1 I.2.2.2.1.1 I.2.2.1.2.2.2.1 I.2.1.2.1 I.2.2.1.2.1 a k c0)
  refine ⟨f2, ?_, r⟩
  rw [← e]
  unfold p_case_50 caseI
  simp only [h1, ob_s]
end CH2

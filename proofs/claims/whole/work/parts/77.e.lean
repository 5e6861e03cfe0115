/-! ===== the law's case with a double ===== -/
section CE2
variable {V : Nat → Nat} {g f f0 : GH} {x m b o d : Nat} {T : TS} {z : Nat → Int32} {A : Nat → Nat → Int32} {hs pc pn : Int32}
theorem DA.put (h : DA f d) (v : UInt64) : ∃ f1, h_sd f d 3 0 v = some f1 ∧ h_ld f1 d 3 0 = some v ∧ (∀ a, a ≠ d → f1 a = f a) ∧ DA f1 d := by
  obtain ⟨r, h⟩ := h
  have e1 : h_sd f d 3 0 v = some (h_up f d (.inl (3, 1, .inr (.inr (.inr (.inl (h_upD r (0 : Int32).toNatClampNeg v))))))) := by
    unfold h_sd h_ar
    rw [h]
    rfl
  refine ⟨_, e1, ?_, fun a ha => h_up_n f _ ha, _, h_up_s _ _ _⟩
  unfold h_ld h_ar
  rw [h_up_s]
  show some (h_upD r (0 : Int32).toNatClampNeg v (0 : Int32).toNatClampNeg) = some v
  simp [h_upD]
def caseD (V : Nat → Nat) (g : GH) (m d : Nat) (L : Option (Int32 × GH)) (Q : GH → Option (UInt64 × GH)) : Option GH :=
  L.bind fun v3 => (Q v3.2).bind fun v7 => (p_X8_thrown V g v7.2 m).bind fun v8 => if v8 = v3.1 then (if v3.1 = (0 : Int32) then (h_ld v7.2 d 3 (0 : Int32)).bind fun v11 => (if (Op.cmpValue (FP.dcmp v11 v7.1) .l) = (0 : Int32) then some v7.2 else (h_ld v7.2 d 3 (0 : Int32)).bind fun v13 => (h_ld v7.2 d 3 (0 : Int32)).bind fun v14 => (if (Op.cmpValue (FP.dcmp v13 v14) .l) = (0 : Int32) then none else (if (Op.cmpValue (FP.dcmp v7.1 v7.1) .l) = (0 : Int32) then none else some v7.2))) else some v7.2) else none
def LresD (cd : Nat → Int32) (s : Nat ⊕ UInt64) (f : GH) (d : Nat) : Option (Int32 × GH) := match s with
  | .inl e => some (cd e, f)
  | .inr v => (h_sd f d 3 (0 : Int32) v).bind fun f1 => some ((0 : Int32), f1)
theorem caseD_ok {s : Nat ⊕ UInt64} {cd : Nat → Int32} {Q : GH → Option (UInt64 × GH)} (hM : MR V m b z A f) (hO : OA f o) (hD : DA f d) (hmo : m + 11 ≤ o) (hod : o < d) (hcd : ∀ e, s = .inl e → cd e ≠ 0)
    (hQ : ∀ f1, MR V m b z A f1 → ∃ A1, Q f1 = some (svd s, mH V m b (upd z 7 (st cd s)) A1 f1) ∧ SC b A A1) : ∃ f1, caseD V g m d (LresD cd s f d) Q = some f1 ∧ Rd V x m b o d z A f f1 := by
  unfold caseD LresD
  cases s with
  | inl e =>
    obtain ⟨A1, e1, s1⟩ := hQ f hM
    have h0 := hcd e rfl
    refine ⟨mH V m b (upd z 7 (cd e)) A1 f, ?_, cd e, A1, MR.mk, s1, fun a ha => mH_out a (by omega), ?_, ?_⟩
    · rw [ob_s, e1, ob_s, M_thrown, ob_s, upd_s]
      show (if cd e = cd e then (if cd e = (0 : Int32) then _ else some (mH V m b (upd z 7 (cd e)) A1 f)) else _) = _
      rw [if_pos rfl, if_neg h0]
    · obtain ⟨r, hr⟩ := hO
      exact ⟨r, by rw [mH_out o (by omega)]; exact hr⟩
    · obtain ⟨r, hr⟩ := hD
      exact ⟨r, by rw [mH_out d (by omega)]; exact hr⟩
  | inr v =>
    obtain ⟨f1, p1, p2, p3, p4⟩ := hD.put v
    obtain ⟨A1, e1, s1⟩ := hQ f1 (hM.up (fun a h1 h2 => p3 a (by omega)))
    refine ⟨mH V m b (upd z 7 0) A1 f1, ?_, 0, A1, MR.mk, s1, fun a ha => ?_, ?_, ?_⟩
    · have ho : h_ld (mH V m b (upd z 7 0) A1 f1) d 3 (0 : Int32) = some v := by
        unfold h_ld h_ar at p2 ⊢
        rw [mH_out d (by omega)]
        exact p2
      dsimp only
      rw [p1, ob_s, ob_s, e1, ob_s]
      show (p_X8_thrown V g (mH V m b (upd z 7 0) A1 f1) m).bind _ = _
      rw [M_thrown, ob_s, upd_s, if_pos (rfl : (0 : Int32) = 0), if_pos (rfl : (0 : Int32) = 0)]
      show (h_ld (mH V m b (upd z 7 0) A1 f1) d 3 (0 : Int32)).bind _ = _
      rw [ho, ob_s]
      show (if (Op.cmpValue (FP.dcmp v v) .l) = (0 : Int32) then some (mH V m b (upd z 7 0) A1 f1) else (h_ld (mH V m b (upd z 7 0) A1 f1) d 3 (0 : Int32)).bind fun v13 => (h_ld (mH V m b (upd z 7 0) A1 f1) d 3 (0 : Int32)).bind fun v14 => (if (Op.cmpValue (FP.dcmp v13 v14) .l) = (0 : Int32) then none else (if (Op.cmpValue (FP.dcmp v v) .l) = (0 : Int32) then none else some (mH V m b (upd z 7 0) A1 f1)))) = _
      by_cases hq : (Op.cmpValue (FP.dcmp v v) .l) = (0 : Int32)
      · rw [if_pos hq]
      · rw [if_neg hq, ho, ob_s, ob_s, if_neg hq, if_neg hq]
    · rw [mH_out a (by omega), p3 a (by omega)]
    · obtain ⟨r, hr⟩ := hO
      exact ⟨r, by rw [mH_out o (by omega), p3 o (by omega)]; exact hr⟩
    · obtain ⟨r, hr⟩ := p4
      exact ⟨r, by rw [mH_out d (by omega)]; exact hr⟩
theorem case_23 {n x0 : Nat} {x5 a l : Int32} (B : Bs V x m b o d z A T hs pc pn f) (h1 : h_li (gA g) x0 0 (x5 + (1 : Int32)) = some a) (h2 : h_li (gA g) x0 0 (x5 + (2 : Int32)) = some l) : ∃ f1, p_case_23 V g f n x0 x m o d x5 = some f1 ∧ Rd V x m b o d z A f f1 := by
  obtain ⟨hM, hb, R, hv, X, C, hO, hD, hxm, hmo, hod⟩ := B
  have hL : p_L_refinementRatio V g f x a l d = LresD cdA (sCo T a fun c => sIn 0 6 l (.inr (s_ratio T c (ix l)))) f d := by
    unfold p_L_refinementRatio LresD
    rw [P_refinementRatio X C hv a l]
    unfold sCo sIn
    dsimp only
    by_cases c0 : inC (tN T) a = true
    · rw [if_pos c0]
      by_cases c1 : s_in 0 6 l = true
      · rw [if_pos c1]
      · rw [if_neg c1]
        try rfl
    · rw [if_neg c0]
      try rfl
  obtain ⟨f1, q1, q2⟩ := caseD_ok (V := V) (g := g) (x := x) (b := b) (z := z) (A := A) hM hO hD hmo hod cdA_nz (s := sCo T a fun c => sIn 0 6 l (.inr (s_ratio T c (ix l)))) (Q := fun f => p_X8_refinementRatio V g f m a l) (fun f1 h1 => ⟨A, by rw [show p_X8_refinementRatio V g f1 m a l = p_X8_refinementRatio V g (mH V m b z A f1) m a l from congrArg (fun q => p_X8_refinementRatio V g q m a l) h1]; exact Q_refinementRatio hb R hv a l, SC.rf b A⟩)
  refine ⟨f1, ?_, q2⟩
  rw [← q1, ← hL]
  unfold p_case_23 caseD
  simp only [h1, h2, ob_s]
end CE2

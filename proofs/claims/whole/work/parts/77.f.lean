/-! ===== the law's case with a float ===== -/
section CF2
variable {V : Nat → Nat} {g f f0 : GH} {x m b o d : Nat} {T : TS} {z : Nat → Int32} {A : Nat → Nat → Int32} {hs pc pn : Int32}
def caseF (V : Nat → Nat) (g : GH) (m d : Nat) (L : Option (Int32 × GH)) (Q : GH → Option (UInt32 × GH)) : Option GH :=
  L.bind fun v3 => (Q v3.2).bind fun v7 => (p_X8_thrown V g v7.2 m).bind fun v8 => if v8 = v3.1 then (if v3.1 = (0 : Int32) then (h_ld v7.2 d 3 (0 : Int32)).bind fun v11 => (h_f2d v7.1).bind fun w12 => (if (Op.cmpValue (FP.dcmp v11 (FP.f2d v7.1)) .l) = (0 : Int32) then some v7.2 else (h_ld v7.2 d 3 (0 : Int32)).bind fun v14 => (h_ld v7.2 d 3 (0 : Int32)).bind fun v15 => (if (Op.cmpValue (FP.dcmp v14 v15) .l) = (0 : Int32) then none else (if (Op.cmpValue (FP.fcmp v7.1 v7.1) .l) = (0 : Int32) then none else some v7.2))) else some v7.2) else none
def LresF (cd : Nat → Int32) (s : Nat ⊕ UInt32) (f : GH) (d : Nat) : Option (Int32 × GH) := match s with
  | .inl e => some (cd e, f)
  | .inr v => (h_f2d v).bind fun w => (h_sd f d 3 (0 : Int32) w).bind fun f1 => some ((0 : Int32), f1)
theorem caseF_ok {s : Nat ⊕ UInt32} {cd : Nat → Int32} {Q : GH → Option (UInt32 × GH)} (hM : MR V m b z A f) (hO : OA f o) (hD : DA f d) (hmo : m + 11 ≤ o) (hod : o < d) (hcd : ∀ e, s = .inl e → cd e ≠ 0) (hf : ∀ v, s = .inr v → h_f2d v = some (FP.f2d v) ∧ Op.cmpValue (FP.dcmp (FP.f2d v) (FP.f2d v)) .l = 0)
    (hQ : ∀ f1, MR V m b z A f1 → ∃ A1, Q f1 = some (svf s, mH V m b (upd z 7 (st cd s)) A1 f1) ∧ SC b A A1) : ∃ f1, caseF V g m d (LresF cd s f d) Q = some f1 ∧ Rd V x m b o d z A f f1 := by
  unfold caseF LresF
  cases s with
  | inl e =>
    obtain ⟨A1, e1, s1⟩ := hQ f hM
    have h0 := hcd e rfl
    refine ⟨mH V m b (upd z 7 (cd e)) A1 f, ?_, cd e, A1, MR.mk, s1, fun a ha => mH_out a (by omega), ?_, ?_⟩
    · rw [ob_s, e1, ob_s, M_thrown, ob_s, upd_s]
      show (if cd e = cd e then (if cd e = (0 : Int32) then _ else some (mH V m b (upd z 7 (cd e)) A1 f)) else _) = _
      rw [if_pos rfl, if_neg h0]
    · obtain ⟨r, hr⟩ := hO
      exact ⟨r, by rw [mH_out o (by omega)]; exact hr⟩
    · obtain ⟨r, hr⟩ := hD
      exact ⟨r, by rw [mH_out d (by omega)]; exact hr⟩
  | inr v =>
    obtain ⟨g1, g2⟩ := hf v rfl
    obtain ⟨f1, p1, p2, p3, p4⟩ := hD.put (FP.f2d v)
    obtain ⟨A1, e1, s1⟩ := hQ f1 (hM.up (fun a h1 h2 => p3 a (by omega)))
    refine ⟨mH V m b (upd z 7 0) A1 f1, ?_, 0, A1, MR.mk, s1, fun a ha => ?_, ?_, ?_⟩
    · have ho : h_ld (mH V m b (upd z 7 0) A1 f1) d 3 (0 : Int32) = some (FP.f2d v) := by
        unfold h_ld h_ar at p2 ⊢
        rw [mH_out d (by omega)]
        exact p2
      dsimp only
      rw [g1, ob_s, p1, ob_s, ob_s, e1, ob_s]
      show (p_X8_thrown V g (mH V m b (upd z 7 0) A1 f1) m).bind _ = _
      rw [M_thrown, ob_s, upd_s, if_pos (rfl : (0 : Int32) = 0), if_pos (rfl : (0 : Int32) = 0)]
      show (h_ld (mH V m b (upd z 7 0) A1 f1) d 3 (0 : Int32)).bind _ = _
      rw [ho, ob_s]
      show ((h_f2d v).bind fun w12 => (if (Op.cmpValue (FP.dcmp (FP.f2d v) (FP.f2d v)) .l) = (0 : Int32) then some (mH V m b (upd z 7 0) A1 f1) else _)) = _
      rw [g1, ob_s, if_pos g2]
    · rw [mH_out a (by omega), p3 a (by omega)]
    · obtain ⟨r, hr⟩ := hO
      exact ⟨r, by rw [mH_out o (by omega), p3 o (by omega)]; exact hr⟩
    · obtain ⟨r, hr⟩ := p4
      exact ⟨r, by rw [mH_out d (by omega)]; exact hr⟩
theorem fl_self (a : Int32) {b : Int32} (h : b ≠ 0) : Op.cmpValue (FP.dcmp (FP.f2d (FP.fdiv (FP.i2f a) (FP.i2f b))) (FP.f2d (FP.fdiv (FP.i2f a) (FP.i2f b)))) .l = 0 := by
  have e : FP.f2d (FP.fdiv (FP.i2f a) (FP.i2f b)) = FP.Core.f2d (FP.Core.fdiv (FP.Core.i2f a) (FP.Core.i2f b)) := by
    rw [FP.f2d_core (show FP.fIsNaN (FP.fdiv (FP.i2f a) (FP.i2f b)) = false by rw [FP.fIsNaN_core]; exact fl_fq a h)]
  rw [e, FP.dcmp_core, FP.Core.dcmp_refl (FP.Core.f2d_out (fl_fq a h))]
  rfl
theorem case_24 {n x0 : Nat} {x5 a l : Int32} (B : Bs V x m b o d z A T hs pc pn f) (h1 : h_li (gA g) x0 0 (x5 + (1 : Int32)) = some a) (h2 : h_li (gA g) x0 0 (x5 + (2 : Int32)) = some l) : ∃ f1, p_case_24 V g f n x0 x m o d x5 = some f1 ∧ Rd V x m b o d z A f f1 := by
  obtain ⟨hM, hb, R, hv, X, C, hO, hD, hxm, hmo, hod⟩ := B
  have h6 := hv.1
  have hL : p_L_meanStickLength V g f x a l d = LresF cdA (sCo T a fun c => sIn 0 7 l (.inr (s_mean T c (ix l)))) f d := by
    unfold p_L_meanStickLength LresF
    rw [P_meanStickLength X C hv a l]
    unfold sCo sIn
    dsimp only
    by_cases c0 : inC (tN T) a = true
    · rw [if_pos c0]
      by_cases c1 : s_in 0 7 l = true
      · rw [if_pos c1]
      · rw [if_neg c1]
        try rfl
    · rw [if_neg c0]
      try rfl
  have hf : ∀ v, (sCo T a fun c => sIn 0 7 l (.inr (s_mean T c (ix l))) : Nat ⊕ UInt32) = .inr v → h_f2d v = some (FP.f2d v) ∧ Op.cmpValue (FP.dcmp (FP.f2d v) (FP.f2d v)) .l = 0 := by
    intro v e
    unfold sCo sIn at e
    dsimp only at e
    by_cases c0 : inC (tN T) a = true
    · rw [if_pos c0] at e
      by_cases c1 : s_in 0 7 l = true
      · rw [if_pos c1] at e
        cases e
        have cv := hv.2.2 _ (inC_t (by omega) c0).2
        have h0 := nn_nz (s_sticks_pos (l := ix l) cv) (by have := s_sticks_200 (l := ix l) cv; omega)
        exact ⟨fl_f2d _ h0, fl_self _ h0⟩
      · rw [if_neg c1] at e
        cases e
    · rw [if_neg c0] at e
      cases e
  obtain ⟨f1, q1, q2⟩ := caseF_ok (V := V) (g := g) (x := x) (b := b) (z := z) (A := A) hM hO hD hmo hod cdA_nz hf (Q := fun f => p_X8_meanStickLength V g f m a l) (fun f1 h1 => ⟨A, by rw [show p_X8_meanStickLength V g f1 m a l = p_X8_meanStickLength V g (mH V m b z A f1) m a l from congrArg (fun q => p_X8_meanStickLength V g q m a l) h1]; exact Q_meanStickLength hb R hv a l, SC.rf b A⟩)
  refine ⟨f1, ?_, q2⟩
  rw [← q1, ← hL]
  unfold p_case_24 caseF
  simp only [h1, h2, ob_s]
end CF2

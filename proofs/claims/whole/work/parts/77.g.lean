/-! ===== the length after a fold ===== -/
section CG2
variable {V : Nat → Nat} {g f f0 : GH} {x m b o d cap : Nat} {c0 : CS} {T : TS} {z : Nat → Int32} {A : Nat → Nat → Int32} {hs pc pn : Int32}
theorem Bs.spare {f1 : GH} (B : Bs V x m b o d z A T hs pc pn f) (h : h_out (x + 70) (x + 73) f f1) : Bs V x m b o d z A T hs pc pn f1 := by
  obtain ⟨hM, hb, R, hv, X, C, hO, hD, hxm, hmo, hod⟩ := B
  refine ⟨hM.up (fun a h1 h2 => h a (by omega)), hb, R, hv, X.fr (h x (by omega)), C.frame (fun a h1 h2 => h a (by omega)), ?_, ?_, hxm, hmo, hod⟩
  · obtain ⟨r, hr⟩ := hO
    exact ⟨r, by rw [h o (by omega)]; exact hr⟩
  · obtain ⟨r, hr⟩ := hD
    exact ⟨r, by rw [h d (by omega)]; exact hr⟩
theorem case_34 {n x0 : Nat} {x5 a w l : Int32} (B : Bs V x m b o d z A T hs pc pn f) (S : CoA f (x + 70) cap c0) (hcap : 129 ≤ cap) (h1 : h_li (gA g) x0 0 (x5 + (1 : Int32)) = some a) (h2 : h_li (gA g) x0 0 (x5 + (2 : Int32)) = some w) (h3 : h_li (gA g) x0 0 (x5 + (3 : Int32)) = some l) :
    ∃ f2 f1, h_out (x + 70) (x + 73) f f2 ∧ (∃ c1, CoA f2 (x + 70) cap c1) ∧ p_case_34 V g f n x0 x m o d x5 = some f1 ∧ Rd V x m b o d z A f2 f1 := by
  obtain ⟨f2, e2, o2, S2⟩ := P_lengthAfterFold (V := V) (g := g) B.2.2.2.2.1 B.2.2.2.2.2.1 B.2.2.2.1 S hcap a w l
  obtain ⟨hM, hb, R, hv, X, C, hO, hD, hxm, hmo, hod⟩ := B.spare o2
  have hL : p_L_lengthAfterFold V g f x a w l o = Lres cdA (sCo T a fun c => sIn (-50) 50 w (sIn 0 7 l (.inr (s_laf T c w (ix l))))) f2 o := by
    unfold p_L_lengthAfterFold Lres
    rw [e2]
    unfold sCo sIn sl
    dsimp only
    by_cases q0 : inC (tN T) a = true
    · rw [if_pos q0]
      by_cases q1 : s_in (-50) 50 w = true
      · rw [if_pos q1]
        by_cases q2 : s_in 0 7 l = true
        · rw [if_pos q2]
        · rw [if_neg q2]
          try rfl
      · rw [if_neg q1]
        try rfl
    · rw [if_neg q0]
      try rfl
  obtain ⟨f1, q1, q2⟩ := caseI_ok (V := V) (g := g) (x := x) (b := b) (z := z) (A := A) hM hO hD hmo hod cdA_nz (s := sCo T a fun c => sIn (-50) 50 w (sIn 0 7 l (.inr (s_laf T c w (ix l))))) (Q := fun f => p_X8_lengthAfterFold V g f m a w l) (fun f1 h1 => by
    obtain ⟨A1, e1, s1⟩ := Q_lengthAfterFold (V := V) (g := g) (m := m) (z := z) (f0 := f1) hb R hv a w l
    exact ⟨A1, by rw [show p_X8_lengthAfterFold V g f1 m a w l = p_X8_lengthAfterFold V g (mH V m b z A f1) m a w l from congrArg (fun q => p_X8_lengthAfterFold V g q m a w l) h1]; exact e1, s1⟩)
  refine ⟨f2, f1, o2, S2, ?_, q2⟩
  rw [← q1, ← hL]
  unfold p_case_34 caseI
  simp only [h1, h2, h3, ob_s]
end CG2

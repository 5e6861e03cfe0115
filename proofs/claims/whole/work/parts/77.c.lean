/-! ===== the law's cases without an argument ===== -/
section CC
variable {V : Nat → Nat} {g f f0 : GH} {x m b o d : Nat} {T : TS} {z : Nat → Int32} {A : Nat → Nat → Int32} {hs pc pn : Int32}
theorem Bs.told (B : Bs V x m b o d z A T hs pc pn f) (k : Int32) : Rd V x m b o d z A f (mH V m b (upd z 7 k) A f) := by
  obtain ⟨hM, hb, R, hv, X, C, hO, hD, hxm, hmo, hod⟩ := B
  refine ⟨k, A, MR.mk, SC.rf b A, fun a ha => mH_out a (by omega), ?_, ?_⟩
  · obtain ⟨r, hr⟩ := hO
    exact ⟨r, by rw [mH_out o (by omega)]; exact hr⟩
  · obtain ⟨r, hr⟩ := hD
    exact ⟨r, by rw [mH_out d (by omega)]; exact hr⟩
theorem case_4 {n x0 : Nat} {x5 : Int32} (B : Bs V x m b o d z A T hs pc pn f) : ∃ f1, p_case_4 V g f n x0 x m o d x5 = some f1 ∧ Rd V x m b o d z A f f1 := by
  refine ⟨_, ?_, B.told 0⟩
  obtain ⟨hM, hb, R, hv, X, C, hO, hD, hxm, hmo, hod⟩ := B
  unfold p_case_4
  rw [P_coastCount X C, ob_s, show p_X8_coastCount V g f m = p_X8_coastCount V g (mH V m b z A f) m from congrArg (fun q => p_X8_coastCount V g q m) hM, Q_coastCount hb R, ob_s, if_pos rfl]
theorem case_5 {n x0 : Nat} {x5 : Int32} (B : Bs V x m b o d z A T hs pc pn f) : ∃ f1, p_case_5 V g f n x0 x m o d x5 = some f1 ∧ Rd V x m b o d z A f f1 := by
  refine ⟨_, ?_, B.told 0⟩
  obtain ⟨hM, hb, R, hv, X, C, hO, hD, hxm, hmo, hod⟩ := B
  unfold p_case_5
  rw [P_usesKingMetric X C hv, ob_s, show p_X8_usesKingMetric V g f m = p_X8_usesKingMetric V g (mH V m b z A f) m from congrArg (fun q => p_X8_usesKingMetric V g q m) hM, Q_usesKingMetric hb R hv, ob_s, if_pos rfl]
theorem case_38 {n x0 : Nat} {x5 : Int32} (B : Bs V x m b o d z A T hs pc pn f) : ∃ f1, p_case_38 V g f n x0 x m o d x5 = some f1 ∧ Rd V x m b o d z A f f1 := by
  refine ⟨_, ?_, B.told 0⟩
  obtain ⟨hM, hb, R, hv, X, C, hO, hD, hxm, hmo, hod⟩ := B
  unfold p_case_38
  rw [P_loadedPoints X C, ob_s, show p_X8_loadedPoints V g f m = p_X8_loadedPoints V g (mH V m b z A f) m from congrArg (fun q => p_X8_loadedPoints V g q m) hM, Q_loadedPoints hb R, ob_s, if_pos rfl]
theorem case_39 {n x0 : Nat} {x5 : Int32} (B : Bs V x m b o d z A T hs pc pn f) : ∃ f1, p_case_39 V g f n x0 x m o d x5 = some f1 ∧ Rd V x m b o d z A f f1 := by
  refine ⟨_, ?_, B.told 0⟩
  obtain ⟨hM, hb, R, hv, X, C, hO, hD, hxm, hmo, hod⟩ := B
  unfold p_case_39
  rw [P_addedPoints X C, ob_s, show p_X8_addedPoints V g f m = p_X8_addedPoints V g (mH V m b z A f) m from congrArg (fun q => p_X8_addedPoints V g q m) hM, Q_addedPoints hb R, ob_s, if_pos rfl]
theorem case_40 {n x0 : Nat} {x5 : Int32} (B : Bs V x m b o d z A T hs pc pn f) : ∃ f1, p_case_40 V g f n x0 x m o d x5 = some f1 ∧ Rd V x m b o d z A f f1 := by
  refine ⟨_, ?_, B.told 0⟩
  obtain ⟨hM, hb, R, hv, X, C, hO, hD, hxm, hmo, hod⟩ := B
  unfold p_case_40
  rw [P_removedPoints X C, ob_s, show p_X8_removedPoints V g f m = p_X8_removedPoints V g (mH V m b z A f) m from congrArg (fun q => p_X8_removedPoints V g q m) hM, Q_removedPoints hb R, ob_s, if_pos rfl]
theorem case_41 {n x0 : Nat} {x5 : Int32} (B : Bs V x m b o d z A T hs pc pn f) : ∃ f1, p_case_41 V g f n x0 x m o d x5 = some f1 ∧ Rd V x m b o d z A f f1 := by
  refine ⟨_, ?_, B.told 0⟩
  obtain ⟨hM, hb, R, hv, X, C, hO, hD, hxm, hmo, hod⟩ := B
  unfold p_case_41
  rw [P_ledgerGap X C, ob_s, show p_X8_ledgerGap V g f m = p_X8_ledgerGap V g (mH V m b z A f) m from congrArg (fun q => p_X8_ledgerGap V g q m) hM, Q_ledgerGap hb R hv, ob_s, if_pos rfl]
end CC

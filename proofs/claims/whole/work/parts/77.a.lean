/-! ===== a reading case of the law ===== -/
section CA
variable {V : Nat → Nat} {g f f0 : GH} {x m b o d : Nat} {T : TS} {z : Nat → Int32} {A : Nat → Nat → Int32} {hs pc pn : Int32}
/-- the reference's object lies in f -/
def MR (V : Nat → Nat) (m b : Nat) (z : Nat → Int32) (A : Nat → Nat → Int32) (f : GH) : Prop := f = mH V m b z A f
theorem mH_in {f0 f1 : GH} {a : Nat} (h1 : m ≤ a) (h2 : a < m + 11) : mH V m b z A f0 a = mH V m b z A f1 a := by
  unfold mH
  by_cases e1 : a = m
  · rw [if_pos e1, if_pos e1]
  · rw [if_neg e1, if_neg e1]
    by_cases e2 : m + 1 ≤ a ∧ a < m + 10
    · rw [if_pos e2, if_pos e2]
    · rw [if_neg e2, if_neg e2, if_pos (by omega), if_pos (by omega)]
theorem MR.up {f1 : GH} (h : MR V m b z A f) (e : ∀ a, m ≤ a → a < m + 11 → f1 a = f a) : MR V m b z A f1 := by
  unfold MR
  funext a
  by_cases q : m ≤ a ∧ a < m + 11
  · rw [e a q.1 q.2, mH_in (f1 := f) q.1 q.2]
    exact congrFun h a
  · rw [mH_out a (by omega)]
theorem MR.mk : MR V m b z A (mH V m b z A f0) := by
  unfold MR
  funext a
  by_cases q : m ≤ a ∧ a < m + 11
  · exact mH_in q.1 q.2
  · exact (mH_out (f0 := mH V m b z A f0) a (by omega)).symm
def OA (f : GH) (o : Nat) : Prop := ∃ r : Nat → Int64, f o = some (.inl (2, 1, .inr (.inl r)))
def DA (f : GH) (d : Nat) : Prop := ∃ r : Nat → UInt64, f d = some (.inl (3, 1, .inr (.inr (.inr (.inl r)))))
theorem OA.put (h : OA f o) (v : Int64) : ∃ f1, h_sl f o 2 0 v = some f1 ∧ h_ll f1 o 2 0 = some v ∧ (∀ a, a ≠ o → f1 a = f a) ∧ OA f1 o := by
  obtain ⟨r, h⟩ := h
  have e1 : h_sl f o 2 0 v = some (h_up f o (.inl (2, 1, .inr (.inl (vp_updL r (0 : Int32).toNatClampNeg v))))) := by
    unfold h_sl h_ar
    rw [h]
    rfl
  refine ⟨_, e1, ?_, fun a ha => h_up_n f _ ha, _, h_up_s _ _ _⟩
  unfold h_ll h_ar
  rw [h_up_s]
  show some (vp_updL r (0 : Int32).toNatClampNeg v (0 : Int32).toNatClampNeg) = some v
  simp [vp_updL]
theorem M_thrown : p_X8_thrown V g (mH V m b z A f0) m = some (z 7) := by
  unfold p_X8_thrown
  rw [m_me, hgi_of mH_o rfl, ob_s]
/-- what a reading case leaves: the reference's 'told', its scratch coastline, our spare one, and the two answers' arrays may differ -/
def Rd (V : Nat → Nat) (x m b o d : Nat) (z : Nat → Int32) (A : Nat → Nat → Int32) (f f1 : GH) : Prop := ∃ k A1, MR V m b (upd z 7 k) A1 f1 ∧ SC b A A1 ∧ (∀ a, a < m ∨ d < a → f1 a = f a) ∧ OA f1 o ∧ DA f1 d
def caseI (V : Nat → Nat) (g : GH) (m o : Nat) (L : Option (Int32 × GH)) (Q : GH → Option (Int32 × GH)) : Option GH :=
  L.bind fun v3 => (Q v3.2).bind fun v7 => (p_X8_thrown V g v7.2 m).bind fun v8 => if v8 = v3.1 then (if v3.1 = (0 : Int32) then (h_ll v7.2 o 2 (0 : Int32)).bind fun v11 => (if (h_lc v11 v7.1.toInt64) = (0 : Int32) then some v7.2 else none) else some v7.2) else none
def Lres (cd : Nat → Int32) (s : Nat ⊕ Int32) (f : GH) (o : Nat) : Option (Int32 × GH) := match s with
  | .inl e => some (cd e, f)
  | .inr v => (h_sl f o 2 (0 : Int32) v.toInt64).bind fun f1 => some ((0 : Int32), f1)
theorem caseI_ok {s : Nat ⊕ Int32} {cd : Nat → Int32} {Q : GH → Option (Int32 × GH)} (hM : MR V m b z A f) (hO : OA f o) (hD : DA f d) (hmo : m + 11 ≤ o) (hod : o < d) (hcd : ∀ e, s = .inl e → cd e ≠ 0)
    (hQ : ∀ f1, MR V m b z A f1 → ∃ A1, Q f1 = some (sv s, mH V m b (upd z 7 (st cd s)) A1 f1) ∧ SC b A A1) : ∃ f1, caseI V g m o (Lres cd s f o) Q = some f1 ∧ Rd V x m b o d z A f f1 := by
  unfold caseI Lres
  cases s with
  | inl e =>
    obtain ⟨A1, e1, s1⟩ := hQ f hM
    have h0 := hcd e rfl
    refine ⟨_, ?_, cd e, A1, MR.mk, s1, fun a ha => mH_out a (by omega), ?_, ?_⟩
    · rw [ob_s, e1, ob_s, M_thrown, ob_s, upd_s]
      show (if cd e = cd e then (if cd e = (0 : Int32) then _ else some (mH V m b (upd z 7 (cd e)) A1 f)) else _) = _
      rw [if_pos rfl, if_neg h0]
    · obtain ⟨r, hr⟩ := hO
      exact ⟨r, by show mH V m b _ A1 f o = _; rw [mH_out o (by omega)]; exact hr⟩
    · obtain ⟨r, hr⟩ := hD
      exact ⟨r, by show mH V m b _ A1 f d = _; rw [mH_out d (by omega)]; exact hr⟩
  | inr v =>
    obtain ⟨f1, p1, p2, p3, p4⟩ := hO.put v.toInt64
    obtain ⟨A1, e1, s1⟩ := hQ f1 (hM.up (fun a h1 h2 => p3 a (by omega)))
    refine ⟨mH V m b (upd z 7 0) A1 f1, ?_, 0, A1, MR.mk, s1, fun a ha => ?_, ?_, ?_⟩
    · have ho : h_ll (mH V m b (upd z 7 0) A1 f1) o 2 (0 : Int32) = some v.toInt64 := by
        unfold h_ll h_ar at p2 ⊢
        rw [mH_out o (by omega)]
        exact p2
      dsimp only
      rw [p1, ob_s, ob_s, e1, ob_s]
      show (p_X8_thrown V g (mH V m b (upd z 7 0) A1 f1) m).bind _ = _
      rw [M_thrown, ob_s, upd_s, if_pos (rfl : (0 : Int32) = 0), if_pos (rfl : (0 : Int32) = 0)]
      show (h_ll (mH V m b (upd z 7 0) A1 f1) o 2 (0 : Int32)).bind _ = _
      rw [ho, ob_s]
      show (if h_lc v.toInt64 v.toInt64 = 0 then _ else _) = _
      rw [if_pos (h_lc_refl _)]
      rfl
    · rw [mH_out a (by omega), p3 a (by omega)]
    · obtain ⟨r, hr⟩ := p4
      exact ⟨r, by rw [mH_out o (by omega)]; exact hr⟩
    · obtain ⟨r, hr⟩ := hD
      exact ⟨r, by rw [mH_out d (by omega), p3 d (by omega)]; exact hr⟩
/-- what the cases ask of the heap -/
def Bs (V : Nat → Nat) (x m b o d : Nat) (z : Nat → Int32) (A : Nat → Nat → Int32) (T : TS) (hs pc pn : Int32) (f : GH) : Prop := MR V m b z A f ∧ b < 2 ∧ RT (A b) T ∧ TV T ∧ XoA f x hs pc pn ∧ ChA f (x + 1) T ∧ OA f o ∧ DA f d ∧ x + 315 ≤ m ∧ m + 11 ≤ o ∧ o < d
theorem cdT_nz {α : Type} {s : Nat ⊕ α} : ∀ e, s = .inl e → cdT e ≠ 0 := fun _ _ => (by decide : (1 : Int32) ≠ 0)
theorem cdA_nz {α : Type} {s : Nat ⊕ α} : ∀ e, s = .inl e → cdA e ≠ 0 := fun e _ => by unfold cdA; split <;> decide
theorem cdI_nz {α : Type} {s : Nat ⊕ α} : ∀ e, s = .inl e → cdI e ≠ 0 := fun e _ => by
  unfold cdI
  split
  · decide
  · split <;> decide
theorem sCo_e {α : Type} {T : TS} {a : Int32} {k : CS → Nat ⊕ α} {e : Nat} (h : sCo T a k = .inl e) (hk : ∀ c, k c = .inl e → e = 0) : e = 0 := by
  unfold sCo at h
  split at h
  · exact hk _ h
  · exact (Sum.inl.inj h).symm
theorem sPt_e {α : Type} {n : Nat} {a : Int32} {k : Nat ⊕ α} {e : Nat} (h : sPt n a k = .inl e) (hk : k = .inl e → e = 0) : e = 0 := by
  unfold sPt at h
  split at h
  · exact hk h
  · exact (Sum.inl.inj h).symm
theorem case_8 {n x0 : Nat} {x5 a u : Int32} (B : Bs V x m b o d z A T hs pc pn f) (h1 : h_li (gA g) x0 0 (x5 + (1 : Int32)) = some a) (h2 : h_li (gA g) x0 0 (x5 + (2 : Int32)) = some u) : ∃ f1, p_case_8 V g f n x0 x m o d x5 = some f1 ∧ Rd V x m b o d z A f f1 := by
  obtain ⟨hM, hb, R, hv, X, C, hO, hD, hxm, hmo, hod⟩ := B
  have hp := P_pointX (V := V) (g := g) X C hv a u
  have hL : p_L_pointX V g f x a u o = Lres cdT (sCo T a fun c => sPt (cN c) u (.inr (cX c (ix u)))) f o := by
    unfold p_L_pointX Lres
    rw [hp]
    cases hs9 : (sCo T a fun c => sPt (cN c) u (Sum.inr (cX c (ix u)))) with
    | inl e =>
      have he := sCo_e hs9 (fun c h => sPt_e h (fun q => by cases q))
      subst he
      rfl
    | inr v => rfl
  obtain ⟨f1, q1, q2⟩ := caseI_ok (V := V) (g := g) (x := x) (b := b) (z := z) (A := A) hM hO hD hmo hod cdT_nz (s := sCo T a fun c => sPt (cN c) u (.inr (cX c (ix u)))) (Q := fun f => p_X8_pointX V g f m a u) (fun f1 h1 => ⟨A, by rw [show p_X8_pointX V g f1 m a u = p_X8_pointX V g (mH V m b z A f1) m a u from congrArg (fun q => p_X8_pointX V g q m a u) h1]; exact Q_pointX hb R hv a u, SC.rf b A⟩)
  refine ⟨f1, ?_, q2⟩
  rw [← q1, ← hL]
  unfold p_case_8 caseI
  rw [h1, ob_s, h2, ob_s]
  simp only [ob_s]
end CA

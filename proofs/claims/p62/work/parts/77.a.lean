/-! ===== a reading case of the law ===== -/
section CA
variable {V : Nat → Nat} {g f f0 : GH} {x m b o d : Nat} {T : TS} {z : Nat → Int32} {A : Nat → Nat → Int32} {hs pc pn : Int32}
/-- the reference's object lies in f -/
def MR (V : Nat → Nat) (m b : Nat) (z : Nat → Int32) (A : Nat → Nat → Int32) (f : GH) : Prop := f = mH V m b z A f
theorem mH_in {f0 f1 : GH} {a : Nat} (h1 : m ≤ a) (h2 : a < m + 11) : mH V m b z A f0 a = mH V m b z A f1 a := by
  unfold mH
  by_cases e1 : a = m
  · rw [if_pos e1, if_pos e1]
  · rw [if_neg e1, if_neg e1]
    by_cases e2 : m + 1 ≤ a ∧ a < m + 10
    · rw [if_pos e2, if_pos e2]
    · rw [if_neg e2, if_neg e2, if_pos (by omega), if_pos (by omega)]
theorem MR.up {f1 : GH} (h : MR V m b z A f) (e : ∀ a, m ≤ a → a < m + 11 → f1 a = f a) : MR V m b z A f1 := by
  unfold MR
  funext a
  by_cases q : m ≤ a ∧ a < m + 11
  · rw [e a q.1 q.2, mH_in (f1 := f) q.1 q.2]
    exact congrFun h a
  · rw [mH_out a (by omega)]
theorem MR.mk : MR V m b z A (mH V m b z A f0) := by
  unfold MR
  funext a
  by_cases q : m ≤ a ∧ a < m + 11
  · exact mH_in q.1 q.2
  · exact (mH_out (f0 := mH V m b z A f0) a (by omega)).symm
def OA (f : GH) (o : Nat) : Prop := ∃ r : Nat → Int64, f o = some (.inl (2, 1, .inr (.inl r)))
def DA (f : GH) (d : Nat) : Prop := ∃ r : Nat → UInt64, f d = some (.inl (3, 1, .inr (.inr (.inr (.inl r)))))
theorem OA.put (h : OA f o) (v : Int64) : ∃ f1, h_sl f o 2 0 v = some f1 ∧ h_ll f1 o 2 0 = some v ∧ (∀ a, a ≠ o → f1 a = f a) ∧ OA f1 o := by
  obtain ⟨r, h⟩ := h
  have e1 : h_sl f o 2 0 v = some (h_up f o (.inl (2, 1, .inr (.inl (vp_updL r (0 : Int32).toNatClampNeg v))))) := by
    unfold h_sl h_ar
    rw [h]
    rfl
  refine ⟨_, e1, ?_, fun a ha => h_up_n f _ ha, _, h_up_s _ _ _⟩
  unfold h_ll h_ar
  rw [h_up_s]
  show some (vp_updL r (0 : Int32).toNatClampNeg v (0 : Int32).toNatClampNeg) = some v
  simp [vp_updL]
/-- what a reading case leaves: the reference's 'told', its scratch coastline, our spare one, and the two answers' arrays may differ -/
def Rd (V : Nat → Nat) (x m b o d : Nat) (z : Nat → Int32) (A : Nat → Nat → Int32) (f f1 : GH) : Prop := ∃ k A1, MR V m b (upd z 7 k) A1 f1 ∧ SC b A A1 ∧ (∀ a, a < m ∨ d < a → f1 a = f a) ∧ OA f1 o ∧ DA f1 d
def Lres (cd : Nat → Int32) (s : Nat ⊕ Int32) (f : GH) (o : Nat) : Option (Int32 × GH) := match s with
  | .inl e => some (cd e, f)
  | .inr v => (h_sl f o 2 (0 : Int32) v.toInt64).bind fun f1 => some ((0 : Int32), f1)
/-- what the cases ask of the heap -/
def Bs (V : Nat → Nat) (x m b o d : Nat) (z : Nat → Int32) (A : Nat → Nat → Int32) (T : TS) (hs pc pn : Int32) (f : GH) : Prop := MR V m b z A f ∧ b < 2 ∧ RT (A b) T ∧ TV T ∧ XoA f x hs pc pn ∧ ChA f (x + 1) T ∧ OA f o ∧ DA f d ∧ x + 315 ≤ m ∧ m + 11 ≤ o ∧ o < d
theorem cdT_nz {α : Type} {s : Nat ⊕ α} : ∀ e, s = .inl e → cdT e ≠ 0 := fun _ _ => (by decide : (1 : Int32) ≠ 0)
theorem cdA_nz {α : Type} {s : Nat ⊕ α} : ∀ e, s = .inl e → cdA e ≠ 0 := fun e _ => by unfold cdA; split <;> decide
theorem cdI_nz {α : Type} {s : Nat ⊕ α} : ∀ e, s = .inl e → cdI e ≠ 0 := fun e _ => by
  unfold cdI
  split
  · decide
  · split <;> decide
theorem sCo_e {α : Type} {T : TS} {a : Int32} {k : CS → Nat ⊕ α} {e : Nat} (h : sCo T a k = .inl e) (hk : ∀ c, k c = .inl e → e = 0) : e = 0 := by
  unfold sCo at h
  split at h
  · exact hk _ h
  · exact (Sum.inl.inj h).symm
theorem sPt_e {α : Type} {n : Nat} {a : Int32} {k : Nat ⊕ α} {e : Nat} (h : sPt n a k = .inl e) (hk : k = .inl e → e = 0) : e = 0 := by
  unfold sPt at h
  split at h
  · exact hk h
  · exact (Sum.inl.inj h).symm
end CA


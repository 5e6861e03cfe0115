/-! ===== the statics at the start, as a functional heap ===== -/
section ST
variable {args : Array Value} {s : State} {A : Nat → Prop}
theorem st_ex {t : Term} {nm : String} (h : (Cond.exactly t nm).before args s = true) (hA : ∀ a : Nat, a < s.heap.size → ¬ A a) : ∃ a : Nat, t.eval args s none [] s = some (.ref a) ∧ va_O nm a A s s.heap := by
  obtain ⟨a, c, cA, kA, q1, q2, q3, q4, q5, q6, -⟩ := Cond.exactly_spec (args := args) (first := s) (o := none) (s := s) (idx := []) (t := t) (cls := nm) h
  exact ⟨a, q1, va_Oof h q1 hA⟩
theorem st_eq {t u : Term} {a : Nat} (h : (Cond.eq t u).before args s = true) (hu : u.eval args s none [] s = some (.ref a)) : t.eval args s none [] s = some (.ref a) := by
  cases hv : t.eval args s none [] s with
  | none => simp [Cond.before, Cond.holds, Cond.value, hv] at h
  | some w =>
    simp only [Cond.before, Cond.holds, Cond.value, hv, hu] at h
    cases w <;> simp_all
theorem st_qe {t u : Term} {a : Nat} (h : (Cond.eq t u).before args s = true) (ht : t.eval args s none [] s = some (.ref a)) : u.eval args s none [] s = some (.ref a) := by
  cases hv : u.eval args s none [] s with
  | none => simp [Cond.before, Cond.holds, Cond.value, hv, ht] at h
  | some w =>
    simp only [Cond.before, Cond.holds, Cond.value, hv, ht] at h
    cases w <;> simp_all
theorem OF_u {o n d : String} {v w : Value} {t : Nat} (h1 : va_OF o n d v t A s s.heap) (h2 : va_OF o n d w t A s s.heap) : v = w := by
  obtain ⟨cf, k, i, f, cell, a1, a2, a3, a4, a5, a6⟩ := h1
  obtain ⟨cf', k', i', f', cell', b1, b2, b3, b4, b5, b6⟩ := h2
  cases a1.symm.trans b1
  cases a3.symm.trans b3
  exact Option.some.inj (a5.symm.trans b5)
theorem O_u {E E' : String} {t : Nat} (h1 : va_O E t A s s.heap) (h2 : va_O E' t A s s.heap) : E = E' := by
  obtain ⟨cell, a1, a2, a3, a4⟩ := h1
  obtain ⟨cell', b1, b2, b3, b4⟩ := h2
  cases a1.symm.trans b1
  obtain ⟨k, k1, k2⟩ := Vm.findClass_spec a3
  obtain ⟨k', k1', k2'⟩ := Vm.findClass_spec b3
  cases k1.symm.trans k1'
  exact k2.symm.trans k2'
theorem T_u {ty ty' : FieldType} {t N N' : Nat} {f f' : Nat → Value} (h1 : va_T ty t N f A s s.heap) (h2 : va_T ty' t N' f' A s s.heap) (hN : N < 2147483648) (hN' : N' < 2147483648) : ty = ty' ∧ N = N' ∧ ∀ j, j < N → f j = f' j := by
  obtain ⟨cell, a1, a2, a3, a4, a5, a6, a7⟩ := h1
  obtain ⟨cell', b1, b2, b3, b4, b5, b6, b7⟩ := h2
  cases a1.symm.trans b1
  obtain ⟨k, k1, cp, k2⟩ := a2.2
  obtain ⟨k', k1', cp', k2'⟩ := b2.2
  cases k1.symm.trans k1'
  have hk := k2.symm.trans k2'
  injection hk with _ hty
  have hn : Int32.ofNat N = Int32.ofNat N' := a5.symm.trans b5
  have hNN : N = N' := by
    have h := congrArg Int32.toInt hn
    rw [Int32.toInt_ofNat_of_lt hN, Int32.toInt_ofNat_of_lt hN'] at h
    omega
  subst hNN
  exact ⟨hty, rfl, fun j hj => Option.some.inj ((a6 j hj).symm.trans (b6 j hj))⟩
theorem st_tyn {t t' : Nat} (h : t < 2) (h' : t' < 2) (e : g_tyn t = g_tyn t') : t = t' := by
  have : t = 0 ∨ t = 1 := by omega
  have : t' = 0 ∨ t' = 1 := by omega
  rcases ‹t = 0 ∨ t = 1› with rfl | rfl <;> rcases ‹t' = 0 ∨ t' = 1› with rfl | rfl <;> first | rfl | cases e
theorem st_ty8 {t : Nat} (h : t < 2) (e : g_tyn 8 = g_tyn t) : False := by
  have : t = 0 ∨ t = 1 := by omega
  rcases this with rfl | rfl <;> cases e
def st_gf (ints : List (Nat × Nat × Nat × (Nat → Int32))) (aA nA : Nat) (rA : Nat → Option Nat) (obj : List (Nat × Nat × List Value)) : GH := fun k =>
  if k % 2 = 0 then (if k / 2 = aA then some (.inl (8, nA, .inr (.inr (.inr (.inr rA))))) else (ints.find? (fun q => q.1 == k / 2)).map (fun q => .inl (q.2.1, q.2.2.1, .inl q.2.2.2)))
  else (obj.find? (fun q => q.1 == k / 2)).map (fun q => .inr q.2)
theorem st_find {α : Type} {l : List (Nat × α)} {a : Nat} {x : α} (h : (a, x) ∈ l) : ∃ y, l.find? (fun q => q.1 == a) = some (a, y) ∧ (a, y) ∈ l := by
  cases hf : l.find? (fun q => q.1 == a) with
  | none => exact absurd (List.find?_eq_none.mp hf (a, x) h) (by simp)
  | some q =>
    have h1 := List.find?_some hf
    have h2 := List.mem_of_find?_eq_some hf
    obtain ⟨b, y⟩ := q
    have h3 : b = a := eq_of_beq h1
    subst h3
    exact ⟨y, rfl, h2⟩
theorem st_g {V : Nat → Nat} (ints : List (Nat × Nat × Nat × (Nat → Int32))) (aA nA : Nat) (rA : Nat → Option Nat) (obj : List (Nat × Nat × List Value))
    (hi : ∀ q ∈ ints, q.2.1 < 2 ∧ q.2.2.1 < 2147483648 ∧ va_T (g_tyn q.2.1) q.1 q.2.2.1 (fun j => .int (q.2.2.2 j)) (g_A V) s s.heap)
    (hnA : nA < 2147483648) (hA : va_T (g_tyn 8) aA nA (fun j => va_rf (rA j)) (g_A V) s s.heap)
    (ho : ∀ q ∈ obj, va_O (g_cn q.2.1) q.1 (g_A V) s s.heap ∧ (∀ (k : Nat) (v : Value), q.2.2[k]? = some v → va_OF (g_sf q.2.1 k).1 (g_sf q.2.1 k).2.1 (g_sf q.2.1 k).2.2 v q.1 (g_A V) s s.heap) ∧ (q.2.1 = 50 ∧ q.2.2.length = 6 ∨ q.2.1 = 51 ∧ q.2.2.length = 2)) :
    ∃ g : GH, g_hs V g s s.heap ∧ gA g aA = some (.inl (8, nA, .inr (.inr (.inr (.inr rA))))) ∧
      (∀ q ∈ ints, ∃ r, gA g q.1 = some (.inl (q.2.1, q.2.2.1, .inl r)) ∧ ∀ j, j < q.2.2.1 → r j = q.2.2.2 j) ∧ ∀ q ∈ obj, gO g q.1 = some (.inr q.2) := by
  have eA : ∀ a, gA (st_gf ints aA nA rA obj) a = if a = aA then some (.inl (8, nA, .inr (.inr (.inr (.inr rA))))) else (ints.find? (fun q => q.1 == a)).map (fun q => .inl (q.2.1, q.2.2.1, .inl q.2.2.2)) := by
    intro a
    unfold gA st_gf
    rw [if_pos (by omega), show 2 * a / 2 = a by omega]
  have eO : ∀ a, gO (st_gf ints aA nA rA obj) a = (obj.find? (fun q => q.1 == a)).map (fun q => .inr q.2) := by
    intro a
    unfold gO st_gf
    rw [if_neg (by omega), show (2 * a + 1) / 2 = a by omega]
  refine ⟨st_gf ints aA nA rA obj, ⟨fun a x hx => ?_, fun a o hx => ?_⟩, ?_, ?_, ?_⟩
  · rw [eA] at hx
    by_cases ha : a = aA
    · rw [if_pos ha] at hx
      cases hx
      subst ha
      exact hA
    · rw [if_neg ha] at hx
      cases hf : ints.find? (fun q => q.1 == a) with
      | none => rw [hf] at hx; cases hx
      | some q =>
        rw [hf] at hx
        cases hx
        have h1 : q.1 = a := eq_of_beq (List.find?_some (p := fun q : Nat × Nat × Nat × (Nat → Int32) => q.1 == a) hf)
        subst h1
        exact (hi q (List.mem_of_find?_eq_some hf)).2.2
  · rw [eO] at hx
    cases hf : obj.find? (fun q => q.1 == a) with
    | none => rw [hf] at hx; cases hx
    | some q =>
      rw [hf] at hx
      cases hx
      have h1 : q.1 = a := eq_of_beq (List.find?_some (p := fun q : Nat × Nat × List Value => q.1 == a) hf)
      subst h1
      exact ⟨(ho q (List.mem_of_find?_eq_some hf)).1, (ho q (List.mem_of_find?_eq_some hf)).2.1⟩
  · rw [eA, if_pos rfl]
  · intro q hq
    obtain ⟨q1, q2, q3⟩ := hi q hq
    have hne : q.1 ≠ aA := by
      intro h
      rw [h] at q3
      exact st_ty8 q1 (T_u hA q3 hnA q2).1
    obtain ⟨y, hf, hy⟩ := st_find (show (q.1, q.2) ∈ ints from hq)
    obtain ⟨y1, y2, y3⟩ := hi _ hy
    obtain ⟨u1, u2, u3⟩ := T_u q3 y3 q2 y2
    have u1 := st_tyn q1 y1 u1
    refine ⟨y.2.2, ?_, fun j hj => (Value.int.inj (u3 j hj)).symm⟩
    rw [eA, if_neg hne, hf]
    dsimp only [Option.map_some]
    dsimp only at u1 u2
    rw [← u1, ← u2]
  · intro q hq
    obtain ⟨q1, q2, q3⟩ := ho q hq
    obtain ⟨y, hf, hy⟩ := st_find (show (q.1, q.2) ∈ obj from hq)
    obtain ⟨y1, y2, y3⟩ := ho _ hy
    rw [eO, hf]
    obtain ⟨a, ci, fs⟩ := q
    obtain ⟨ci', fs'⟩ := y
    dsimp only at q1 q2 q3 y1 y2 y3 ⊢
    have hcn := O_u q1 y1
    have hci : ci = ci' ∧ fs.length = fs'.length := by
      rcases q3 with ⟨rfl, h1⟩ | ⟨rfl, h1⟩ <;> rcases y3 with ⟨rfl, h2⟩ | ⟨rfl, h2⟩
      · exact ⟨rfl, by omega⟩
      · exact absurd hcn (by decide)
      · exact absurd hcn (by decide)
      · exact ⟨rfl, by omega⟩
    obtain ⟨rfl, hlen⟩ := hci
    have hfs : fs = fs' := by
      apply List.ext_getElem? 
      intro k
      by_cases hk : k < fs.length
      · rw [List.getElem?_eq_getElem hk, List.getElem?_eq_getElem (by omega)]
        exact congrArg some (OF_u (q2 k _ (List.getElem?_eq_getElem hk)) (y2 k _ (List.getElem?_eq_getElem (by omega))))
      · rw [List.getElem?_eq_none (by omega), List.getElem?_eq_none (by omega)]
    rw [hfs]
    rfl
end ST

/-! ===== the law's cases with a yes or a no ===== -/
section CD
variable {V : Nat → Nat} {g f f0 : GH} {x m b o d : Nat} {T : TS} {z : Nat → Int32} {A : Nat → Nat → Int32} {hs pc pn : Int32}
def caseB (V : Nat → Nat) (g : GH) (m o : Nat) (L : Option (Int32 × GH)) (Q : GH → Option (Int32 × GH)) : Option GH :=
  L.bind fun v3 => (Q v3.2).bind fun v7 => (p_X8_thrown V g v7.2 m).bind fun v8 => if v8 = v3.1 then (if v3.1 = (0 : Int32) then (h_ll v7.2 o 2 (0 : Int32)).bind fun v9 => (if v7.1 = (0 : Int32) then (if (h_lc v9 (0 : Int64)) = (0 : Int32) then some v7.2 else none) else (if (h_lc v9 (1 : Int64)) = (0 : Int32) then some v7.2 else none)) else some v7.2) else none
theorem caseB_ok {s : Nat ⊕ Int32} {cd : Nat → Int32} {Q : GH → Option (Int32 × GH)} (hM : MR V m b z A f) (hO : OA f o) (hD : DA f d) (hmo : m + 11 ≤ o) (hod : o < d) (hcd : ∀ e, s = .inl e → cd e ≠ 0) (h01 : ∀ v, s = .inr v → v = 0 ∨ v = 1)
    (hQ : ∀ f1, MR V m b z A f1 → ∃ A1, Q f1 = some (sv s, mH V m b (upd z 7 (st cd s)) A1 f1) ∧ SC b A A1) : ∃ f1, caseB V g m o (Lres cd s f o) Q = some f1 ∧ Rd V x m b o d z A f f1 := by
  unfold caseB Lres
  cases s with
  | inl e =>
    obtain ⟨A1, e1, s1⟩ := hQ f hM
    have h0 := hcd e rfl
    refine ⟨_, ?_, cd e, A1, MR.mk, s1, fun a ha => mH_out a (by omega), ?_, ?_⟩
    · rw [ob_s, e1, ob_s, M_thrown, ob_s, upd_s]
      show (if cd e = cd e then (if cd e = (0 : Int32) then _ else some (mH V m b (upd z 7 (cd e)) A1 f)) else _) = _
      rw [if_pos rfl, if_neg h0]
    · obtain ⟨r, hr⟩ := hO
      exact ⟨r, by show mH V m b _ A1 f o = _; rw [mH_out o (by omega)]; exact hr⟩
    · obtain ⟨r, hr⟩ := hD
      exact ⟨r, by show mH V m b _ A1 f d = _; rw [mH_out d (by omega)]; exact hr⟩
  | inr v =>
    obtain ⟨f1, p1, p2, p3, p4⟩ := hO.put v.toInt64
    obtain ⟨A1, e1, s1⟩ := hQ f1 (hM.up (fun a h1 h2 => p3 a (by omega)))
    refine ⟨mH V m b (upd z 7 0) A1 f1, ?_, 0, A1, MR.mk, s1, fun a ha => ?_, ?_, ?_⟩
    · have ho : h_ll (mH V m b (upd z 7 0) A1 f1) o 2 (0 : Int32) = some v.toInt64 := by
        unfold h_ll h_ar at p2 ⊢
        rw [mH_out o (by omega)]
        exact p2
      dsimp only
      rw [p1, ob_s, ob_s, e1, ob_s]
      show (p_X8_thrown V g (mH V m b (upd z 7 0) A1 f1) m).bind _ = _
      rw [M_thrown, ob_s, upd_s, if_pos (rfl : (0 : Int32) = 0), if_pos (rfl : (0 : Int32) = 0)]
      show (h_ll (mH V m b (upd z 7 0) A1 f1) o 2 (0 : Int32)).bind _ = _
      rw [ho, ob_s]
      show (if v = (0 : Int32) then (if h_lc v.toInt64 (0 : Int64) = (0 : Int32) then some (mH V m b (upd z 7 0) A1 f1) else none) else (if h_lc v.toInt64 (1 : Int64) = (0 : Int32) then some (mH V m b (upd z 7 0) A1 f1) else none)) = _
      rcases h01 v rfl with h | h
      · rw [h, if_pos rfl, if_pos (by decide)]
      · rw [h, if_neg (by decide), if_pos (by decide)]
    · rw [mH_out a (by omega), p3 a (by omega)]
    · obtain ⟨r, hr⟩ := p4
      exact ⟨r, by rw [mH_out o (by omega)]; exact hr⟩
    · obtain ⟨r, hr⟩ := hD
      exact ⟨r, by rw [mH_out d (by omega), p3 d (by omega)]; exact hr⟩
theorem Lb {f : GH} {o : Nat} {v : Int32} (h : v = 0 ∨ v = 1) : (if v = (0 : Int32) then (h_sl f o 2 (0 : Int32) (0 : Int64)).bind fun f1 => some ((0 : Int32), f1) else (h_sl f o 2 (0 : Int32) (1 : Int64)).bind fun f1 => some ((0 : Int32), f1)) = (h_sl f o 2 (0 : Int32) v.toInt64).bind fun f1 => some ((0 : Int32), f1) := by
  rcases h with h | h
  · rw [h, if_pos rfl]; rfl
  · rw [h, if_neg (by decide)]; rfl
theorem bz01 (t : Bool) : bz t = 0 ∨ bz t = 1 := by cases t <;> decide
theorem case_6 {n x0 : Nat} {x5 a : Int32} (B : Bs V x m b o d z A T hs pc pn f) (h1 : h_li (gA g) x0 0 (x5 + (1 : Int32)) = some a) : ∃ f1, p_case_6 V g f n x0 x m o d x5 = some f1 ∧ Rd V x m b o d z A f f1 := by
  obtain ⟨hM, hb, R, hv, X, C, hO, hD, hxm, hmo, hod⟩ := B
  have h6 := hv.1
  have hL : p_L_isIsland V g f x a o = Lres cdT (sCo T a fun c => .inr (cI c) : Nat ⊕ Int32) f o := by
    unfold p_L_isIsland Lres
    rw [P_isIsland X C hv a]
    unfold sCo
    try dsimp only
    by_cases c1 : inC (tN T) a = true
    · rw [if_pos c1]
      exact Lb ((hv.2.2 _ (inC_t (by omega) ‹inC (tN T) a = true›).2).i01)
    · rw [if_neg c1]
      try rfl
  have h01 : ∀ v9 : Int32, (sCo T a fun c => .inr (cI c) : Nat ⊕ Int32) = .inr v9 → v9 = 0 ∨ v9 = 1 := by
    intro v9 e
    unfold sCo at e
    try dsimp only at e
    by_cases c1 : inC (tN T) a = true
    · rw [if_pos c1] at e
      cases e
      exact (hv.2.2 _ (inC_t (by omega) ‹inC (tN T) a = true›).2).i01
    · rw [if_neg c1] at e
      cases e
  obtain ⟨f1, q1, q2⟩ := caseB_ok (V := V) (g := g) (x := x) (b := b) (z := z) (A := A) hM hO hD hmo hod cdT_nz h01 (Q := fun f => p_X8_isIsland V g f m a) (fun f1 h1 => ⟨A, by rw [show p_X8_isIsland V g f1 m a = p_X8_isIsland V g (mH V m b z A f1) m a from congrArg (fun q => p_X8_isIsland V g q m a) h1]; exact Q_isIsland hb R hv a, SC.rf b A⟩)
  refine ⟨f1, ?_, q2⟩
  rw [← q1, ← hL]
  unfold p_case_6 caseB
  simp only [h1, ob_s]
theorem case_26 {n x0 : Nat} {x5 a : Int32} (B : Bs V x m b o d z A T hs pc pn f) (h1 : h_li (gA g) x0 0 (x5 + (1 : Int32)) = some a) : ∃ f1, p_case_26 V g f n x0 x m o d x5 = some f1 ∧ Rd V x m b o d z A f f1 := by
  obtain ⟨hM, hb, R, hv, X, C, hO, hD, hxm, hmo, hod⟩ := B
  have h6 := hv.1
  have hL : p_L_isCounterclockwise V g f x a o = Lres cdI (sCo T a fun c => sIs c (.inr (if s_area c ≤ 0 then 0 else 1)) : Nat ⊕ Int32) f o := by
    unfold p_L_isCounterclockwise Lres
    rw [P_isCounterclockwise X C hv a]
    unfold sCo sIs
    try dsimp only
    by_cases c2 : inC (tN T) a = true
    · rw [if_pos c2]
      by_cases c1 : cI (tC T (ix a)) = 0
      · rw [if_pos c1]
        try rfl
      · rw [if_neg c1]
        exact Lb (by split <;> first | exact Or.inl rfl | exact Or.inr rfl)
    · rw [if_neg c2]
      try rfl
  have h01 : ∀ v9 : Int32, (sCo T a fun c => sIs c (.inr (if s_area c ≤ 0 then 0 else 1)) : Nat ⊕ Int32) = .inr v9 → v9 = 0 ∨ v9 = 1 := by
    intro v9 e
    unfold sCo sIs at e
    try dsimp only at e
    by_cases c2 : inC (tN T) a = true
    · rw [if_pos c2] at e
      by_cases c1 : cI (tC T (ix a)) = 0
      · rw [if_pos c1] at e
        cases e
      · rw [if_neg c1] at e
        cases e
        exact by split <;> first | exact Or.inl rfl | exact Or.inr rfl
    · rw [if_neg c2] at e
      cases e
  obtain ⟨f1, q1, q2⟩ := caseB_ok (V := V) (g := g) (x := x) (b := b) (z := z) (A := A) hM hO hD hmo hod cdI_nz h01 (Q := fun f => p_X8_isCounterclockwise V g f m a) (fun f1 h1 => ⟨A, by rw [show p_X8_isCounterclockwise V g f1 m a = p_X8_isCounterclockwise V g (mH V m b z A f1) m a from congrArg (fun q => p_X8_isCounterclockwise V g q m a) h1]; exact Q_isCounterclockwise hb R hv a, SC.rf b A⟩)
  refine ⟨f1, ?_, q2⟩
  rw [← q1, ← hL]
  unfold p_case_26 caseB
  simp only [h1, ob_s]
theorem case_27 {n x0 : Nat} {x5 a u v : Int32} (B : Bs V x m b o d z A T hs pc pn f) (h1 : h_li (gA g) x0 0 (x5 + (1 : Int32)) = some a) (h2 : h_li (gA g) x0 0 (x5 + (2 : Int32)) = some u) (h3 : h_li (gA g) x0 0 (x5 + (3 : Int32)) = some v) : ∃ f1, p_case_27 V g f n x0 x m o d x5 = some f1 ∧ Rd V x m b o d z A f f1 := by
  obtain ⟨hM, hb, R, hv, X, C, hO, hD, hxm, hmo, hod⟩ := B
  have h6 := hv.1
  have hL : p_L_contains V g f x a u v o = Lres cdI (sCo T a fun c => sIs c (sIn (-1000) 1000 u (sIn (-1000) 1000 v (.inr (bz (s_covers c u v))))) : Nat ⊕ Int32) f o := by
    unfold p_L_contains Lres
    rw [P_contains X C hv a u v]
    unfold sCo sIs sIn
    try dsimp only
    by_cases c4 : inC (tN T) a = true
    · rw [if_pos c4]
      by_cases c3 : cI (tC T (ix a)) = 0
      · rw [if_pos c3]
        try rfl
      · rw [if_neg c3]
        by_cases c2 : s_in (-1000) 1000 u = true
        · rw [if_pos c2]
          by_cases c1 : s_in (-1000) 1000 v = true
          · rw [if_pos c1]
            exact Lb (bz01 _)
          · rw [if_neg c1]
            try rfl
        · rw [if_neg c2]
          try rfl
    · rw [if_neg c4]
      try rfl
  have h01 : ∀ v9 : Int32, (sCo T a fun c => sIs c (sIn (-1000) 1000 u (sIn (-1000) 1000 v (.inr (bz (s_covers c u v))))) : Nat ⊕ Int32) = .inr v9 → v9 = 0 ∨ v9 = 1 := by
    intro v9 e
    unfold sCo sIs sIn at e
    try dsimp only at e
    by_cases c4 : inC (tN T) a = true
    · rw [if_pos c4] at e
      by_cases c3 : cI (tC T (ix a)) = 0
      · rw [if_pos c3] at e
        cases e
      · rw [if_neg c3] at e
        by_cases c2 : s_in (-1000) 1000 u = true
        · rw [if_pos c2] at e
          by_cases c1 : s_in (-1000) 1000 v = true
          · rw [if_pos c1] at e
            cases e
            exact bz01 _
          · rw [if_neg c1] at e
            cases e
        · rw [if_neg c2] at e
          cases e
    · rw [if_neg c4] at e
      cases e
  obtain ⟨f1, q1, q2⟩ := caseB_ok (V := V) (g := g) (x := x) (b := b) (z := z) (A := A) hM hO hD hmo hod cdI_nz h01 (Q := fun f => p_X8_contains V g f m a u v) (fun f1 h1 => ⟨A, by rw [show p_X8_contains V g f1 m a u v = p_X8_contains V g (mH V m b z A f1) m a u v from congrArg (fun q => p_X8_contains V g q m a u v) h1]; exact Q_contains hb R hv a u v, SC.rf b A⟩)
  refine ⟨f1, ?_, q2⟩
  rw [← q1, ← hL]
  unfold p_case_27 caseB
  simp only [h1, h2, h3, ob_s]
theorem case_28 {n x0 : Nat} {x5 a u : Int32} (B : Bs V x m b o d z A T hs pc pn f) (h1 : h_li (gA g) x0 0 (x5 + (1 : Int32)) = some a) (h2 : h_li (gA g) x0 0 (x5 + (2 : Int32)) = some u) : ∃ f1, p_case_28 V g f n x0 x m o d x5 = some f1 ∧ Rd V x m b o d z A f f1 := by
  obtain ⟨hM, hb, R, hv, X, C, hO, hD, hxm, hmo, hod⟩ := B
  have h6 := hv.1
  have hL : p_L_encloses V g f x a u o = Lres cdI (sCo T u fun _ => sCo T a fun c => sIs c (.inr (bz (s_surr T (ix a) (ix u)))) : Nat ⊕ Int32) f o := by
    unfold p_L_encloses Lres
    rw [P_encloses X C hv a u]
    unfold sCo sIs
    try dsimp only
    by_cases c3 : inC (tN T) u = true
    · rw [if_pos c3]
      by_cases c2 : inC (tN T) a = true
      · rw [if_pos c2]
        by_cases c1 : cI (tC T (ix a)) = 0
        · rw [if_pos c1]
          try rfl
        · rw [if_neg c1]
          exact Lb (bz01 _)
      · rw [if_neg c2]
        try rfl
    · rw [if_neg c3]
      try rfl
  have h01 : ∀ v9 : Int32, (sCo T u fun _ => sCo T a fun c => sIs c (.inr (bz (s_surr T (ix a) (ix u)))) : Nat ⊕ Int32) = .inr v9 → v9 = 0 ∨ v9 = 1 := by
    intro v9 e
    unfold sCo sIs at e
    try dsimp only at e
    by_cases c3 : inC (tN T) u = true
    · rw [if_pos c3] at e
      by_cases c2 : inC (tN T) a = true
      · rw [if_pos c2] at e
        by_cases c1 : cI (tC T (ix a)) = 0
        · rw [if_pos c1] at e
          cases e
        · rw [if_neg c1] at e
          cases e
          exact bz01 _
      · rw [if_neg c2] at e
        cases e
    · rw [if_neg c3] at e
      cases e
  obtain ⟨f1, q1, q2⟩ := caseB_ok (V := V) (g := g) (x := x) (b := b) (z := z) (A := A) hM hO hD hmo hod cdI_nz h01 (Q := fun f => p_X8_encloses V g f m a u) (fun f1 h1 => ⟨A, by rw [show p_X8_encloses V g f1 m a u = p_X8_encloses V g (mH V m b z A f1) m a u from congrArg (fun q => p_X8_encloses V g q m a u) h1]; exact Q_encloses hb R hv a u, SC.rf b A⟩)
  refine ⟨f1, ?_, q2⟩
  rw [← q1, ← hL]
  unfold p_case_28 caseB
  simp only [h1, h2, ob_s]
end CD

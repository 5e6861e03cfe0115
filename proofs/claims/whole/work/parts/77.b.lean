section CB
variable {V : Nat → Nat} {g f f0 : GH} {x m b o d : Nat} {T : TS} {z : Nat → Int32} {A : Nat → Nat → Int32} {hs pc pn : Int32}
theorem case_7 {n x0 : Nat} {x5 a : Int32} (B : Bs V x m b o d z A T hs pc pn f) (h1 : h_li (gA g) x0 0 (x5 + (1 : Int32)) = some a) : ∃ f1, p_case_7 V g f n x0 x m o d x5 = some f1 ∧ Rd V x m b o d z A f f1 := by
  obtain ⟨hM, hb, R, hv, X, C, hO, hD, hxm, hmo, hod⟩ := B
  have hL : p_L_pointCount V g f x a o = Lres cdT (sCo T a fun c => .inr (nn (cN c)) : Nat ⊕ Int32) f o := by
    unfold p_L_pointCount Lres
    rw [P_pointCount X C hv a]
    unfold sCo
    try dsimp only
    by_cases c0 : inC (tN T) a = true
    · rw [if_pos c0]
      try rfl
    · rw [if_neg c0]
      try rfl
  obtain ⟨f1, q1, q2⟩ := caseI_ok (V := V) (g := g) (x := x) (b := b) (z := z) (A := A) hM hO hD hmo hod cdT_nz (s := (sCo T a fun c => .inr (nn (cN c)) : Nat ⊕ Int32)) (Q := fun f => p_X8_pointCount V g f m a) (fun f1 h1 => ⟨A, by rw [show p_X8_pointCount V g f1 m a = p_X8_pointCount V g (mH V m b z A f1) m a from congrArg (fun q => p_X8_pointCount V g q m a) h1]; exact Q_pointCount hb R hv a, SC.rf b A⟩)
  refine ⟨f1, ?_, q2⟩
  rw [← q1, ← hL]
  unfold p_case_7 caseI
  simp only [h1, ob_s]

theorem case_9 {n x0 : Nat} {x5 a u : Int32} (B : Bs V x m b o d z A T hs pc pn f) (h1 : h_li (gA g) x0 0 (x5 + (1 : Int32)) = some a) (h2 : h_li (gA g) x0 0 (x5 + (2 : Int32)) = some u) : ∃ f1, p_case_9 V g f n x0 x m o d x5 = some f1 ∧ Rd V x m b o d z A f f1 := by
  obtain ⟨hM, hb, R, hv, X, C, hO, hD, hxm, hmo, hod⟩ := B
  have hL : p_L_pointY V g f x a u o = Lres cdT (sCo T a fun c => sPt (cN c) u (.inr (cY c (ix u))) : Nat ⊕ Int32) f o := by
    unfold p_L_pointY Lres
    rw [P_pointY X C hv a u]
    unfold sCo sPt
    try dsimp only
    by_cases c0 : inC (tN T) a = true
    · rw [if_pos c0]
      by_cases c1 : inC (cN (tC T (ix a))) u = true
      · rw [if_pos c1]
        try rfl
      · rw [if_neg c1]
        try rfl
    · rw [if_neg c0]
      try rfl
  obtain ⟨f1, q1, q2⟩ := caseI_ok (V := V) (g := g) (x := x) (b := b) (z := z) (A := A) hM hO hD hmo hod cdT_nz (s := (sCo T a fun c => sPt (cN c) u (.inr (cY c (ix u))) : Nat ⊕ Int32)) (Q := fun f => p_X8_pointY V g f m a u) (fun f1 h1 => ⟨A, by rw [show p_X8_pointY V g f1 m a u = p_X8_pointY V g (mH V m b z A f1) m a u from congrArg (fun q => p_X8_pointY V g q m a u) h1]; exact Q_pointY hb R hv a u, SC.rf b A⟩)
  refine ⟨f1, ?_, q2⟩
  rw [← q1, ← hL]
  unfold p_case_9 caseI
  simp only [h1, h2, ob_s]

theorem case_10 {n x0 : Nat} {x5 a u v : Int32} (B : Bs V x m b o d z A T hs pc pn f) (h1 : h_li (gA g) x0 0 (x5 + (1 : Int32)) = some a) (h2 : h_li (gA g) x0 0 (x5 + (2 : Int32)) = some u) (h3 : h_li (gA g) x0 0 (x5 + (3 : Int32)) = some v) : ∃ f1, p_case_10 V g f n x0 x m o d x5 = some f1 ∧ Rd V x m b o d z A f f1 := by
  obtain ⟨hM, hb, R, hv, X, C, hO, hD, hxm, hmo, hod⟩ := B
  have hL : p_L_pointDistance V g f x a u v o = Lres cdT (sCo T a fun c => sPt (cN c) u (sPt (cN c) v (.inr (s_d (tK T) c (ix u) (ix v)))) : Nat ⊕ Int32) f o := by
    unfold p_L_pointDistance Lres
    rw [P_pointDistance X C hv a u v]
    unfold sCo sPt
    try dsimp only
    by_cases c0 : inC (tN T) a = true
    · rw [if_pos c0]
      by_cases c1 : inC (cN (tC T (ix a))) u = true
      · rw [if_pos c1]
        by_cases c2 : inC (cN (tC T (ix a))) v = true
        · rw [if_pos c2]
          try rfl
        · rw [if_neg c2]
          try rfl
      · rw [if_neg c1]
        try rfl
    · rw [if_neg c0]
      try rfl
  obtain ⟨f1, q1, q2⟩ := caseI_ok (V := V) (g := g) (x := x) (b := b) (z := z) (A := A) hM hO hD hmo hod cdT_nz (s := (sCo T a fun c => sPt (cN c) u (sPt (cN c) v (.inr (s_d (tK T) c (ix u) (ix v)))) : Nat ⊕ Int32)) (Q := fun f => p_X8_pointDistance V g f m a u v) (fun f1 h1 => ⟨A, by rw [show p_X8_pointDistance V g f1 m a u v = p_X8_pointDistance V g (mH V m b z A f1) m a u v from congrArg (fun q => p_X8_pointDistance V g q m a u v) h1]; exact Q_pointDistance hb R hv a u v, SC.rf b A⟩)
  refine ⟨f1, ?_, q2⟩
  rw [← q1, ← hL]
  unfold p_case_10 caseI
  simp only [h1, h2, h3, ob_s]

theorem case_11 {n x0 : Nat} {x5 a u v : Int32} (B : Bs V x m b o d z A T hs pc pn f) (h1 : h_li (gA g) x0 0 (x5 + (1 : Int32)) = some a) (h2 : h_li (gA g) x0 0 (x5 + (2 : Int32)) = some u) (h3 : h_li (gA g) x0 0 (x5 + (3 : Int32)) = some v) : ∃ f1, p_case_11 V g f n x0 x m o d x5 = some f1 ∧ Rd V x m b o d z A f f1 := by
  obtain ⟨hM, hb, R, hv, X, C, hO, hD, hxm, hmo, hod⟩ := B
  have hL : p_L_nearestPoint V g f x a u v o = Lres cdA (sCo T a fun c => sIn (-1000) 1000 u (sIn (-1000) 1000 v (.inr (nn (s_near (tK T) c u v)))) : Nat ⊕ Int32) f o := by
    unfold p_L_nearestPoint Lres
    rw [P_nearestPoint X C hv a u v]
    unfold sCo sIn
    try dsimp only
    by_cases c0 : inC (tN T) a = true
    · rw [if_pos c0]
      by_cases c1 : s_in (-1000) (1000) u = true
      · rw [if_pos c1]
        by_cases c2 : s_in (-1000) (1000) v = true
        · rw [if_pos c2]
          try rfl
        · rw [if_neg c2]
          try rfl
      · rw [if_neg c1]
        try rfl
    · rw [if_neg c0]
      try rfl
  obtain ⟨f1, q1, q2⟩ := caseI_ok (V := V) (g := g) (x := x) (b := b) (z := z) (A := A) hM hO hD hmo hod cdA_nz (s := (sCo T a fun c => sIn (-1000) 1000 u (sIn (-1000) 1000 v (.inr (nn (s_near (tK T) c u v)))) : Nat ⊕ Int32)) (Q := fun f => p_X8_nearestPoint V g f m a u v) (fun f1 h1 => ⟨A, by rw [show p_X8_nearestPoint V g f1 m a u v = p_X8_nearestPoint V g (mH V m b z A f1) m a u v from congrArg (fun q => p_X8_nearestPoint V g q m a u v) h1]; exact Q_nearestPoint hb R hv a u v, SC.rf b A⟩)
  refine ⟨f1, ?_, q2⟩
  rw [← q1, ← hL]
  unfold p_case_11 caseI
  simp only [h1, h2, h3, ob_s]

theorem case_12 {n x0 : Nat} {x5 a l : Int32} (B : Bs V x m b o d z A T hs pc pn f) (h1 : h_li (gA g) x0 0 (x5 + (1 : Int32)) = some a) (h2 : h_li (gA g) x0 0 (x5 + (2 : Int32)) = some l) : ∃ f1, p_case_12 V g f n x0 x m o d x5 = some f1 ∧ Rd V x m b o d z A f f1 := by
  obtain ⟨hM, hb, R, hv, X, C, hO, hD, hxm, hmo, hod⟩ := B
  have hL : p_L_lengthAt V g f x a l o = Lres cdA (sCo T a fun c => sIn 0 7 l (.inr (s_len (tK T) c (ix l))) : Nat ⊕ Int32) f o := by
    unfold p_L_lengthAt Lres
    rw [P_lengthAt X C hv a l]
    unfold sCo sIn
    try dsimp only
    by_cases c0 : inC (tN T) a = true
    · rw [if_pos c0]
      by_cases c1 : s_in (0) (7) l = true
      · rw [if_pos c1]
        try rfl
      · rw [if_neg c1]
        try rfl
    · rw [if_neg c0]
      try rfl
  obtain ⟨f1, q1, q2⟩ := caseI_ok (V := V) (g := g) (x := x) (b := b) (z := z) (A := A) hM hO hD hmo hod cdA_nz (s := (sCo T a fun c => sIn 0 7 l (.inr (s_len (tK T) c (ix l))) : Nat ⊕ Int32)) (Q := fun f => p_X8_lengthAt V g f m a l) (fun f1 h1 => ⟨A, by rw [show p_X8_lengthAt V g f1 m a l = p_X8_lengthAt V g (mH V m b z A f1) m a l from congrArg (fun q => p_X8_lengthAt V g q m a l) h1]; exact Q_lengthAt hb R hv a l, SC.rf b A⟩)
  refine ⟨f1, ?_, q2⟩
  rw [← q1, ← hL]
  unfold p_case_12 caseI
  simp only [h1, h2, ob_s]

theorem case_13 {n x0 : Nat} {x5 a l : Int32} (B : Bs V x m b o d z A T hs pc pn f) (h1 : h_li (gA g) x0 0 (x5 + (1 : Int32)) = some a) (h2 : h_li (gA g) x0 0 (x5 + (2 : Int32)) = some l) : ∃ f1, p_case_13 V g f n x0 x m o d x5 = some f1 ∧ Rd V x m b o d z A f f1 := by
  obtain ⟨hM, hb, R, hv, X, C, hO, hD, hxm, hmo, hod⟩ := B
  have hL : p_L_stickCount V g f x a l o = Lres cdA (sCo T a fun c => sIn 0 7 l (.inr (nn (s_sticks c (ix l)))) : Nat ⊕ Int32) f o := by
    unfold p_L_stickCount Lres
    rw [P_stickCount X C hv a l]
    unfold sCo sIn
    try dsimp only
    by_cases c0 : inC (tN T) a = true
    · rw [if_pos c0]
      by_cases c1 : s_in (0) (7) l = true
      · rw [if_pos c1]
        try rfl
      · rw [if_neg c1]
        try rfl
    · rw [if_neg c0]
      try rfl
  obtain ⟨f1, q1, q2⟩ := caseI_ok (V := V) (g := g) (x := x) (b := b) (z := z) (A := A) hM hO hD hmo hod cdA_nz (s := (sCo T a fun c => sIn 0 7 l (.inr (nn (s_sticks c (ix l)))) : Nat ⊕ Int32)) (Q := fun f => p_X8_stickCount V g f m a l) (fun f1 h1 => ⟨A, by rw [show p_X8_stickCount V g f1 m a l = p_X8_stickCount V g (mH V m b z A f1) m a l from congrArg (fun q => p_X8_stickCount V g q m a l) h1]; exact Q_stickCount hb R hv a l, SC.rf b A⟩)
  refine ⟨f1, ?_, q2⟩
  rw [← q1, ← hL]
  unfold p_case_13 caseI
  simp only [h1, h2, ob_s]

theorem case_14 {n x0 : Nat} {x5 a l s : Int32} (B : Bs V x m b o d z A T hs pc pn f) (h1 : h_li (gA g) x0 0 (x5 + (1 : Int32)) = some a) (h2 : h_li (gA g) x0 0 (x5 + (2 : Int32)) = some l) (h3 : h_li (gA g) x0 0 (x5 + (3 : Int32)) = some s) : ∃ f1, p_case_14 V g f n x0 x m o d x5 = some f1 ∧ Rd V x m b o d z A f f1 := by
  obtain ⟨hM, hb, R, hv, X, C, hO, hD, hxm, hmo, hod⟩ := B
  have hL : p_L_stickStart V g f x a l s o = Lres cdA (sStk T a l s fun _ l s => nn (s * 2 ^ l) : Nat ⊕ Int32) f o := by
    unfold p_L_stickStart Lres
    rw [P_stickStart X C hv a l s]
    unfold sStk sCo sIn sSt
    try dsimp only
    by_cases c0 : inC (tN T) a = true
    · rw [if_pos c0]
      by_cases c1 : s_in (0) (7) l = true
      · rw [if_pos c1]
        by_cases c2 : inC (s_sticks (tC T (ix a)) (ix l)) s = true
        · rw [if_pos c2]
          try rfl
        · rw [if_neg c2]
          try rfl
      · rw [if_neg c1]
        try rfl
    · rw [if_neg c0]
      try rfl
  obtain ⟨f1, q1, q2⟩ := caseI_ok (V := V) (g := g) (x := x) (b := b) (z := z) (A := A) hM hO hD hmo hod cdA_nz (s := (sStk T a l s fun _ l s => nn (s * 2 ^ l) : Nat ⊕ Int32)) (Q := fun f => p_X8_stickStart V g f m a l s) (fun f1 h1 => ⟨A, by rw [show p_X8_stickStart V g f1 m a l s = p_X8_stickStart V g (mH V m b z A f1) m a l s from congrArg (fun q => p_X8_stickStart V g q m a l s) h1]; exact Q_stickStart hb R hv a l s, SC.rf b A⟩)
  refine ⟨f1, ?_, q2⟩
  rw [← q1, ← hL]
  unfold p_case_14 caseI
  simp only [h1, h2, h3, ob_s]

theorem case_15 {n x0 : Nat} {x5 a l s : Int32} (B : Bs V x m b o d z A T hs pc pn f) (h1 : h_li (gA g) x0 0 (x5 + (1 : Int32)) = some a) (h2 : h_li (gA g) x0 0 (x5 + (2 : Int32)) = some l) (h3 : h_li (gA g) x0 0 (x5 + (3 : Int32)) = some s) : ∃ f1, p_case_15 V g f n x0 x m o d x5 = some f1 ∧ Rd V x m b o d z A f f1 := by
  obtain ⟨hM, hb, R, hv, X, C, hO, hD, hxm, hmo, hod⟩ := B
  have hL : p_L_stickLength V g f x a l s o = Lres cdA (sStk T a l s fun c l s => s_span (tK T) c l s : Nat ⊕ Int32) f o := by
    unfold p_L_stickLength Lres
    rw [P_stickLength X C hv a l s]
    unfold sStk sCo sIn sSt
    try dsimp only
    by_cases c0 : inC (tN T) a = true
    · rw [if_pos c0]
      by_cases c1 : s_in (0) (7) l = true
      · rw [if_pos c1]
        by_cases c2 : inC (s_sticks (tC T (ix a)) (ix l)) s = true
        · rw [if_pos c2]
          try rfl
        · rw [if_neg c2]
          try rfl
      · rw [if_neg c1]
        try rfl
    · rw [if_neg c0]
      try rfl
  obtain ⟨f1, q1, q2⟩ := caseI_ok (V := V) (g := g) (x := x) (b := b) (z := z) (A := A) hM hO hD hmo hod cdA_nz (s := (sStk T a l s fun c l s => s_span (tK T) c l s : Nat ⊕ Int32)) (Q := fun f => p_X8_stickLength V g f m a l s) (fun f1 h1 => ⟨A, by rw [show p_X8_stickLength V g f1 m a l s = p_X8_stickLength V g (mH V m b z A f1) m a l s from congrArg (fun q => p_X8_stickLength V g q m a l s) h1]; exact Q_stickLength hb R hv a l s, SC.rf b A⟩)
  refine ⟨f1, ?_, q2⟩
  rw [← q1, ← hL]
  unfold p_case_15 caseI
  simp only [h1, h2, h3, ob_s]

theorem case_16 {n x0 : Nat} {x5 a l : Int32} (B : Bs V x m b o d z A T hs pc pn f) (h1 : h_li (gA g) x0 0 (x5 + (1 : Int32)) = some a) (h2 : h_li (gA g) x0 0 (x5 + (2 : Int32)) = some l) : ∃ f1, p_case_16 V g f n x0 x m o d x5 = some f1 ∧ Rd V x m b o d z A f f1 := by
  obtain ⟨hM, hb, R, hv, X, C, hO, hD, hxm, hmo, hod⟩ := B
  have hL : p_L_longestStick V g f x a l o = Lres cdA (sCo T a fun c => sIn 0 7 l (.inr (nn (s_am (s_span (tK T) c (ix l)) (s_sticks c (ix l) - 1)))) : Nat ⊕ Int32) f o := by
    unfold p_L_longestStick Lres
    rw [P_longestStick X C hv a l]
    unfold sCo sIn
    try dsimp only
    by_cases c0 : inC (tN T) a = true
    · rw [if_pos c0]
      by_cases c1 : s_in (0) (7) l = true
      · rw [if_pos c1]
        try rfl
      · rw [if_neg c1]
        try rfl
    · rw [if_neg c0]
      try rfl
  obtain ⟨f1, q1, q2⟩ := caseI_ok (V := V) (g := g) (x := x) (b := b) (z := z) (A := A) hM hO hD hmo hod cdA_nz (s := (sCo T a fun c => sIn 0 7 l (.inr (nn (s_am (s_span (tK T) c (ix l)) (s_sticks c (ix l) - 1)))) : Nat ⊕ Int32)) (Q := fun f => p_X8_longestStick V g f m a l) (fun f1 h1 => ⟨A, by rw [show p_X8_longestStick V g f1 m a l = p_X8_longestStick V g (mH V m b z A f1) m a l from congrArg (fun q => p_X8_longestStick V g q m a l) h1]; exact Q_longestStick hb R hv a l, SC.rf b A⟩)
  refine ⟨f1, ?_, q2⟩
  rw [← q1, ← hL]
  unfold p_case_16 caseI
  simp only [h1, h2, ob_s]

theorem case_17 {n x0 : Nat} {x5 a l : Int32} (B : Bs V x m b o d z A T hs pc pn f) (h1 : h_li (gA g) x0 0 (x5 + (1 : Int32)) = some a) (h2 : h_li (gA g) x0 0 (x5 + (2 : Int32)) = some l) : ∃ f1, p_case_17 V g f n x0 x m o d x5 = some f1 ∧ Rd V x m b o d z A f f1 := by
  obtain ⟨hM, hb, R, hv, X, C, hO, hD, hxm, hmo, hod⟩ := B
  have hL : p_L_lengthGain V g f x a l o = Lres cdA (sCo T a fun c => sIn 0 6 l (.inr (s_gain (tK T) c (ix l))) : Nat ⊕ Int32) f o := by
    unfold p_L_lengthGain Lres
    rw [P_lengthGain X C hv a l]
    unfold sCo sIn
    try dsimp only
    by_cases c0 : inC (tN T) a = true
    · rw [if_pos c0]
      by_cases c1 : s_in (0) (6) l = true
      · rw [if_pos c1]
        try rfl
      · rw [if_neg c1]
        try rfl
    · rw [if_neg c0]
      try rfl
  obtain ⟨f1, q1, q2⟩ := caseI_ok (V := V) (g := g) (x := x) (b := b) (z := z) (A := A) hM hO hD hmo hod cdA_nz (s := (sCo T a fun c => sIn 0 6 l (.inr (s_gain (tK T) c (ix l))) : Nat ⊕ Int32)) (Q := fun f => p_X8_lengthGain V g f m a l) (fun f1 h1 => ⟨A, by rw [show p_X8_lengthGain V g f1 m a l = p_X8_lengthGain V g (mH V m b z A f1) m a l from congrArg (fun q => p_X8_lengthGain V g q m a l) h1]; exact Q_lengthGain hb R hv a l, SC.rf b A⟩)
  refine ⟨f1, ?_, q2⟩
  rw [← q1, ← hL]
  unfold p_case_17 caseI
  simp only [h1, h2, ob_s]

theorem case_18 {n x0 : Nat} {x5 a : Int32} (B : Bs V x m b o d z A T hs pc pn f) (h1 : h_li (gA g) x0 0 (x5 + (1 : Int32)) = some a) : ∃ f1, p_case_18 V g f n x0 x m o d x5 = some f1 ∧ Rd V x m b o d z A f f1 := by
  obtain ⟨hM, hb, R, hv, X, C, hO, hD, hxm, hmo, hod⟩ := B
  have hL : p_L_levelOfGreatestGain V g f x a o = Lres cdT (sCo T a fun c => .inr (nn (s_am (s_gain (tK T) c) 6)) : Nat ⊕ Int32) f o := by
    unfold p_L_levelOfGreatestGain Lres
    rw [P_levelOfGreatestGain X C hv a]
    unfold sCo
    try dsimp only
    by_cases c0 : inC (tN T) a = true
    · rw [if_pos c0]
      try rfl
    · rw [if_neg c0]
      try rfl
  obtain ⟨f1, q1, q2⟩ := caseI_ok (V := V) (g := g) (x := x) (b := b) (z := z) (A := A) hM hO hD hmo hod cdT_nz (s := (sCo T a fun c => .inr (nn (s_am (s_gain (tK T) c) 6)) : Nat ⊕ Int32)) (Q := fun f => p_X8_levelOfGreatestGain V g f m a) (fun f1 h1 => ⟨A, by rw [show p_X8_levelOfGreatestGain V g f1 m a = p_X8_levelOfGreatestGain V g (mH V m b z A f1) m a from congrArg (fun q => p_X8_levelOfGreatestGain V g q m a) h1]; exact Q_levelOfGreatestGain hb R hv a, SC.rf b A⟩)
  refine ⟨f1, ?_, q2⟩
  rw [← q1, ← hL]
  unfold p_case_18 caseI
  simp only [h1, ob_s]

theorem case_19 {n x0 : Nat} {x5 a l : Int32} (B : Bs V x m b o d z A T hs pc pn f) (h1 : h_li (gA g) x0 0 (x5 + (1 : Int32)) = some a) (h2 : h_li (gA g) x0 0 (x5 + (2 : Int32)) = some l) : ∃ f1, p_case_19 V g f n x0 x m o d x5 = some f1 ∧ Rd V x m b o d z A f f1 := by
  obtain ⟨hM, hb, R, hv, X, C, hO, hD, hxm, hmo, hod⟩ := B
  have hL : p_L_coarsestLevelFor V g f x a l o = Lres cdA (sCo T a fun c => sIn 0 2147483647 l (.inr (s_coarsest (tK T) c l 7)) : Nat ⊕ Int32) f o := by
    unfold p_L_coarsestLevelFor Lres
    rw [P_coarsestLevelFor X C hv a l]
    unfold sCo sIn
    try dsimp only
    by_cases c0 : inC (tN T) a = true
    · rw [if_pos c0]
      by_cases c1 : s_in (0) (2147483647) l = true
      · rw [if_pos c1]
        try rfl
      · rw [if_neg c1]
        try rfl
    · rw [if_neg c0]
      try rfl
  obtain ⟨f1, q1, q2⟩ := caseI_ok (V := V) (g := g) (x := x) (b := b) (z := z) (A := A) hM hO hD hmo hod cdA_nz (s := (sCo T a fun c => sIn 0 2147483647 l (.inr (s_coarsest (tK T) c l 7)) : Nat ⊕ Int32)) (Q := fun f => p_X8_coarsestLevelFor V g f m a l) (fun f1 h1 => ⟨A, by rw [show p_X8_coarsestLevelFor V g f1 m a l = p_X8_coarsestLevelFor V g (mH V m b z A f1) m a l from congrArg (fun q => p_X8_coarsestLevelFor V g q m a l) h1]; exact Q_coarsestLevelFor hb R hv a l, SC.rf b A⟩)
  refine ⟨f1, ?_, q2⟩
  rw [← q1, ← hL]
  unfold p_case_19 caseI
  simp only [h1, h2, ob_s]

theorem case_20 {n x0 : Nat} {x5 a : Int32} (B : Bs V x m b o d z A T hs pc pn f) (h1 : h_li (gA g) x0 0 (x5 + (1 : Int32)) = some a) : ∃ f1, p_case_20 V g f n x0 x m o d x5 = some f1 ∧ Rd V x m b o d z A f f1 := by
  obtain ⟨hM, hb, R, hv, X, C, hO, hD, hxm, hmo, hod⟩ := B
  have hL : p_L_coarsestExactLevel V g f x a o = Lres cdT (sCo T a fun c => .inr (s_coarsest (tK T) c (s_len (tK T) c 0) 7) : Nat ⊕ Int32) f o := by
    unfold p_L_coarsestExactLevel Lres
    rw [P_coarsestExactLevel X C hv a]
    unfold sCo
    try dsimp only
    by_cases c0 : inC (tN T) a = true
    · rw [if_pos c0]
      try rfl
    · rw [if_neg c0]
      try rfl
  obtain ⟨f1, q1, q2⟩ := caseI_ok (V := V) (g := g) (x := x) (b := b) (z := z) (A := A) hM hO hD hmo hod cdT_nz (s := (sCo T a fun c => .inr (s_coarsest (tK T) c (s_len (tK T) c 0) 7) : Nat ⊕ Int32)) (Q := fun f => p_X8_coarsestExactLevel V g f m a) (fun f1 h1 => ⟨A, by rw [show p_X8_coarsestExactLevel V g f1 m a = p_X8_coarsestExactLevel V g (mH V m b z A f1) m a from congrArg (fun q => p_X8_coarsestExactLevel V g q m a) h1]; exact Q_coarsestExactLevel hb R hv a, SC.rf b A⟩)
  refine ⟨f1, ?_, q2⟩
  rw [← q1, ← hL]
  unfold p_case_20 caseI
  simp only [h1, ob_s]

theorem case_21 {n x0 : Nat} {x5 l : Int32} (B : Bs V x m b o d z A T hs pc pn f) (h1 : h_li (gA g) x0 0 (x5 + (1 : Int32)) = some l) : ∃ f1, p_case_21 V g f n x0 x m o d x5 = some f1 ∧ Rd V x m b o d z A f f1 := by
  obtain ⟨hM, hb, R, hv, X, C, hO, hD, hxm, hmo, hod⟩ := B
  have hL : p_L_totalLength V g f x l o = Lres cdT (sIn 0 7 l (.inr (s_tot T (ix l))) : Nat ⊕ Int32) f o := by
    unfold p_L_totalLength Lres
    rw [P_totalLength X C hv l]
    unfold sIn
    try dsimp only
    by_cases c0 : s_in (0) (7) l = true
    · rw [if_pos c0]
      try rfl
    · rw [if_neg c0]
      try rfl
  obtain ⟨f1, q1, q2⟩ := caseI_ok (V := V) (g := g) (x := x) (b := b) (z := z) (A := A) hM hO hD hmo hod cdT_nz (s := (sIn 0 7 l (.inr (s_tot T (ix l))) : Nat ⊕ Int32)) (Q := fun f => p_X8_totalLength V g f m l) (fun f1 h1 => ⟨A, by rw [show p_X8_totalLength V g f1 m l = p_X8_totalLength V g (mH V m b z A f1) m l from congrArg (fun q => p_X8_totalLength V g q m l) h1]; exact Q_totalLength hb R hv l, SC.rf b A⟩)
  refine ⟨f1, ?_, q2⟩
  rw [← q1, ← hL]
  unfold p_case_21 caseI
  simp only [h1, ob_s]

theorem case_22 {n x0 : Nat} {x5 l : Int32} (B : Bs V x m b o d z A T hs pc pn f) (h1 : h_li (gA g) x0 0 (x5 + (1 : Int32)) = some l) : ∃ f1, p_case_22 V g f n x0 x m o d x5 = some f1 ∧ Rd V x m b o d z A f f1 := by
  obtain ⟨hM, hb, R, hv, X, C, hO, hD, hxm, hmo, hod⟩ := B
  have hL : p_L_longestCoast V g f x l o = Lres cdT (sIn 0 7 l (.inr (s_lc T (ix l))) : Nat ⊕ Int32) f o := by
    unfold p_L_longestCoast Lres
    rw [P_longestCoast X C hv l]
    unfold sIn
    try dsimp only
    by_cases c0 : s_in (0) (7) l = true
    · rw [if_pos c0]
      try rfl
    · rw [if_neg c0]
      try rfl
  obtain ⟨f1, q1, q2⟩ := caseI_ok (V := V) (g := g) (x := x) (b := b) (z := z) (A := A) hM hO hD hmo hod cdT_nz (s := (sIn 0 7 l (.inr (s_lc T (ix l))) : Nat ⊕ Int32)) (Q := fun f => p_X8_longestCoast V g f m l) (fun f1 h1 => ⟨A, by rw [show p_X8_longestCoast V g f1 m l = p_X8_longestCoast V g (mH V m b z A f1) m l from congrArg (fun q => p_X8_longestCoast V g q m l) h1]; exact Q_longestCoast hb R hv l, SC.rf b A⟩)
  refine ⟨f1, ?_, q2⟩
  rw [← q1, ← hL]
  unfold p_case_22 caseI
  simp only [h1, ob_s]

theorem case_25 {n x0 : Nat} {x5 a : Int32} (B : Bs V x m b o d z A T hs pc pn f) (h1 : h_li (gA g) x0 0 (x5 + (1 : Int32)) = some a) : ∃ f1, p_case_25 V g f n x0 x m o d x5 = some f1 ∧ Rd V x m b o d z A f f1 := by
  obtain ⟨hM, hb, R, hv, X, C, hO, hD, hxm, hmo, hod⟩ := B
  have hL : p_L_doubledArea V g f x a o = Lres cdI (sCo T a fun c => sIs c (.inr (s_abs (s_area c))) : Nat ⊕ Int32) f o := by
    unfold p_L_doubledArea Lres
    rw [P_doubledArea X C hv a]
    unfold sCo sIs
    try dsimp only
    by_cases c0 : inC (tN T) a = true
    · rw [if_pos c0]
      by_cases c1 : cI (tC T (ix a)) = 0
      · rw [if_pos c1]
        try rfl
      · rw [if_neg c1]
        try rfl
    · rw [if_neg c0]
      try rfl
  obtain ⟨f1, q1, q2⟩ := caseI_ok (V := V) (g := g) (x := x) (b := b) (z := z) (A := A) hM hO hD hmo hod cdI_nz (s := (sCo T a fun c => sIs c (.inr (s_abs (s_area c))) : Nat ⊕ Int32)) (Q := fun f => p_X8_doubledArea V g f m a) (fun f1 h1 => ⟨A, by rw [show p_X8_doubledArea V g f1 m a = p_X8_doubledArea V g (mH V m b z A f1) m a from congrArg (fun q => p_X8_doubledArea V g q m a) h1]; exact Q_doubledArea hb R hv a, SC.rf b A⟩)
  refine ⟨f1, ?_, q2⟩
  rw [← q1, ← hL]
  unfold p_case_25 caseI
  simp only [h1, ob_s]

theorem case_29 {n x0 : Nat} {x5 a : Int32} (B : Bs V x m b o d z A T hs pc pn f) (h1 : h_li (gA g) x0 0 (x5 + (1 : Int32)) = some a) : ∃ f1, p_case_29 V g f n x0 x m o d x5 = some f1 ∧ Rd V x m b o d z A f f1 := by
  obtain ⟨hM, hb, R, hv, X, C, hO, hD, hxm, hmo, hod⟩ := B
  have hL : p_L_innermostIslandAround V g f x a o = Lres cdT (sCo T a fun _ => .inr (s_inn T (ix a) (tN T)) : Nat ⊕ Int32) f o := by
    unfold p_L_innermostIslandAround Lres
    rw [P_innermostIslandAround X C hv a]
    unfold sCo
    try dsimp only
    by_cases c0 : inC (tN T) a = true
    · rw [if_pos c0]
      try rfl
    · rw [if_neg c0]
      try rfl
  obtain ⟨f1, q1, q2⟩ := caseI_ok (V := V) (g := g) (x := x) (b := b) (z := z) (A := A) hM hO hD hmo hod cdT_nz (s := (sCo T a fun _ => .inr (s_inn T (ix a) (tN T)) : Nat ⊕ Int32)) (Q := fun f => p_X8_innermostIslandAround V g f m a) (fun f1 h1 => ⟨A, by rw [show p_X8_innermostIslandAround V g f1 m a = p_X8_innermostIslandAround V g (mH V m b z A f1) m a from congrArg (fun q => p_X8_innermostIslandAround V g q m a) h1]; exact Q_innermostIslandAround hb R hv a, SC.rf b A⟩)
  refine ⟨f1, ?_, q2⟩
  rw [← q1, ← hL]
  unfold p_case_29 caseI
  simp only [h1, ob_s]

theorem case_30 {n x0 : Nat} {x5 a : Int32} (B : Bs V x m b o d z A T hs pc pn f) (h1 : h_li (gA g) x0 0 (x5 + (1 : Int32)) = some a) : ∃ f1, p_case_30 V g f n x0 x m o d x5 = some f1 ∧ Rd V x m b o d z A f f1 := by
  obtain ⟨hM, hb, R, hv, X, C, hO, hD, hxm, hmo, hod⟩ := B
  have hL : p_L_ringDepth V g f x a o = Lres cdT (sCo T a fun _ => .inr (s_ring T (ix a)) : Nat ⊕ Int32) f o := by
    unfold p_L_ringDepth Lres
    rw [P_ringDepth X C hv a]
    unfold sCo
    try dsimp only
    by_cases c0 : inC (tN T) a = true
    · rw [if_pos c0]
      try rfl
    · rw [if_neg c0]
      try rfl
  obtain ⟨f1, q1, q2⟩ := caseI_ok (V := V) (g := g) (x := x) (b := b) (z := z) (A := A) hM hO hD hmo hod cdT_nz (s := (sCo T a fun _ => .inr (s_ring T (ix a)) : Nat ⊕ Int32)) (Q := fun f => p_X8_ringDepth V g f m a) (fun f1 h1 => ⟨A, by rw [show p_X8_ringDepth V g f1 m a = p_X8_ringDepth V g (mH V m b z A f1) m a from congrArg (fun q => p_X8_ringDepth V g q m a) h1]; exact Q_ringDepth hb R hv a, SC.rf b A⟩)
  refine ⟨f1, ?_, q2⟩
  rw [← q1, ← hL]
  unfold p_case_30 caseI
  simp only [h1, ob_s]

theorem case_31 {n x0 : Nat} {x5 a : Int32} (B : Bs V x m b o d z A T hs pc pn f) (h1 : h_li (gA g) x0 0 (x5 + (1 : Int32)) = some a) : ∃ f1, p_case_31 V g f n x0 x m o d x5 = some f1 ∧ Rd V x m b o d z A f f1 := by
  obtain ⟨hM, hb, R, hv, X, C, hO, hD, hxm, hmo, hod⟩ := B
  have hL : p_L_boxWidth V g f x a o = Lres cdT (sCo T a fun c => .inr (s_box (cX c) (cN c)) : Nat ⊕ Int32) f o := by
    unfold p_L_boxWidth Lres
    rw [P_boxWidth X C hv a]
    unfold sCo
    try dsimp only
    by_cases c0 : inC (tN T) a = true
    · rw [if_pos c0]
      try rfl
    · rw [if_neg c0]
      try rfl
  obtain ⟨f1, q1, q2⟩ := caseI_ok (V := V) (g := g) (x := x) (b := b) (z := z) (A := A) hM hO hD hmo hod cdT_nz (s := (sCo T a fun c => .inr (s_box (cX c) (cN c)) : Nat ⊕ Int32)) (Q := fun f => p_X8_boxWidth V g f m a) (fun f1 h1 => ⟨A, by rw [show p_X8_boxWidth V g f1 m a = p_X8_boxWidth V g (mH V m b z A f1) m a from congrArg (fun q => p_X8_boxWidth V g q m a) h1]; exact Q_boxWidth hb R hv a, SC.rf b A⟩)
  refine ⟨f1, ?_, q2⟩
  rw [← q1, ← hL]
  unfold p_case_31 caseI
  simp only [h1, ob_s]

theorem case_32 {n x0 : Nat} {x5 a : Int32} (B : Bs V x m b o d z A T hs pc pn f) (h1 : h_li (gA g) x0 0 (x5 + (1 : Int32)) = some a) : ∃ f1, p_case_32 V g f n x0 x m o d x5 = some f1 ∧ Rd V x m b o d z A f f1 := by
  obtain ⟨hM, hb, R, hv, X, C, hO, hD, hxm, hmo, hod⟩ := B
  have hL : p_L_boxHeight V g f x a o = Lres cdT (sCo T a fun c => .inr (s_box (cY c) (cN c)) : Nat ⊕ Int32) f o := by
    unfold p_L_boxHeight Lres
    rw [P_boxHeight X C hv a]
    unfold sCo
    try dsimp only
    by_cases c0 : inC (tN T) a = true
    · rw [if_pos c0]
      try rfl
    · rw [if_neg c0]
      try rfl
  obtain ⟨f1, q1, q2⟩ := caseI_ok (V := V) (g := g) (x := x) (b := b) (z := z) (A := A) hM hO hD hmo hod cdT_nz (s := (sCo T a fun c => .inr (s_box (cY c) (cN c)) : Nat ⊕ Int32)) (Q := fun f => p_X8_boxHeight V g f m a) (fun f1 h1 => ⟨A, by rw [show p_X8_boxHeight V g f1 m a = p_X8_boxHeight V g (mH V m b z A f1) m a from congrArg (fun q => p_X8_boxHeight V g q m a) h1]; exact Q_boxHeight hb R hv a, SC.rf b A⟩)
  refine ⟨f1, ?_, q2⟩
  rw [← q1, ← hL]
  unfold p_case_32 caseI
  simp only [h1, ob_s]

theorem case_33 {n x0 : Nat} {x5 a w : Int32} (B : Bs V x m b o d z A T hs pc pn f) (h1 : h_li (gA g) x0 0 (x5 + (1 : Int32)) = some a) (h2 : h_li (gA g) x0 0 (x5 + (2 : Int32)) = some w) : ∃ f1, p_case_33 V g f n x0 x m o d x5 = some f1 ∧ Rd V x m b o d z A f f1 := by
  obtain ⟨hM, hb, R, hv, X, C, hO, hD, hxm, hmo, hod⟩ := B
  have hL : p_L_foldObstacle V g f x a w o = Lres cdA (sCo T a fun c => sIn (-50) 50 w (.inr (s_why c w)) : Nat ⊕ Int32) f o := by
    unfold p_L_foldObstacle Lres
    rw [P_foldObstacle X C hv a w]
    unfold sCo sIn
    try dsimp only
    by_cases c0 : inC (tN T) a = true
    · rw [if_pos c0]
      by_cases c1 : s_in (-50) (50) w = true
      · rw [if_pos c1]
        try rfl
      · rw [if_neg c1]
        try rfl
    · rw [if_neg c0]
      try rfl
  obtain ⟨f1, q1, q2⟩ := caseI_ok (V := V) (g := g) (x := x) (b := b) (z := z) (A := A) hM hO hD hmo hod cdA_nz (s := (sCo T a fun c => sIn (-50) 50 w (.inr (s_why c w)) : Nat ⊕ Int32)) (Q := fun f => p_X8_foldObstacle V g f m a w) (fun f1 h1 => by
    obtain ⟨A1, e1, s1⟩ := Q_foldObstacle (V := V) (g := g) (m := m) (z := z) (f0 := f1) hb R hv a w
    exact ⟨A1, by rw [show p_X8_foldObstacle V g f1 m a w = p_X8_foldObstacle V g (mH V m b z A f1) m a w from congrArg (fun q => p_X8_foldObstacle V g q m a w) h1]; exact e1, s1⟩)
  refine ⟨f1, ?_, q2⟩
  rw [← q1, ← hL]
  unfold p_case_33 caseI
  simp only [h1, h2, ob_s]

theorem case_35 {n x0 : Nat} {x5 a u : Int32} (B : Bs V x m b o d z A T hs pc pn f) (h1 : h_li (gA g) x0 0 (x5 + (1 : Int32)) = some a) (h2 : h_li (gA g) x0 0 (x5 + (2 : Int32)) = some u) : ∃ f1, p_case_35 V g f n x0 x m o d x5 = some f1 ∧ Rd V x m b o d z A f f1 := by
  obtain ⟨hM, hb, R, hv, X, C, hO, hD, hxm, hmo, hod⟩ := B
  have hL : p_L_lengthWithoutPoint V g f x a u o = Lres cdT (sCo T a fun c => sPt (cN c) u (.inr (s_but (tK T) c (ix u))) : Nat ⊕ Int32) f o := by
    unfold p_L_lengthWithoutPoint Lres
    rw [P_lengthWithoutPoint X C hv a u]
    unfold sCo sPt
    try dsimp only
    by_cases c0 : inC (tN T) a = true
    · rw [if_pos c0]
      by_cases c1 : inC (cN (tC T (ix a))) u = true
      · rw [if_pos c1]
        try rfl
      · rw [if_neg c1]
        try rfl
    · rw [if_neg c0]
      try rfl
  obtain ⟨f1, q1, q2⟩ := caseI_ok (V := V) (g := g) (x := x) (b := b) (z := z) (A := A) hM hO hD hmo hod cdT_nz (s := (sCo T a fun c => sPt (cN c) u (.inr (s_but (tK T) c (ix u))) : Nat ⊕ Int32)) (Q := fun f => p_X8_lengthWithoutPoint V g f m a u) (fun f1 h1 => by
    obtain ⟨A1, e1, s1⟩ := Q_lengthWithoutPoint (V := V) (g := g) (m := m) (z := z) (f0 := f1) hb R hv a u
    exact ⟨A1, by rw [show p_X8_lengthWithoutPoint V g f1 m a u = p_X8_lengthWithoutPoint V g (mH V m b z A f1) m a u from congrArg (fun q => p_X8_lengthWithoutPoint V g q m a u) h1]; exact e1, s1⟩)
  refine ⟨f1, ?_, q2⟩
  rw [← q1, ← hL]
  unfold p_case_35 caseI
  simp only [h1, h2, ob_s]

theorem case_36 {n x0 : Nat} {x5 a : Int32} (B : Bs V x m b o d z A T hs pc pn f) (h1 : h_li (gA g) x0 0 (x5 + (1 : Int32)) = some a) : ∃ f1, p_case_36 V g f n x0 x m o d x5 = some f1 ∧ Rd V x m b o d z A f f1 := by
  obtain ⟨hM, hb, R, hv, X, C, hO, hD, hxm, hmo, hod⟩ := B
  have hL : p_L_leastImportantPoint V g f x a o = Lres cdT (sCo T a fun c => .inr (s_lip T c) : Nat ⊕ Int32) f o := by
    unfold p_L_leastImportantPoint Lres
    rw [P_leastImportantPoint X C hv a]
    unfold sCo
    try dsimp only
    by_cases c0 : inC (tN T) a = true
    · rw [if_pos c0]
      try rfl
    · rw [if_neg c0]
      try rfl
  obtain ⟨f1, q1, q2⟩ := caseI_ok (V := V) (g := g) (x := x) (b := b) (z := z) (A := A) hM hO hD hmo hod cdT_nz (s := (sCo T a fun c => .inr (s_lip T c) : Nat ⊕ Int32)) (Q := fun f => p_X8_leastImportantPoint V g f m a) (fun f1 h1 => by
    obtain ⟨A1, e1, s1⟩ := Q_leastImportantPoint (V := V) (g := g) (m := m) (z := z) (f0 := f1) hb R hv a
    exact ⟨A1, by rw [show p_X8_leastImportantPoint V g f1 m a = p_X8_leastImportantPoint V g (mH V m b z A f1) m a from congrArg (fun q => p_X8_leastImportantPoint V g q m a) h1]; exact e1, s1⟩)
  refine ⟨f1, ?_, q2⟩
  rw [← q1, ← hL]
  unfold p_case_36 caseI
  simp only [h1, ob_s]

theorem case_37 {n x0 : Nat} {x5 a l : Int32} (B : Bs V x m b o d z A T hs pc pn f) (h1 : h_li (gA g) x0 0 (x5 + (1 : Int32)) = some a) (h2 : h_li (gA g) x0 0 (x5 + (2 : Int32)) = some l) : ∃ f1, p_case_37 V g f n x0 x m o d x5 = some f1 ∧ Rd V x m b o d z A f f1 := by
  obtain ⟨hM, hb, R, hv, X, C, hO, hD, hxm, hmo, hod⟩ := B
  have hL : p_L_lengthInOtherMetric V g f x a l o = Lres cdA (sCo T a fun c => sIn 0 7 l (.inr (s_other T c (ix l))) : Nat ⊕ Int32) f o := by
    unfold p_L_lengthInOtherMetric Lres
    rw [P_lengthInOtherMetric X C hv a l]
    unfold sCo sIn
    try dsimp only
    by_cases c0 : inC (tN T) a = true
    · rw [if_pos c0]
      by_cases c1 : s_in (0) (7) l = true
      · rw [if_pos c1]
        try rfl
      · rw [if_neg c1]
        try rfl
    · rw [if_neg c0]
      try rfl
  obtain ⟨f1, q1, q2⟩ := caseI_ok (V := V) (g := g) (x := x) (b := b) (z := z) (A := A) hM hO hD hmo hod cdA_nz (s := (sCo T a fun c => sIn 0 7 l (.inr (s_other T c (ix l))) : Nat ⊕ Int32)) (Q := fun f => p_X8_lengthInOtherMetric V g f m a l) (fun f1 h1 => ⟨A, by rw [show p_X8_lengthInOtherMetric V g f1 m a l = p_X8_lengthInOtherMetric V g (mH V m b z A f1) m a l from congrArg (fun q => p_X8_lengthInOtherMetric V g q m a l) h1]; exact Q_lengthInOtherMetric hb R hv a l, SC.rf b A⟩)
  refine ⟨f1, ?_, q2⟩
  rw [← q1, ← hL]
  unfold p_case_37 caseI
  simp only [h1, h2, ob_s]

end CB

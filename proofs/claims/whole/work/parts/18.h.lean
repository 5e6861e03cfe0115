def h_f2d (x : UInt32) : Option UInt64 := if FP.f2d x &&& 0x7fffffffffffffff ≤ 0x7ff0000000000000 then some (FP.f2d x) else none
theorem h_f2d_eq {x : UInt32} {v : UInt64} (h : h_f2d x = some v) : v = FP.f2d x ∧ vf_n64 (FP.f2d x) := by
  unfold h_f2d at h
  split at h
  · rename_i hc
    cases h
    exact ⟨rfl, hc⟩
  · cases h
def p_L_loadMap (V : Nat → Nat) (g f : GH) (a0 : Nat) (a1 : Int32) (a2 : Nat) : Option (Int32 × GH) := match p_X7_loadMap V g f a0 a1 with
  | none => none
  | some (.inl z) => if z.1 = 1 then some ((1 : Int32), z.2) else none
  | some (.inr v) => (h_sl v.2 a2 2 (0 : Int32) (v.1).toInt64).bind fun f1 => some ((0 : Int32), f1)
def p_L_isIsland (V : Nat → Nat) (g f : GH) (a0 : Nat) (a1 : Int32) (a2 : Nat) : Option (Int32 × GH) := match p_X7_isIsland V g f a0 a1 with
  | none => none
  | some (.inl z) => if z = 0 then some ((1 : Int32), f) else none
  | some (.inr v) => if v = (0 : Int32) then (h_sl f a2 2 (0 : Int32) (0 : Int64)).bind fun f1 => some ((0 : Int32), f1) else (h_sl f a2 2 (0 : Int32) (1 : Int64)).bind fun f1 => some ((0 : Int32), f1)
def p_L_pointCount (V : Nat → Nat) (g f : GH) (a0 : Nat) (a1 : Int32) (a2 : Nat) : Option (Int32 × GH) := match p_X7_pointCount V g f a0 a1 with
  | none => none
  | some (.inl z) => if z = 0 then some ((1 : Int32), f) else none
  | some (.inr v) => (h_sl f a2 2 (0 : Int32) (v).toInt64).bind fun f1 => some ((0 : Int32), f1)
def p_L_pointX (V : Nat → Nat) (g f : GH) (a0 : Nat) (a1 : Int32) (a2 : Int32) (a3 : Nat) : Option (Int32 × GH) := match p_X7_pointX V g f a0 a1 a2 with
  | none => none
  | some (.inl z) => if z = 0 then some ((1 : Int32), f) else none
  | some (.inr v) => (h_sl f a3 2 (0 : Int32) (v).toInt64).bind fun f1 => some ((0 : Int32), f1)
def p_L_pointY (V : Nat → Nat) (g f : GH) (a0 : Nat) (a1 : Int32) (a2 : Int32) (a3 : Nat) : Option (Int32 × GH) := match p_X7_pointY V g f a0 a1 a2 with
  | none => none
  | some (.inl z) => if z = 0 then some ((1 : Int32), f) else none
  | some (.inr v) => (h_sl f a3 2 (0 : Int32) (v).toInt64).bind fun f1 => some ((0 : Int32), f1)
def p_L_pointDistance (V : Nat → Nat) (g f : GH) (a0 : Nat) (a1 : Int32) (a2 : Int32) (a3 : Int32) (a4 : Nat) : Option (Int32 × GH) := match p_X7_pointDistance V g f a0 a1 a2 a3 with
  | none => none
  | some (.inl z) => if z = 0 then some ((1 : Int32), f) else none
  | some (.inr v) => (h_sl f a4 2 (0 : Int32) (v).toInt64).bind fun f1 => some ((0 : Int32), f1)
def p_L_nearestPoint (V : Nat → Nat) (g f : GH) (a0 : Nat) (a1 : Int32) (a2 : Int32) (a3 : Int32) (a4 : Nat) : Option (Int32 × GH) := match p_X7_nearestPoint V g f a0 a1 a2 a3 with
  | none => none
  | some (.inl z) => if z = 0 then some ((1 : Int32), f) else if z = 1 then some ((2 : Int32), f) else none
  | some (.inr v) => (h_sl f a4 2 (0 : Int32) (v).toInt64).bind fun f1 => some ((0 : Int32), f1)
def p_L_lengthAt (V : Nat → Nat) (g f : GH) (a0 : Nat) (a1 : Int32) (a2 : Int32) (a3 : Nat) : Option (Int32 × GH) := match p_X7_lengthAt V g f a0 a1 a2 with
  | none => none
  | some (.inl z) => if z = 0 then some ((1 : Int32), f) else if z = 1 then some ((2 : Int32), f) else none
  | some (.inr v) => (h_sl f a3 2 (0 : Int32) (v).toInt64).bind fun f1 => some ((0 : Int32), f1)
def p_L_stickCount (V : Nat → Nat) (g f : GH) (a0 : Nat) (a1 : Int32) (a2 : Int32) (a3 : Nat) : Option (Int32 × GH) := match p_X7_stickCount V g f a0 a1 a2 with
  | none => none
  | some (.inl z) => if z = 0 then some ((1 : Int32), f) else if z = 1 then some ((2 : Int32), f) else none
  | some (.inr v) => (h_sl f a3 2 (0 : Int32) (v).toInt64).bind fun f1 => some ((0 : Int32), f1)
def p_L_stickStart (V : Nat → Nat) (g f : GH) (a0 : Nat) (a1 : Int32) (a2 : Int32) (a3 : Int32) (a4 : Nat) : Option (Int32 × GH) := match p_X7_stickStart V g f a0 a1 a2 a3 with
  | none => none
  | some (.inl z) => if z = 0 then some ((1 : Int32), f) else if z = 1 then some ((2 : Int32), f) else none
  | some (.inr v) => (h_sl f a4 2 (0 : Int32) (v).toInt64).bind fun f1 => some ((0 : Int32), f1)
def p_L_stickLength (V : Nat → Nat) (g f : GH) (a0 : Nat) (a1 : Int32) (a2 : Int32) (a3 : Int32) (a4 : Nat) : Option (Int32 × GH) := match p_X7_stickLength V g f a0 a1 a2 a3 with
  | none => none
  | some (.inl z) => if z = 0 then some ((1 : Int32), f) else if z = 1 then some ((2 : Int32), f) else none
  | some (.inr v) => (h_sl f a4 2 (0 : Int32) (v).toInt64).bind fun f1 => some ((0 : Int32), f1)
def p_L_longestStick (V : Nat → Nat) (g f : GH) (a0 : Nat) (a1 : Int32) (a2 : Int32) (a3 : Nat) : Option (Int32 × GH) := match p_X7_longestStick V g f a0 a1 a2 with
  | none => none
  | some (.inl z) => if z = 0 then some ((1 : Int32), f) else if z = 1 then some ((2 : Int32), f) else none
  | some (.inr v) => (h_sl f a3 2 (0 : Int32) (v).toInt64).bind fun f1 => some ((0 : Int32), f1)
def p_L_lengthGain (V : Nat → Nat) (g f : GH) (a0 : Nat) (a1 : Int32) (a2 : Int32) (a3 : Nat) : Option (Int32 × GH) := match p_X7_lengthGain V g f a0 a1 a2 with
  | none => none
  | some (.inl z) => if z = 0 then some ((1 : Int32), f) else if z = 1 then some ((2 : Int32), f) else none
  | some (.inr v) => (h_sl f a3 2 (0 : Int32) (v).toInt64).bind fun f1 => some ((0 : Int32), f1)
def p_L_levelOfGreatestGain (V : Nat → Nat) (g f : GH) (a0 : Nat) (a1 : Int32) (a2 : Nat) : Option (Int32 × GH) := match p_X7_levelOfGreatestGain V g f a0 a1 with
  | none => none
  | some (.inl z) => if z = 0 then some ((1 : Int32), f) else none
  | some (.inr v) => (h_sl f a2 2 (0 : Int32) (v).toInt64).bind fun f1 => some ((0 : Int32), f1)
def p_L_coarsestLevelFor (V : Nat → Nat) (g f : GH) (a0 : Nat) (a1 : Int32) (a2 : Int32) (a3 : Nat) : Option (Int32 × GH) := match p_X7_coarsestLevelFor V g f a0 a1 a2 with
  | none => none
  | some (.inl z) => if z = 0 then some ((1 : Int32), f) else if z = 1 then some ((2 : Int32), f) else none
  | some (.inr v) => (h_sl f a3 2 (0 : Int32) (v).toInt64).bind fun f1 => some ((0 : Int32), f1)
def p_L_coarsestExactLevel (V : Nat → Nat) (g f : GH) (a0 : Nat) (a1 : Int32) (a2 : Nat) : Option (Int32 × GH) := match p_X7_coarsestExactLevel V g f a0 a1 with
  | none => none
  | some (.inl z) => if z = 0 then some ((1 : Int32), f) else none
  | some (.inr v) => (h_sl f a2 2 (0 : Int32) (v).toInt64).bind fun f1 => some ((0 : Int32), f1)
def p_L_totalLength (V : Nat → Nat) (g f : GH) (a0 : Nat) (a1 : Int32) (a2 : Nat) : Option (Int32 × GH) := match p_X7_totalLength V g f a0 a1 with
  | none => none
  | some (.inl z) => if z = 1 then some ((1 : Int32), f) else none
  | some (.inr v) => (h_sl f a2 2 (0 : Int32) (v).toInt64).bind fun f1 => some ((0 : Int32), f1)
def p_L_longestCoast (V : Nat → Nat) (g f : GH) (a0 : Nat) (a1 : Int32) (a2 : Nat) : Option (Int32 × GH) := match p_X7_longestCoast V g f a0 a1 with
  | none => none
  | some (.inl z) => if z = 1 then some ((1 : Int32), f) else none
  | some (.inr v) => (h_sl f a2 2 (0 : Int32) (v).toInt64).bind fun f1 => some ((0 : Int32), f1)
def p_L_refinementRatio (V : Nat → Nat) (g f : GH) (a0 : Nat) (a1 : Int32) (a2 : Int32) (a3 : Nat) : Option (Int32 × GH) := match p_X7_refinementRatio V g f a0 a1 a2 with
  | none => none
  | some (.inl z) => if z = 0 then some ((1 : Int32), f) else if z = 1 then some ((2 : Int32), f) else none
  | some (.inr v) => (h_sd f a3 3 (0 : Int32) v).bind fun f1 => some ((0 : Int32), f1)
def p_L_meanStickLength (V : Nat → Nat) (g f : GH) (a0 : Nat) (a1 : Int32) (a2 : Int32) (a3 : Nat) : Option (Int32 × GH) := match p_X7_meanStickLength V g f a0 a1 a2 with
  | none => none
  | some (.inl z) => if z = 0 then some ((1 : Int32), f) else if z = 1 then some ((2 : Int32), f) else none
  | some (.inr v) => (h_f2d v).bind fun w => (h_sd f a3 3 (0 : Int32) w).bind fun f1 => some ((0 : Int32), f1)
def p_L_doubledArea (V : Nat → Nat) (g f : GH) (a0 : Nat) (a1 : Int32) (a2 : Nat) : Option (Int32 × GH) := match p_X7_doubledArea V g f a0 a1 with
  | none => none
  | some (.inl z) => if z = 0 then some ((1 : Int32), f) else if z = 2 then some ((2 : Int32), f) else none
  | some (.inr v) => (h_sl f a2 2 (0 : Int32) (v).toInt64).bind fun f1 => some ((0 : Int32), f1)
def p_L_isCounterclockwise (V : Nat → Nat) (g f : GH) (a0 : Nat) (a1 : Int32) (a2 : Nat) : Option (Int32 × GH) := match p_X7_isCounterclockwise V g f a0 a1 with
  | none => none
  | some (.inl z) => if z = 0 then some ((1 : Int32), f) else if z = 2 then some ((2 : Int32), f) else none
  | some (.inr v) => if v = (0 : Int32) then (h_sl f a2 2 (0 : Int32) (0 : Int64)).bind fun f1 => some ((0 : Int32), f1) else (h_sl f a2 2 (0 : Int32) (1 : Int64)).bind fun f1 => some ((0 : Int32), f1)
def p_L_contains (V : Nat → Nat) (g f : GH) (a0 : Nat) (a1 : Int32) (a2 : Int32) (a3 : Int32) (a4 : Nat) : Option (Int32 × GH) := match p_X7_contains V g f a0 a1 a2 a3 with
  | none => none
  | some (.inl z) => if z = 0 then some ((1 : Int32), f) else if z = 2 then some ((2 : Int32), f) else if z = 1 then some ((3 : Int32), f) else none
  | some (.inr v) => if v = (0 : Int32) then (h_sl f a4 2 (0 : Int32) (0 : Int64)).bind fun f1 => some ((0 : Int32), f1) else (h_sl f a4 2 (0 : Int32) (1 : Int64)).bind fun f1 => some ((0 : Int32), f1)
def p_L_encloses (V : Nat → Nat) (g f : GH) (a0 : Nat) (a1 : Int32) (a2 : Int32) (a3 : Nat) : Option (Int32 × GH) := match p_X7_encloses V g f a0 a1 a2 with
  | none => none
  | some (.inl z) => if z = 0 then some ((1 : Int32), f) else if z = 2 then some ((2 : Int32), f) else none
  | some (.inr v) => if v = (0 : Int32) then (h_sl f a3 2 (0 : Int32) (0 : Int64)).bind fun f1 => some ((0 : Int32), f1) else (h_sl f a3 2 (0 : Int32) (1 : Int64)).bind fun f1 => some ((0 : Int32), f1)
def p_L_innermostIslandAround (V : Nat → Nat) (g f : GH) (a0 : Nat) (a1 : Int32) (a2 : Nat) : Option (Int32 × GH) := match p_X7_innermostIslandAround V g f a0 a1 with
  | none => none
  | some (.inl z) => if z = 0 then some ((1 : Int32), f) else none
  | some (.inr v) => (h_sl f a2 2 (0 : Int32) (v).toInt64).bind fun f1 => some ((0 : Int32), f1)
def p_L_ringDepth (V : Nat → Nat) (g f : GH) (a0 : Nat) (a1 : Int32) (a2 : Nat) : Option (Int32 × GH) := match p_X7_ringDepth V g f a0 a1 with
  | none => none
  | some (.inl z) => if z = 0 then some ((1 : Int32), f) else none
  | some (.inr v) => (h_sl f a2 2 (0 : Int32) (v).toInt64).bind fun f1 => some ((0 : Int32), f1)
def p_L_boxWidth (V : Nat → Nat) (g f : GH) (a0 : Nat) (a1 : Int32) (a2 : Nat) : Option (Int32 × GH) := match p_X7_boxWidth V g f a0 a1 with
  | none => none
  | some (.inl z) => if z = 0 then some ((1 : Int32), f) else none
  | some (.inr v) => (h_sl f a2 2 (0 : Int32) (v).toInt64).bind fun f1 => some ((0 : Int32), f1)
def p_L_boxHeight (V : Nat → Nat) (g f : GH) (a0 : Nat) (a1 : Int32) (a2 : Nat) : Option (Int32 × GH) := match p_X7_boxHeight V g f a0 a1 with
  | none => none
  | some (.inl z) => if z = 0 then some ((1 : Int32), f) else none
  | some (.inr v) => (h_sl f a2 2 (0 : Int32) (v).toInt64).bind fun f1 => some ((0 : Int32), f1)
def p_L_foldObstacle (V : Nat → Nat) (g f : GH) (a0 : Nat) (a1 : Int32) (a2 : Int32) (a3 : Nat) : Option (Int32 × GH) := match p_X7_foldObstacle V g f a0 a1 a2 with
  | none => none
  | some (.inl z) => if z = 0 then some ((1 : Int32), f) else if z = 1 then some ((2 : Int32), f) else none
  | some (.inr v) => (h_sl f a3 2 (0 : Int32) (v).toInt64).bind fun f1 => some ((0 : Int32), f1)
def p_L_lengthAfterFold (V : Nat → Nat) (g f : GH) (a0 : Nat) (a1 : Int32) (a2 : Int32) (a3 : Int32) (a4 : Nat) : Option (Int32 × GH) := match p_X7_lengthAfterFold V g f a0 a1 a2 a3 with
  | none => none
  | some (.inl z) => if z.1 = 0 then some ((1 : Int32), z.2) else if z.1 = 1 then some ((2 : Int32), z.2) else none
  | some (.inr v) => (h_sl v.2 a4 2 (0 : Int32) (v.1).toInt64).bind fun f1 => some ((0 : Int32), f1)
def p_L_lengthWithoutPoint (V : Nat → Nat) (g f : GH) (a0 : Nat) (a1 : Int32) (a2 : Int32) (a3 : Nat) : Option (Int32 × GH) := match p_X7_lengthWithoutPoint V g f a0 a1 a2 with
  | none => none
  | some (.inl z) => if z = 0 then some ((1 : Int32), f) else none
  | some (.inr v) => (h_sl f a3 2 (0 : Int32) (v).toInt64).bind fun f1 => some ((0 : Int32), f1)
def p_L_leastImportantPoint (V : Nat → Nat) (g f : GH) (a0 : Nat) (a1 : Int32) (a2 : Nat) : Option (Int32 × GH) := match p_X7_leastImportantPoint V g f a0 a1 with
  | none => none
  | some (.inl z) => if z = 0 then some ((1 : Int32), f) else none
  | some (.inr v) => (h_sl f a2 2 (0 : Int32) (v).toInt64).bind fun f1 => some ((0 : Int32), f1)
def p_L_lengthInOtherMetric (V : Nat → Nat) (g f : GH) (a0 : Nat) (a1 : Int32) (a2 : Int32) (a3 : Nat) : Option (Int32 × GH) := match p_X7_lengthInOtherMetric V g f a0 a1 a2 with
  | none => none
  | some (.inl z) => if z = 0 then some ((1 : Int32), f) else if z = 1 then some ((2 : Int32), f) else none
  | some (.inr v) => (h_sl f a3 2 (0 : Int32) (v).toInt64).bind fun f1 => some ((0 : Int32), f1)
def p_L_addCoast (V : Nat → Nat) (g f : GH) (a0 : Nat) (a1 : Int32) (a2 : Nat) : Option (Int32 × GH) := match p_X7_addCoast V g f a0 a1 with
  | none => none
  | some (.inl z) => if z.1 = 1 then some ((1 : Int32), z.2) else if z.1 = 2 then some ((2 : Int32), z.2) else none
  | some (.inr v) => (h_sl v.2 a2 2 (0 : Int32) (v.1).toInt64).bind fun f1 => some ((0 : Int32), f1)
def p_L_removeCoast (V : Nat → Nat) (g f : GH) (a0 : Nat) (a1 : Int32) (a2 : Nat) : Option (Int32 × GH) := match p_X7_removeCoast V g f a0 a1 with
  | none => none
  | some (.inl z) => if z.1 = 0 then some ((1 : Int32), z.2) else none
  | some (.inr v) => (h_sl v.2 a2 2 (0 : Int32) (v.1).toInt64).bind fun f1 => some ((0 : Int32), f1)
def p_L_fold (V : Nat → Nat) (g f : GH) (a0 : Nat) (a1 : Int32) (a2 : Int32) (a3 : Nat) : Option (Int32 × GH) := match p_X7_fold V g f a0 a1 a2 with
  | none => none
  | some (.inl z) => if z.1 = 0 then some ((1 : Int32), z.2) else if z.1 = 1 then some ((2 : Int32), z.2) else if z.1 = 2 then some ((3 : Int32), z.2) else none
  | some (.inr v) => (h_sl v.2 a3 2 (0 : Int32) (v.1).toInt64).bind fun f1 => some ((0 : Int32), f1)
def p_L_unfold (V : Nat → Nat) (g f : GH) (a0 : Nat) (a1 : Int32) (a2 : Nat) : Option (Int32 × GH) := match p_X7_unfold V g f a0 a1 with
  | none => none
  | some (.inl z) => if z.1 = 0 then some ((1 : Int32), z.2) else if z.1 = 2 then some ((2 : Int32), z.2) else none
  | some (.inr v) => (h_sl v.2 a2 2 (0 : Int32) (v.1).toInt64).bind fun f1 => some ((0 : Int32), f1)
def p_L_movePoint (V : Nat → Nat) (g f : GH) (a0 : Nat) (a1 : Int32) (a2 : Int32) (a3 : Int32) (a4 : Int32) (a5 : Nat) : Option (Int32 × GH) := match p_X7_movePoint V g f a0 a1 a2 a3 a4 with
  | none => none
  | some (.inl z) => if z.1 = 0 then some ((1 : Int32), z.2) else if z.1 = 1 then some ((2 : Int32), z.2) else none
  | some (.inr v) => (h_sl v.2 a5 2 (0 : Int32) (v.1).toInt64).bind fun f1 => some ((0 : Int32), f1)
def p_L_insertPoint (V : Nat → Nat) (g f : GH) (a0 : Nat) (a1 : Int32) (a2 : Int32) (a3 : Int32) (a4 : Int32) (a5 : Nat) : Option (Int32 × GH) := match p_X7_insertPoint V g f a0 a1 a2 a3 a4 with
  | none => none
  | some (.inl z) => if z.1 = 0 then some ((1 : Int32), z.2) else if z.1 = 1 then some ((2 : Int32), z.2) else if z.1 = 2 then some ((3 : Int32), z.2) else none
  | some (.inr v) => (h_sl v.2 a5 2 (0 : Int32) (v.1).toInt64).bind fun f1 => some ((0 : Int32), f1)
def p_L_removePoint (V : Nat → Nat) (g f : GH) (a0 : Nat) (a1 : Int32) (a2 : Int32) (a3 : Nat) : Option (Int32 × GH) := match p_X7_removePoint V g f a0 a1 a2 with
  | none => none
  | some (.inl z) => if z.1 = 0 then some ((1 : Int32), z.2) else if z.1 = 2 then some ((2 : Int32), z.2) else none
  | some (.inr v) => (h_sl v.2 a3 2 (0 : Int32) (v.1).toInt64).bind fun f1 => some ((0 : Int32), f1)
def p_L_shift (V : Nat → Nat) (g f : GH) (a0 : Nat) (a1 : Int32) (a2 : Int32) (a3 : Int32) (a4 : Nat) : Option (Int32 × GH) := match p_X7_shift V g f a0 a1 a2 a3 with
  | none => none
  | some (.inl z) => if z.1 = 0 then some ((1 : Int32), z.2) else if z.1 = 1 then some ((2 : Int32), z.2) else if z.1 = 2 then some ((3 : Int32), z.2) else none
  | some (.inr v) => (h_sl v.2 a4 2 (0 : Int32) (v.1).toInt64).bind fun f1 => some ((0 : Int32), f1)
def p_L_reverse (V : Nat → Nat) (g f : GH) (a0 : Nat) (a1 : Int32) (a2 : Nat) : Option (Int32 × GH) := match p_X7_reverse V g f a0 a1 with
  | none => none
  | some (.inl z) => if z.1 = 0 then some ((1 : Int32), z.2) else none
  | some (.inr v) => (h_sl v.2 a2 2 (0 : Int32) (v.1).toInt64).bind fun f1 => some ((0 : Int32), f1)
def p_L_runScript (V : Nat → Nat) (g f : GH) (a0 : Nat) (a1 : Int32) (a2 : Nat) : Option (Int32 × GH) := match p_X7_runScript V g f a0 a1 with
  | none => none
  | some (.inl z) => if z.1 = 1 then some ((1 : Int32), z.2) else none
  | some (.inr v) => (h_sl v.2 a2 2 (0 : Int32) (v.1).toInt64).bind fun f1 => some ((0 : Int32), f1)
def p_L_writeLengths (V : Nat → Nat) (g f : GH) (n : Nat) (a0 : Nat) (a1 : Int32) (a2 : Nat) : Option (Int32 × GH) := match p_X7_writeLengths V g f n a0 a1 with
  | none => none
  | some (.inl z) => if z.1 = 0 then some ((1 : Int32), z.2) else none
  | some (.inr v) => (h_sl v.2.1 a2 2 (0 : Int32) (v.1).toInt64).bind fun f1 => some ((0 : Int32), f1)
def p_L_outputByte (V : Nat → Nat) (g f : GH) (a0 : Nat) (a1 : Int32) (a2 : Nat) : Option (Int32 × GH) := match p_X7_outputByte V g f a0 a1 with
  | none => none
  | some (.inl z) => if z = 0 then some ((1 : Int32), f) else none
  | some (.inr v) => (h_sl f a2 2 (0 : Int32) (v).toInt64).bind fun f1 => some ((0 : Int32), f1)
def p_L_undo (V : Nat → Nat) (g f : GH) (a0 : Nat) (a1 : Nat) : Option (Int32 × GH) := match p_X7_undo V g f a0  with
  | none => none
  | some (.inl z) => if z.1 = 2 then some ((1 : Int32), z.2) else none
  | some (.inr v) => (h_sl v.2 a1 2 (0 : Int32) (v.1).toInt64).bind fun f1 => some ((0 : Int32), f1)
def p_L_restoreSnapshot (V : Nat → Nat) (g f : GH) (a0 : Nat) (a1 : Nat) : Option (Int32 × GH) := match p_X7_restoreSnapshot V g f a0  with
  | none => none
  | some (.inl z) => if z.1 = 2 then some ((1 : Int32), z.2) else none
  | some (.inr v) => (h_sl v.2 a1 2 (0 : Int32) (v.1).toInt64).bind fun f1 => some ((0 : Int32), f1)

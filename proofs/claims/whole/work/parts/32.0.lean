/-! ===== the law's body: its calls and comparisons ===== -/
def h_lc (x y : Int64) : Int32 := if x > y then 1 else if x == y then 0 else -1
theorem h_lc0 {x y : Int64} (h : h_lc x y = 0) : x = y := by
  unfold h_lc at h
  split at h
  · cases h
  · split at h
    · rename_i h1; exact eq_of_beq h1
    · cases h
theorem h_lc_refl (x : Int64) : h_lc x x = 0 := by
  unfold h_lc
  rw [if_neg (fun h => Int64.lt_irrefl h)]
  simp
def x_r {α β : Type} (o : Option ((Nat × GH) ⊕ α)) (k : α → Option β) : Option β := match o with
  | some (.inr v) => k v
  | _ => none
theorem x_r_eq {α β : Type} {o : Option ((Nat × GH) ⊕ α)} {k : α → Option β} {z : β} (h : x_r o k = some z) : ∃ v, o = some (.inr v) ∧ k v = some z := by
  unfold x_r at h
  split at h
  · exact ⟨_, rfl, h⟩
  · cases h
def p_case_0 (V : Nat → Nat) (g f : GH) (n x0 x1 x2 x3 x4 : Nat) (x5 : Int32) : Option GH :=
  (h_li (gA g) x0 0 (x5 + (1 : Int32))).bind fun v1 =>
  (h_li (gA g) x0 0 (x5 + (2 : Int32))).bind fun v2 =>
  (h_li (gA g) x0 0 (x5 + (3 : Int32))).bind fun v3 =>
  (h_li (gA g) x0 0 (x5 + (4 : Int32))).bind fun v4 =>
  (h_li (gA g) x0 0 (x5 + (5 : Int32))).bind fun v5 =>
  (p_X7_appendText V g f x1 v1 v2 v3 v4 v5).bind fun v6 =>
  (h_li (gA g) x0 0 (x5 + (1 : Int32))).bind fun v7 =>
  (h_li (gA g) x0 0 (x5 + (2 : Int32))).bind fun v8 =>
  (h_li (gA g) x0 0 (x5 + (3 : Int32))).bind fun v9 =>
  (h_li (gA g) x0 0 (x5 + (4 : Int32))).bind fun v10 =>
  (h_li (gA g) x0 0 (x5 + (5 : Int32))).bind fun v11 =>
  (p_X8_appendText V g v6.2 x2 v7 v8 v9 v10 v11).bind fun v12 =>
  (if v6.1 = v12.1 then
    some v12.2
  else
    none)
def p_case_1 (V : Nat → Nat) (g f : GH) (n x0 x1 x2 x3 x4 : Nat) (x5 : Int32) : Option GH :=
  (h_li (gA g) x0 0 (x5 + (1 : Int32))).bind fun v1 =>
  (p_L_loadMap V g f x1 v1 x3).bind fun v2 =>
  (h_li (gA g) x0 0 (x5 + (1 : Int32))).bind fun v4 =>
  (p_X8_loadMap V g v2.2 x2 v4).bind fun v5 =>
  (p_X8_thrown V g v5.2 x2).bind fun v6 =>
  (if v6 = v2.1 then
    (if v2.1 = (0 : Int32) then
      (h_ll v5.2 x3 2 (0 : Int32)).bind fun v9 =>
      (if (h_lc v9 v5.1.toInt64) = (0 : Int32) then
        some v5.2
      else
        none)
    else
      some v5.2)
  else
    none)
def p_case_2 (V : Nat → Nat) (g f : GH) (n x0 x1 x2 x3 x4 : Nat) (x5 : Int32) : Option GH :=
  (p_X7_errorCode V g f x1).bind fun v1 =>
  (p_X8_errorCode V g f x2).bind fun v2 =>
  (if v1 = v2.1 then
    some v2.2
  else
    none)
def p_case_3 (V : Nat → Nat) (g f : GH) (n x0 x1 x2 x3 x4 : Nat) (x5 : Int32) : Option GH :=
  (p_X7_errorOffset V g f x1).bind fun v1 =>
  (p_X8_errorOffset V g f x2).bind fun v2 =>
  (if v1 = v2.1 then
    some v2.2
  else
    none)
def p_case_4 (V : Nat → Nat) (g f : GH) (n x0 x1 x2 x3 x4 : Nat) (x5 : Int32) : Option GH :=
  (p_X7_coastCount V g f x1).bind fun v1 =>
  (p_X8_coastCount V g f x2).bind fun v2 =>
  (if v1 = v2.1 then
    some v2.2
  else
    none)
def p_case_5 (V : Nat → Nat) (g f : GH) (n x0 x1 x2 x3 x4 : Nat) (x5 : Int32) : Option GH :=
  (p_X7_usesKingMetric V g f x1).bind fun v1 =>
  (p_X8_usesKingMetric V g f x2).bind fun v2 =>
  (if v1 = v2.1 then
    some v2.2
  else
    none)
def p_case_6 (V : Nat → Nat) (g f : GH) (n x0 x1 x2 x3 x4 : Nat) (x5 : Int32) : Option GH :=
  (h_li (gA g) x0 0 (x5 + (1 : Int32))).bind fun v1 =>
  (p_L_isIsland V g f x1 v1 x3).bind fun v2 =>
  (h_li (gA g) x0 0 (x5 + (1 : Int32))).bind fun v4 =>
  (p_X8_isIsland V g v2.2 x2 v4).bind fun v5 =>
  (p_X8_thrown V g v5.2 x2).bind fun v6 =>
  (if v6 = v2.1 then
    (if v2.1 = (0 : Int32) then
      (h_ll v5.2 x3 2 (0 : Int32)).bind fun v9 =>
      (if v5.1 = (0 : Int32) then
        (if (h_lc v9 (0 : Int64)) = (0 : Int32) then
          some v5.2
        else
          none)
      else
        (if (h_lc v9 (1 : Int64)) = (0 : Int32) then
          some v5.2
        else
          none))
    else
      some v5.2)
  else
    none)
def p_case_7 (V : Nat → Nat) (g f : GH) (n x0 x1 x2 x3 x4 : Nat) (x5 : Int32) : Option GH :=
  (h_li (gA g) x0 0 (x5 + (1 : Int32))).bind fun v1 =>
  (p_L_pointCount V g f x1 v1 x3).bind fun v2 =>
  (h_li (gA g) x0 0 (x5 + (1 : Int32))).bind fun v4 =>
  (p_X8_pointCount V g v2.2 x2 v4).bind fun v5 =>
  (p_X8_thrown V g v5.2 x2).bind fun v6 =>
  (if v6 = v2.1 then
    (if v2.1 = (0 : Int32) then
      (h_ll v5.2 x3 2 (0 : Int32)).bind fun v9 =>
      (if (h_lc v9 v5.1.toInt64) = (0 : Int32) then
        some v5.2
      else
        none)
    else
      some v5.2)
  else
    none)
def p_case_8 (V : Nat → Nat) (g f : GH) (n x0 x1 x2 x3 x4 : Nat) (x5 : Int32) : Option GH :=
  (h_li (gA g) x0 0 (x5 + (1 : Int32))).bind fun v1 =>
  (h_li (gA g) x0 0 (x5 + (2 : Int32))).bind fun v2 =>
  (p_L_pointX V g f x1 v1 v2 x3).bind fun v3 =>
  (h_li (gA g) x0 0 (x5 + (1 : Int32))).bind fun v5 =>
  (h_li (gA g) x0 0 (x5 + (2 : Int32))).bind fun v6 =>
  (p_X8_pointX V g v3.2 x2 v5 v6).bind fun v7 =>
  (p_X8_thrown V g v7.2 x2).bind fun v8 =>
  (if v8 = v3.1 then
    (if v3.1 = (0 : Int32) then
      (h_ll v7.2 x3 2 (0 : Int32)).bind fun v11 =>
      (if (h_lc v11 v7.1.toInt64) = (0 : Int32) then
        some v7.2
      else
        none)
    else
      some v7.2)
  else
    none)
def p_case_9 (V : Nat → Nat) (g f : GH) (n x0 x1 x2 x3 x4 : Nat) (x5 : Int32) : Option GH :=
  (h_li (gA g) x0 0 (x5 + (1 : Int32))).bind fun v1 =>
  (h_li (gA g) x0 0 (x5 + (2 : Int32))).bind fun v2 =>
  (p_L_pointY V g f x1 v1 v2 x3).bind fun v3 =>
  (h_li (gA g) x0 0 (x5 + (1 : Int32))).bind fun v5 =>
  (h_li (gA g) x0 0 (x5 + (2 : Int32))).bind fun v6 =>
  (p_X8_pointY V g v3.2 x2 v5 v6).bind fun v7 =>
  (p_X8_thrown V g v7.2 x2).bind fun v8 =>
  (if v8 = v3.1 then
    (if v3.1 = (0 : Int32) then
      (h_ll v7.2 x3 2 (0 : Int32)).bind fun v11 =>
      (if (h_lc v11 v7.1.toInt64) = (0 : Int32) then
        some v7.2
      else
        none)
    else
      some v7.2)
  else
    none)
def p_case_10 (V : Nat → Nat) (g f : GH) (n x0 x1 x2 x3 x4 : Nat) (x5 : Int32) : Option GH :=
  (h_li (gA g) x0 0 (x5 + (1 : Int32))).bind fun v1 =>
  (h_li (gA g) x0 0 (x5 + (2 : Int32))).bind fun v2 =>
  (h_li (gA g) x0 0 (x5 + (3 : Int32))).bind fun v3 =>
  (p_L_pointDistance V g f x1 v1 v2 v3 x3).bind fun v4 =>
  (h_li (gA g) x0 0 (x5 + (1 : Int32))).bind fun v6 =>
  (h_li (gA g) x0 0 (x5 + (2 : Int32))).bind fun v7 =>
  (h_li (gA g) x0 0 (x5 + (3 : Int32))).bind fun v8 =>
  (p_X8_pointDistance V g v4.2 x2 v6 v7 v8).bind fun v9 =>
  (p_X8_thrown V g v9.2 x2).bind fun v10 =>
  (if v10 = v4.1 then
    (if v4.1 = (0 : Int32) then
      (h_ll v9.2 x3 2 (0 : Int32)).bind fun v13 =>
      (if (h_lc v13 v9.1.toInt64) = (0 : Int32) then
        some v9.2
      else
        none)
    else
      some v9.2)
  else
    none)
def p_case_11 (V : Nat → Nat) (g f : GH) (n x0 x1 x2 x3 x4 : Nat) (x5 : Int32) : Option GH :=
  (h_li (gA g) x0 0 (x5 + (1 : Int32))).bind fun v1 =>
  (h_li (gA g) x0 0 (x5 + (2 : Int32))).bind fun v2 =>
  (h_li (gA g) x0 0 (x5 + (3 : Int32))).bind fun v3 =>
  (p_L_nearestPoint V g f x1 v1 v2 v3 x3).bind fun v4 =>
  (h_li (gA g) x0 0 (x5 + (1 : Int32))).bind fun v6 =>
  (h_li (gA g) x0 0 (x5 + (2 : Int32))).bind fun v7 =>
  (h_li (gA g) x0 0 (x5 + (3 : Int32))).bind fun v8 =>
  (p_X8_nearestPoint V g v4.2 x2 v6 v7 v8).bind fun v9 =>
  (p_X8_thrown V g v9.2 x2).bind fun v10 =>
  (if v10 = v4.1 then
    (if v4.1 = (0 : Int32) then
      (h_ll v9.2 x3 2 (0 : Int32)).bind fun v13 =>
      (if (h_lc v13 v9.1.toInt64) = (0 : Int32) then
        some v9.2
      else
        none)
    else
      some v9.2)
  else
    none)
def p_case_12 (V : Nat → Nat) (g f : GH) (n x0 x1 x2 x3 x4 : Nat) (x5 : Int32) : Option GH :=
  (h_li (gA g) x0 0 (x5 + (1 : Int32))).bind fun v1 =>
  (h_li (gA g) x0 0 (x5 + (2 : Int32))).bind fun v2 =>
  (p_L_lengthAt V g f x1 v1 v2 x3).bind fun v3 =>
  (h_li (gA g) x0 0 (x5 + (1 : Int32))).bind fun v5 =>
  (h_li (gA g) x0 0 (x5 + (2 : Int32))).bind fun v6 =>
  (p_X8_lengthAt V g v3.2 x2 v5 v6).bind fun v7 =>
  (p_X8_thrown V g v7.2 x2).bind fun v8 =>
  (if v8 = v3.1 then
    (if v3.1 = (0 : Int32) then
      (h_ll v7.2 x3 2 (0 : Int32)).bind fun v11 =>
      (if (h_lc v11 v7.1.toInt64) = (0 : Int32) then
        some v7.2
      else
        none)
    else
      some v7.2)
  else
    none)
def p_case_13 (V : Nat → Nat) (g f : GH) (n x0 x1 x2 x3 x4 : Nat) (x5 : Int32) : Option GH :=
  (h_li (gA g) x0 0 (x5 + (1 : Int32))).bind fun v1 =>
  (h_li (gA g) x0 0 (x5 + (2 : Int32))).bind fun v2 =>
  (p_L_stickCount V g f x1 v1 v2 x3).bind fun v3 =>
  (h_li (gA g) x0 0 (x5 + (1 : Int32))).bind fun v5 =>
  (h_li (gA g) x0 0 (x5 + (2 : Int32))).bind fun v6 =>
  (p_X8_stickCount V g v3.2 x2 v5 v6).bind fun v7 =>
  (p_X8_thrown V g v7.2 x2).bind fun v8 =>
  (if v8 = v3.1 then
    (if v3.1 = (0 : Int32) then
      (h_ll v7.2 x3 2 (0 : Int32)).bind fun v11 =>
      (if (h_lc v11 v7.1.toInt64) = (0 : Int32) then
        some v7.2
      else
        none)
    else
      some v7.2)
  else
    none)
def p_case_14 (V : Nat → Nat) (g f : GH) (n x0 x1 x2 x3 x4 : Nat) (x5 : Int32) : Option GH :=
  (h_li (gA g) x0 0 (x5 + (1 : Int32))).bind fun v1 =>
  (h_li (gA g) x0 0 (x5 + (2 : Int32))).bind fun v2 =>
  (h_li (gA g) x0 0 (x5 + (3 : Int32))).bind fun v3 =>
  (p_L_stickStart V g f x1 v1 v2 v3 x3).bind fun v4 =>
  (h_li (gA g) x0 0 (x5 + (1 : Int32))).bind fun v6 =>
  (h_li (gA g) x0 0 (x5 + (2 : Int32))).bind fun v7 =>
  (h_li (gA g) x0 0 (x5 + (3 : Int32))).bind fun v8 =>
  (p_X8_stickStart V g v4.2 x2 v6 v7 v8).bind fun v9 =>
  (p_X8_thrown V g v9.2 x2).bind fun v10 =>
  (if v10 = v4.1 then
    (if v4.1 = (0 : Int32) then
      (h_ll v9.2 x3 2 (0 : Int32)).bind fun v13 =>
      (if (h_lc v13 v9.1.toInt64) = (0 : Int32) then
        some v9.2
      else
        none)
    else
      some v9.2)
  else
    none)
def p_case_15 (V : Nat → Nat) (g f : GH) (n x0 x1 x2 x3 x4 : Nat) (x5 : Int32) : Option GH :=
  (h_li (gA g) x0 0 (x5 + (1 : Int32))).bind fun v1 =>
  (h_li (gA g) x0 0 (x5 + (2 : Int32))).bind fun v2 =>
  (h_li (gA g) x0 0 (x5 + (3 : Int32))).bind fun v3 =>
  (p_L_stickLength V g f x1 v1 v2 v3 x3).bind fun v4 =>
  (h_li (gA g) x0 0 (x5 + (1 : Int32))).bind fun v6 =>
  (h_li (gA g) x0 0 (x5 + (2 : Int32))).bind fun v7 =>
  (h_li (gA g) x0 0 (x5 + (3 : Int32))).bind fun v8 =>
  (p_X8_stickLength V g v4.2 x2 v6 v7 v8).bind fun v9 =>
  (p_X8_thrown V g v9.2 x2).bind fun v10 =>
  (if v10 = v4.1 then
    (if v4.1 = (0 : Int32) then
      (h_ll v9.2 x3 2 (0 : Int32)).bind fun v13 =>
      (if (h_lc v13 v9.1.toInt64) = (0 : Int32) then
        some v9.2
      else
        none)
    else
      some v9.2)
  else
    none)
def p_case_16 (V : Nat → Nat) (g f : GH) (n x0 x1 x2 x3 x4 : Nat) (x5 : Int32) : Option GH :=
  (h_li (gA g) x0 0 (x5 + (1 : Int32))).bind fun v1 =>
  (h_li (gA g) x0 0 (x5 + (2 : Int32))).bind fun v2 =>
  (p_L_longestStick V g f x1 v1 v2 x3).bind fun v3 =>
  (h_li (gA g) x0 0 (x5 + (1 : Int32))).bind fun v5 =>
  (h_li (gA g) x0 0 (x5 + (2 : Int32))).bind fun v6 =>
  (p_X8_longestStick V g v3.2 x2 v5 v6).bind fun v7 =>
  (p_X8_thrown V g v7.2 x2).bind fun v8 =>
  (if v8 = v3.1 then
    (if v3.1 = (0 : Int32) then
      (h_ll v7.2 x3 2 (0 : Int32)).bind fun v11 =>
      (if (h_lc v11 v7.1.toInt64) = (0 : Int32) then
        some v7.2
      else
        none)
    else
      some v7.2)
  else
    none)
def p_case_17 (V : Nat → Nat) (g f : GH) (n x0 x1 x2 x3 x4 : Nat) (x5 : Int32) : Option GH :=
  (h_li (gA g) x0 0 (x5 + (1 : Int32))).bind fun v1 =>
  (h_li (gA g) x0 0 (x5 + (2 : Int32))).bind fun v2 =>
  (p_L_lengthGain V g f x1 v1 v2 x3).bind fun v3 =>
  (h_li (gA g) x0 0 (x5 + (1 : Int32))).bind fun v5 =>
  (h_li (gA g) x0 0 (x5 + (2 : Int32))).bind fun v6 =>
  (p_X8_lengthGain V g v3.2 x2 v5 v6).bind fun v7 =>
  (p_X8_thrown V g v7.2 x2).bind fun v8 =>
  (if v8 = v3.1 then
    (if v3.1 = (0 : Int32) then
      (h_ll v7.2 x3 2 (0 : Int32)).bind fun v11 =>
      (if (h_lc v11 v7.1.toInt64) = (0 : Int32) then
        some v7.2
      else
        none)
    else
      some v7.2)
  else
    none)
def p_case_18 (V : Nat → Nat) (g f : GH) (n x0 x1 x2 x3 x4 : Nat) (x5 : Int32) : Option GH :=
  (h_li (gA g) x0 0 (x5 + (1 : Int32))).bind fun v1 =>
  (p_L_levelOfGreatestGain V g f x1 v1 x3).bind fun v2 =>
  (h_li (gA g) x0 0 (x5 + (1 : Int32))).bind fun v4 =>
  (p_X8_levelOfGreatestGain V g v2.2 x2 v4).bind fun v5 =>
  (p_X8_thrown V g v5.2 x2).bind fun v6 =>
  (if v6 = v2.1 then
    (if v2.1 = (0 : Int32) then
      (h_ll v5.2 x3 2 (0 : Int32)).bind fun v9 =>
      (if (h_lc v9 v5.1.toInt64) = (0 : Int32) then
        some v5.2
      else
        none)
    else
      some v5.2)
  else
    none)
def p_case_19 (V : Nat → Nat) (g f : GH) (n x0 x1 x2 x3 x4 : Nat) (x5 : Int32) : Option GH :=
  (h_li (gA g) x0 0 (x5 + (1 : Int32))).bind fun v1 =>
  (h_li (gA g) x0 0 (x5 + (2 : Int32))).bind fun v2 =>
  (p_L_coarsestLevelFor V g f x1 v1 v2 x3).bind fun v3 =>
  (h_li (gA g) x0 0 (x5 + (1 : Int32))).bind fun v5 =>
  (h_li (gA g) x0 0 (x5 + (2 : Int32))).bind fun v6 =>
  (p_X8_coarsestLevelFor V g v3.2 x2 v5 v6).bind fun v7 =>
  (p_X8_thrown V g v7.2 x2).bind fun v8 =>
  (if v8 = v3.1 then
    (if v3.1 = (0 : Int32) then
      (h_ll v7.2 x3 2 (0 : Int32)).bind fun v11 =>
      (if (h_lc v11 v7.1.toInt64) = (0 : Int32) then
        some v7.2
      else
        none)
    else
      some v7.2)
  else
    none)
def p_case_20 (V : Nat → Nat) (g f : GH) (n x0 x1 x2 x3 x4 : Nat) (x5 : Int32) : Option GH :=
  (h_li (gA g) x0 0 (x5 + (1 : Int32))).bind fun v1 =>
  (p_L_coarsestExactLevel V g f x1 v1 x3).bind fun v2 =>
  (h_li (gA g) x0 0 (x5 + (1 : Int32))).bind fun v4 =>
  (p_X8_coarsestExactLevel V g v2.2 x2 v4).bind fun v5 =>
  (p_X8_thrown V g v5.2 x2).bind fun v6 =>
  (if v6 = v2.1 then
    (if v2.1 = (0 : Int32) then
      (h_ll v5.2 x3 2 (0 : Int32)).bind fun v9 =>
      (if (h_lc v9 v5.1.toInt64) = (0 : Int32) then
        some v5.2
      else
        none)
    else
      some v5.2)
  else
    none)
def p_case_21 (V : Nat → Nat) (g f : GH) (n x0 x1 x2 x3 x4 : Nat) (x5 : Int32) : Option GH :=
  (h_li (gA g) x0 0 (x5 + (1 : Int32))).bind fun v1 =>
  (p_L_totalLength V g f x1 v1 x3).bind fun v2 =>
  (h_li (gA g) x0 0 (x5 + (1 : Int32))).bind fun v4 =>
  (p_X8_totalLength V g v2.2 x2 v4).bind fun v5 =>
  (p_X8_thrown V g v5.2 x2).bind fun v6 =>
  (if v6 = v2.1 then
    (if v2.1 = (0 : Int32) then
      (h_ll v5.2 x3 2 (0 : Int32)).bind fun v9 =>
      (if (h_lc v9 v5.1.toInt64) = (0 : Int32) then
        some v5.2
      else
        none)
    else
      some v5.2)
  else
    none)
def p_case_22 (V : Nat → Nat) (g f : GH) (n x0 x1 x2 x3 x4 : Nat) (x5 : Int32) : Option GH :=
  (h_li (gA g) x0 0 (x5 + (1 : Int32))).bind fun v1 =>
  (p_L_longestCoast V g f x1 v1 x3).bind fun v2 =>
  (h_li (gA g) x0 0 (x5 + (1 : Int32))).bind fun v4 =>
  (p_X8_longestCoast V g v2.2 x2 v4).bind fun v5 =>
  (p_X8_thrown V g v5.2 x2).bind fun v6 =>
  (if v6 = v2.1 then
    (if v2.1 = (0 : Int32) then
      (h_ll v5.2 x3 2 (0 : Int32)).bind fun v9 =>
      (if (h_lc v9 v5.1.toInt64) = (0 : Int32) then
        some v5.2
      else
        none)
    else
      some v5.2)
  else
    none)
def p_case_23 (V : Nat → Nat) (g f : GH) (n x0 x1 x2 x3 x4 : Nat) (x5 : Int32) : Option GH :=
  (h_li (gA g) x0 0 (x5 + (1 : Int32))).bind fun v1 =>
  (h_li (gA g) x0 0 (x5 + (2 : Int32))).bind fun v2 =>
  (p_L_refinementRatio V g f x1 v1 v2 x4).bind fun v3 =>
  (h_li (gA g) x0 0 (x5 + (1 : Int32))).bind fun v5 =>
  (h_li (gA g) x0 0 (x5 + (2 : Int32))).bind fun v6 =>
  (p_X8_refinementRatio V g v3.2 x2 v5 v6).bind fun v7 =>
  (p_X8_thrown V g v7.2 x2).bind fun v8 =>
  (if v8 = v3.1 then
    (if v3.1 = (0 : Int32) then
      (h_ld v7.2 x4 3 (0 : Int32)).bind fun v11 =>
      (if (Op.cmpValue (FP.dcmp v11 v7.1) .l) = (0 : Int32) then
        some v7.2
      else
        (h_ld v7.2 x4 3 (0 : Int32)).bind fun v13 =>
        (h_ld v7.2 x4 3 (0 : Int32)).bind fun v14 =>
        (if (Op.cmpValue (FP.dcmp v13 v14) .l) = (0 : Int32) then
          none
        else
          (if (Op.cmpValue (FP.dcmp v7.1 v7.1) .l) = (0 : Int32) then
            none
          else
            some v7.2)))
    else
      some v7.2)
  else
    none)
def p_case_24 (V : Nat → Nat) (g f : GH) (n x0 x1 x2 x3 x4 : Nat) (x5 : Int32) : Option GH :=
  (h_li (gA g) x0 0 (x5 + (1 : Int32))).bind fun v1 =>
  (h_li (gA g) x0 0 (x5 + (2 : Int32))).bind fun v2 =>
  (p_L_meanStickLength V g f x1 v1 v2 x4).bind fun v3 =>
  (h_li (gA g) x0 0 (x5 + (1 : Int32))).bind fun v5 =>
  (h_li (gA g) x0 0 (x5 + (2 : Int32))).bind fun v6 =>
  (p_X8_meanStickLength V g v3.2 x2 v5 v6).bind fun v7 =>
  (p_X8_thrown V g v7.2 x2).bind fun v8 =>
  (if v8 = v3.1 then
    (if v3.1 = (0 : Int32) then
      (h_ld v7.2 x4 3 (0 : Int32)).bind fun v11 =>
      (h_f2d v7.1).bind fun w12 =>
      (if (Op.cmpValue (FP.dcmp v11 (FP.f2d v7.1)) .l) = (0 : Int32) then
        some v7.2
      else
        (h_ld v7.2 x4 3 (0 : Int32)).bind fun v14 =>
        (h_ld v7.2 x4 3 (0 : Int32)).bind fun v15 =>
        (if (Op.cmpValue (FP.dcmp v14 v15) .l) = (0 : Int32) then
          none
        else
          (if (Op.cmpValue (FP.fcmp v7.1 v7.1) .l) = (0 : Int32) then
            none
          else
            some v7.2)))
    else
      some v7.2)
  else
    none)
def p_case_25 (V : Nat → Nat) (g f : GH) (n x0 x1 x2 x3 x4 : Nat) (x5 : Int32) : Option GH :=
  (h_li (gA g) x0 0 (x5 + (1 : Int32))).bind fun v1 =>
  (p_L_doubledArea V g f x1 v1 x3).bind fun v2 =>
  (h_li (gA g) x0 0 (x5 + (1 : Int32))).bind fun v4 =>
  (p_X8_doubledArea V g v2.2 x2 v4).bind fun v5 =>
  (p_X8_thrown V g v5.2 x2).bind fun v6 =>
  (if v6 = v2.1 then
    (if v2.1 = (0 : Int32) then
      (h_ll v5.2 x3 2 (0 : Int32)).bind fun v9 =>
      (if (h_lc v9 v5.1.toInt64) = (0 : Int32) then
        some v5.2
      else
        none)
    else
      some v5.2)
  else
    none)
def p_case_26 (V : Nat → Nat) (g f : GH) (n x0 x1 x2 x3 x4 : Nat) (x5 : Int32) : Option GH :=
  (h_li (gA g) x0 0 (x5 + (1 : Int32))).bind fun v1 =>
  (p_L_isCounterclockwise V g f x1 v1 x3).bind fun v2 =>
  (h_li (gA g) x0 0 (x5 + (1 : Int32))).bind fun v4 =>
  (p_X8_isCounterclockwise V g v2.2 x2 v4).bind fun v5 =>
  (p_X8_thrown V g v5.2 x2).bind fun v6 =>
  (if v6 = v2.1 then
    (if v2.1 = (0 : Int32) then
      (h_ll v5.2 x3 2 (0 : Int32)).bind fun v9 =>
      (if v5.1 = (0 : Int32) then
        (if (h_lc v9 (0 : Int64)) = (0 : Int32) then
          some v5.2
        else
          none)
      else
        (if (h_lc v9 (1 : Int64)) = (0 : Int32) then
          some v5.2
        else
          none))
    else
      some v5.2)
  else
    none)
def p_case_27 (V : Nat → Nat) (g f : GH) (n x0 x1 x2 x3 x4 : Nat) (x5 : Int32) : Option GH :=
  (h_li (gA g) x0 0 (x5 + (1 : Int32))).bind fun v1 =>
  (h_li (gA g) x0 0 (x5 + (2 : Int32))).bind fun v2 =>
  (h_li (gA g) x0 0 (x5 + (3 : Int32))).bind fun v3 =>
  (p_L_contains V g f x1 v1 v2 v3 x3).bind fun v4 =>
  (h_li (gA g) x0 0 (x5 + (1 : Int32))).bind fun v6 =>
  (h_li (gA g) x0 0 (x5 + (2 : Int32))).bind fun v7 =>
  (h_li (gA g) x0 0 (x5 + (3 : Int32))).bind fun v8 =>
  (p_X8_contains V g v4.2 x2 v6 v7 v8).bind fun v9 =>
  (p_X8_thrown V g v9.2 x2).bind fun v10 =>
  (if v10 = v4.1 then
    (if v4.1 = (0 : Int32) then
      (h_ll v9.2 x3 2 (0 : Int32)).bind fun v13 =>
      (if v9.1 = (0 : Int32) then
        (if (h_lc v13 (0 : Int64)) = (0 : Int32) then
          some v9.2
        else
          none)
      else
        (if (h_lc v13 (1 : Int64)) = (0 : Int32) then
          some v9.2
        else
          none))
    else
      some v9.2)
  else
    none)
def p_case_28 (V : Nat → Nat) (g f : GH) (n x0 x1 x2 x3 x4 : Nat) (x5 : Int32) : Option GH :=
  (h_li (gA g) x0 0 (x5 + (1 : Int32))).bind fun v1 =>
  (h_li (gA g) x0 0 (x5 + (2 : Int32))).bind fun v2 =>
  (p_L_encloses V g f x1 v1 v2 x3).bind fun v3 =>
  (h_li (gA g) x0 0 (x5 + (1 : Int32))).bind fun v5 =>
  (h_li (gA g) x0 0 (x5 + (2 : Int32))).bind fun v6 =>
  (p_X8_encloses V g v3.2 x2 v5 v6).bind fun v7 =>
  (p_X8_thrown V g v7.2 x2).bind fun v8 =>
  (if v8 = v3.1 then
    (if v3.1 = (0 : Int32) then
      (h_ll v7.2 x3 2 (0 : Int32)).bind fun v11 =>
      (if v7.1 = (0 : Int32) then
        (if (h_lc v11 (0 : Int64)) = (0 : Int32) then
          some v7.2
        else
          none)
      else
        (if (h_lc v11 (1 : Int64)) = (0 : Int32) then
          some v7.2
        else
          none))
    else
      some v7.2)
  else
    none)
def p_case_29 (V : Nat → Nat) (g f : GH) (n x0 x1 x2 x3 x4 : Nat) (x5 : Int32) : Option GH :=
  (h_li (gA g) x0 0 (x5 + (1 : Int32))).bind fun v1 =>
  (p_L_innermostIslandAround V g f x1 v1 x3).bind fun v2 =>
  (h_li (gA g) x0 0 (x5 + (1 : Int32))).bind fun v4 =>
  (p_X8_innermostIslandAround V g v2.2 x2 v4).bind fun v5 =>
  (p_X8_thrown V g v5.2 x2).bind fun v6 =>
  (if v6 = v2.1 then
    (if v2.1 = (0 : Int32) then
      (h_ll v5.2 x3 2 (0 : Int32)).bind fun v9 =>
      (if (h_lc v9 v5.1.toInt64) = (0 : Int32) then
        some v5.2
      else
        none)
    else
      some v5.2)
  else
    none)
def p_case_30 (V : Nat → Nat) (g f : GH) (n x0 x1 x2 x3 x4 : Nat) (x5 : Int32) : Option GH :=
  (h_li (gA g) x0 0 (x5 + (1 : Int32))).bind fun v1 =>
  (p_L_ringDepth V g f x1 v1 x3).bind fun v2 =>
  (h_li (gA g) x0 0 (x5 + (1 : Int32))).bind fun v4 =>
  (p_X8_ringDepth V g v2.2 x2 v4).bind fun v5 =>
  (p_X8_thrown V g v5.2 x2).bind fun v6 =>
  (if v6 = v2.1 then
    (if v2.1 = (0 : Int32) then
      (h_ll v5.2 x3 2 (0 : Int32)).bind fun v9 =>
      (if (h_lc v9 v5.1.toInt64) = (0 : Int32) then
        some v5.2
      else
        none)
    else
      some v5.2)
  else
    none)
def p_case_31 (V : Nat → Nat) (g f : GH) (n x0 x1 x2 x3 x4 : Nat) (x5 : Int32) : Option GH :=
  (h_li (gA g) x0 0 (x5 + (1 : Int32))).bind fun v1 =>
  (p_L_boxWidth V g f x1 v1 x3).bind fun v2 =>
  (h_li (gA g) x0 0 (x5 + (1 : Int32))).bind fun v4 =>
  (p_X8_boxWidth V g v2.2 x2 v4).bind fun v5 =>
  (p_X8_thrown V g v5.2 x2).bind fun v6 =>
  (if v6 = v2.1 then
    (if v2.1 = (0 : Int32) then
      (h_ll v5.2 x3 2 (0 : Int32)).bind fun v9 =>
      (if (h_lc v9 v5.1.toInt64) = (0 : Int32) then
        some v5.2
      else
        none)
    else
      some v5.2)
  else
    none)
def p_case_32 (V : Nat → Nat) (g f : GH) (n x0 x1 x2 x3 x4 : Nat) (x5 : Int32) : Option GH :=
  (h_li (gA g) x0 0 (x5 + (1 : Int32))).bind fun v1 =>
  (p_L_boxHeight V g f x1 v1 x3).bind fun v2 =>
  (h_li (gA g) x0 0 (x5 + (1 : Int32))).bind fun v4 =>
  (p_X8_boxHeight V g v2.2 x2 v4).bind fun v5 =>
  (p_X8_thrown V g v5.2 x2).bind fun v6 =>
  (if v6 = v2.1 then
    (if v2.1 = (0 : Int32) then
      (h_ll v5.2 x3 2 (0 : Int32)).bind fun v9 =>
      (if (h_lc v9 v5.1.toInt64) = (0 : Int32) then
        some v5.2
      else
        none)
    else
      some v5.2)
  else
    none)
def p_case_33 (V : Nat → Nat) (g f : GH) (n x0 x1 x2 x3 x4 : Nat) (x5 : Int32) : Option GH :=
  (h_li (gA g) x0 0 (x5 + (1 : Int32))).bind fun v1 =>
  (h_li (gA g) x0 0 (x5 + (2 : Int32))).bind fun v2 =>
  (p_L_foldObstacle V g f x1 v1 v2 x3).bind fun v3 =>
  (h_li (gA g) x0 0 (x5 + (1 : Int32))).bind fun v5 =>
  (h_li (gA g) x0 0 (x5 + (2 : Int32))).bind fun v6 =>
  (p_X8_foldObstacle V g v3.2 x2 v5 v6).bind fun v7 =>
  (p_X8_thrown V g v7.2 x2).bind fun v8 =>
  (if v8 = v3.1 then
    (if v3.1 = (0 : Int32) then
      (h_ll v7.2 x3 2 (0 : Int32)).bind fun v11 =>
      (if (h_lc v11 v7.1.toInt64) = (0 : Int32) then
        some v7.2
      else
        none)
    else
      some v7.2)
  else
    none)
def p_case_34 (V : Nat → Nat) (g f : GH) (n x0 x1 x2 x3 x4 : Nat) (x5 : Int32) : Option GH :=
  (h_li (gA g) x0 0 (x5 + (1 : Int32))).bind fun v1 =>
  (h_li (gA g) x0 0 (x5 + (2 : Int32))).bind fun v2 =>
  (h_li (gA g) x0 0 (x5 + (3 : Int32))).bind fun v3 =>
  (p_L_lengthAfterFold V g f x1 v1 v2 v3 x3).bind fun v4 =>
  (h_li (gA g) x0 0 (x5 + (1 : Int32))).bind fun v6 =>
  (h_li (gA g) x0 0 (x5 + (2 : Int32))).bind fun v7 =>
  (h_li (gA g) x0 0 (x5 + (3 : Int32))).bind fun v8 =>
  (p_X8_lengthAfterFold V g v4.2 x2 v6 v7 v8).bind fun v9 =>
  (p_X8_thrown V g v9.2 x2).bind fun v10 =>
  (if v10 = v4.1 then
    (if v4.1 = (0 : Int32) then
      (h_ll v9.2 x3 2 (0 : Int32)).bind fun v13 =>
      (if (h_lc v13 v9.1.toInt64) = (0 : Int32) then
        some v9.2
      else
        none)
    else
      some v9.2)
  else
    none)
def p_case_35 (V : Nat → Nat) (g f : GH) (n x0 x1 x2 x3 x4 : Nat) (x5 : Int32) : Option GH :=
  (h_li (gA g) x0 0 (x5 + (1 : Int32))).bind fun v1 =>
  (h_li (gA g) x0 0 (x5 + (2 : Int32))).bind fun v2 =>
  (p_L_lengthWithoutPoint V g f x1 v1 v2 x3).bind fun v3 =>
  (h_li (gA g) x0 0 (x5 + (1 : Int32))).bind fun v5 =>
  (h_li (gA g) x0 0 (x5 + (2 : Int32))).bind fun v6 =>
  (p_X8_lengthWithoutPoint V g v3.2 x2 v5 v6).bind fun v7 =>
  (p_X8_thrown V g v7.2 x2).bind fun v8 =>
  (if v8 = v3.1 then
    (if v3.1 = (0 : Int32) then
      (h_ll v7.2 x3 2 (0 : Int32)).bind fun v11 =>
      (if (h_lc v11 v7.1.toInt64) = (0 : Int32) then
        some v7.2
      else
        none)
    else
      some v7.2)
  else
    none)
def p_case_36 (V : Nat → Nat) (g f : GH) (n x0 x1 x2 x3 x4 : Nat) (x5 : Int32) : Option GH :=
  (h_li (gA g) x0 0 (x5 + (1 : Int32))).bind fun v1 =>
  (p_L_leastImportantPoint V g f x1 v1 x3).bind fun v2 =>
  (h_li (gA g) x0 0 (x5 + (1 : Int32))).bind fun v4 =>
  (p_X8_leastImportantPoint V g v2.2 x2 v4).bind fun v5 =>
  (p_X8_thrown V g v5.2 x2).bind fun v6 =>
  (if v6 = v2.1 then
    (if v2.1 = (0 : Int32) then
      (h_ll v5.2 x3 2 (0 : Int32)).bind fun v9 =>
      (if (h_lc v9 v5.1.toInt64) = (0 : Int32) then
        some v5.2
      else
        none)
    else
      some v5.2)
  else
    none)
def p_case_37 (V : Nat → Nat) (g f : GH) (n x0 x1 x2 x3 x4 : Nat) (x5 : Int32) : Option GH :=
  (h_li (gA g) x0 0 (x5 + (1 : Int32))).bind fun v1 =>
  (h_li (gA g) x0 0 (x5 + (2 : Int32))).bind fun v2 =>
  (p_L_lengthInOtherMetric V g f x1 v1 v2 x3).bind fun v3 =>
  (h_li (gA g) x0 0 (x5 + (1 : Int32))).bind fun v5 =>
  (h_li (gA g) x0 0 (x5 + (2 : Int32))).bind fun v6 =>
  (p_X8_lengthInOtherMetric V g v3.2 x2 v5 v6).bind fun v7 =>
  (p_X8_thrown V g v7.2 x2).bind fun v8 =>
  (if v8 = v3.1 then
    (if v3.1 = (0 : Int32) then
      (h_ll v7.2 x3 2 (0 : Int32)).bind fun v11 =>
      (if (h_lc v11 v7.1.toInt64) = (0 : Int32) then
        some v7.2
      else
        none)
    else
      some v7.2)
  else
    none)
def p_case_38 (V : Nat → Nat) (g f : GH) (n x0 x1 x2 x3 x4 : Nat) (x5 : Int32) : Option GH :=
  (p_X7_loadedPoints V g f x1).bind fun v1 =>
  (p_X8_loadedPoints V g f x2).bind fun v2 =>
  (if v1 = v2.1 then
    some v2.2
  else
    none)
def p_case_39 (V : Nat → Nat) (g f : GH) (n x0 x1 x2 x3 x4 : Nat) (x5 : Int32) : Option GH :=
  (p_X7_addedPoints V g f x1).bind fun v1 =>
  (p_X8_addedPoints V g f x2).bind fun v2 =>
  (if v1 = v2.1 then
    some v2.2
  else
    none)
def p_case_40 (V : Nat → Nat) (g f : GH) (n x0 x1 x2 x3 x4 : Nat) (x5 : Int32) : Option GH :=
  (p_X7_removedPoints V g f x1).bind fun v1 =>
  (p_X8_removedPoints V g f x2).bind fun v2 =>
  (if v1 = v2.1 then
    some v2.2
  else
    none)
def p_case_41 (V : Nat → Nat) (g f : GH) (n x0 x1 x2 x3 x4 : Nat) (x5 : Int32) : Option GH :=
  (p_X7_ledgerGap V g f x1).bind fun v1 =>
  (p_X8_ledgerGap V g f x2).bind fun v2 =>
  (if v1 = v2.1 then
    some v2.2
  else
    none)
def p_case_42 (V : Nat → Nat) (g f : GH) (n x0 x1 x2 x3 x4 : Nat) (x5 : Int32) : Option GH :=
  (h_li (gA g) x0 0 (x5 + (1 : Int32))).bind fun v1 =>
  (p_L_addCoast V g f x1 v1 x3).bind fun v2 =>
  (h_li (gA g) x0 0 (x5 + (1 : Int32))).bind fun v4 =>
  (p_X8_addCoast V g v2.2 x2 v4).bind fun v5 =>
  (p_X8_thrown V g v5.2 x2).bind fun v6 =>
  (if v6 = v2.1 then
    (if v2.1 = (0 : Int32) then
      (h_ll v5.2 x3 2 (0 : Int32)).bind fun v9 =>
      (if (h_lc v9 v5.1.toInt64) = (0 : Int32) then
        some v5.2
      else
        none)
    else
      some v5.2)
  else
    none)
def p_case_43 (V : Nat → Nat) (g f : GH) (n x0 x1 x2 x3 x4 : Nat) (x5 : Int32) : Option GH :=
  (h_li (gA g) x0 0 (x5 + (1 : Int32))).bind fun v1 =>
  (p_L_removeCoast V g f x1 v1 x3).bind fun v2 =>
  (h_li (gA g) x0 0 (x5 + (1 : Int32))).bind fun v4 =>
  (p_X8_removeCoast V g v2.2 x2 v4).bind fun v5 =>
  (p_X8_thrown V g v5.2 x2).bind fun v6 =>
  (if v6 = v2.1 then
    (if v2.1 = (0 : Int32) then
      (h_ll v5.2 x3 2 (0 : Int32)).bind fun v9 =>
      (if (h_lc v9 v5.1.toInt64) = (0 : Int32) then
        some v5.2
      else
        none)
    else
      some v5.2)
  else
    none)
def p_case_44 (V : Nat → Nat) (g f : GH) (n x0 x1 x2 x3 x4 : Nat) (x5 : Int32) : Option GH :=
  (h_li (gA g) x0 0 (x5 + (1 : Int32))).bind fun v1 =>
  (h_li (gA g) x0 0 (x5 + (2 : Int32))).bind fun v2 =>
  (p_L_fold V g f x1 v1 v2 x3).bind fun v3 =>
  (h_li (gA g) x0 0 (x5 + (1 : Int32))).bind fun v5 =>
  (h_li (gA g) x0 0 (x5 + (2 : Int32))).bind fun v6 =>
  (p_X8_fold V g v3.2 x2 v5 v6).bind fun v7 =>
  (p_X8_thrown V g v7.2 x2).bind fun v8 =>
  (if v8 = v3.1 then
    (if v3.1 = (0 : Int32) then
      (h_ll v7.2 x3 2 (0 : Int32)).bind fun v11 =>
      (if (h_lc v11 v7.1.toInt64) = (0 : Int32) then
        some v7.2
      else
        none)
    else
      some v7.2)
  else
    none)
def p_case_45 (V : Nat → Nat) (g f : GH) (n x0 x1 x2 x3 x4 : Nat) (x5 : Int32) : Option GH :=
  (h_li (gA g) x0 0 (x5 + (1 : Int32))).bind fun v1 =>
  (p_L_unfold V g f x1 v1 x3).bind fun v2 =>
  (h_li (gA g) x0 0 (x5 + (1 : Int32))).bind fun v4 =>
  (p_X8_unfold V g v2.2 x2 v4).bind fun v5 =>
  (p_X8_thrown V g v5.2 x2).bind fun v6 =>
  (if v6 = v2.1 then
    (if v2.1 = (0 : Int32) then
      (h_ll v5.2 x3 2 (0 : Int32)).bind fun v9 =>
      (if (h_lc v9 v5.1.toInt64) = (0 : Int32) then
        some v5.2
      else
        none)
    else
      some v5.2)
  else
    none)
def p_case_46 (V : Nat → Nat) (g f : GH) (n x0 x1 x2 x3 x4 : Nat) (x5 : Int32) : Option GH :=
  (h_li (gA g) x0 0 (x5 + (1 : Int32))).bind fun v1 =>
  (h_li (gA g) x0 0 (x5 + (2 : Int32))).bind fun v2 =>
  (h_li (gA g) x0 0 (x5 + (3 : Int32))).bind fun v3 =>
  (h_li (gA g) x0 0 (x5 + (4 : Int32))).bind fun v4 =>
  (p_L_movePoint V g f x1 v1 v2 v3 v4 x3).bind fun v5 =>
  (h_li (gA g) x0 0 (x5 + (1 : Int32))).bind fun v7 =>
  (h_li (gA g) x0 0 (x5 + (2 : Int32))).bind fun v8 =>
  (h_li (gA g) x0 0 (x5 + (3 : Int32))).bind fun v9 =>
  (h_li (gA g) x0 0 (x5 + (4 : Int32))).bind fun v10 =>
  (p_X8_movePoint V g v5.2 x2 v7 v8 v9 v10).bind fun v11 =>
  (p_X8_thrown V g v11.2 x2).bind fun v12 =>
  (if v12 = v5.1 then
    (if v5.1 = (0 : Int32) then
      (h_ll v11.2 x3 2 (0 : Int32)).bind fun v15 =>
      (if (h_lc v15 v11.1.toInt64) = (0 : Int32) then
        some v11.2
      else
        none)
    else
      some v11.2)
  else
    none)
def p_case_47 (V : Nat → Nat) (g f : GH) (n x0 x1 x2 x3 x4 : Nat) (x5 : Int32) : Option GH :=
  (h_li (gA g) x0 0 (x5 + (1 : Int32))).bind fun v1 =>
  (h_li (gA g) x0 0 (x5 + (2 : Int32))).bind fun v2 =>
  (h_li (gA g) x0 0 (x5 + (3 : Int32))).bind fun v3 =>
  (h_li (gA g) x0 0 (x5 + (4 : Int32))).bind fun v4 =>
  (p_L_insertPoint V g f x1 v1 v2 v3 v4 x3).bind fun v5 =>
  (h_li (gA g) x0 0 (x5 + (1 : Int32))).bind fun v7 =>
  (h_li (gA g) x0 0 (x5 + (2 : Int32))).bind fun v8 =>
  (h_li (gA g) x0 0 (x5 + (3 : Int32))).bind fun v9 =>
  (h_li (gA g) x0 0 (x5 + (4 : Int32))).bind fun v10 =>
  (p_X8_insertPoint V g v5.2 x2 v7 v8 v9 v10).bind fun v11 =>
  (p_X8_thrown V g v11.2 x2).bind fun v12 =>
  (if v12 = v5.1 then
    (if v5.1 = (0 : Int32) then
      (h_ll v11.2 x3 2 (0 : Int32)).bind fun v15 =>
      (if (h_lc v15 v11.1.toInt64) = (0 : Int32) then
        some v11.2
      else
        none)
    else
      some v11.2)
  else
    none)
def p_case_48 (V : Nat → Nat) (g f : GH) (n x0 x1 x2 x3 x4 : Nat) (x5 : Int32) : Option GH :=
  (h_li (gA g) x0 0 (x5 + (1 : Int32))).bind fun v1 =>
  (h_li (gA g) x0 0 (x5 + (2 : Int32))).bind fun v2 =>
  (p_L_removePoint V g f x1 v1 v2 x3).bind fun v3 =>
  (h_li (gA g) x0 0 (x5 + (1 : Int32))).bind fun v5 =>
  (h_li (gA g) x0 0 (x5 + (2 : Int32))).bind fun v6 =>
  (p_X8_removePoint V g v3.2 x2 v5 v6).bind fun v7 =>
  (p_X8_thrown V g v7.2 x2).bind fun v8 =>
  (if v8 = v3.1 then
    (if v3.1 = (0 : Int32) then
      (h_ll v7.2 x3 2 (0 : Int32)).bind fun v11 =>
      (if (h_lc v11 v7.1.toInt64) = (0 : Int32) then
        some v7.2
      else
        none)
    else
      some v7.2)
  else
    none)
def p_case_49 (V : Nat → Nat) (g f : GH) (n x0 x1 x2 x3 x4 : Nat) (x5 : Int32) : Option GH :=
  (h_li (gA g) x0 0 (x5 + (1 : Int32))).bind fun v1 =>
  (h_li (gA g) x0 0 (x5 + (2 : Int32))).bind fun v2 =>
  (h_li (gA g) x0 0 (x5 + (3 : Int32))).bind fun v3 =>
  (p_L_shift V g f x1 v1 v2 v3 x3).bind fun v4 =>
  (h_li (gA g) x0 0 (x5 + (1 : Int32))).bind fun v6 =>
  (h_li (gA g) x0 0 (x5 + (2 : Int32))).bind fun v7 =>
  (h_li (gA g) x0 0 (x5 + (3 : Int32))).bind fun v8 =>
  (p_X8_shift V g v4.2 x2 v6 v7 v8).bind fun v9 =>
  (p_X8_thrown V g v9.2 x2).bind fun v10 =>
  (if v10 = v4.1 then
    (if v4.1 = (0 : Int32) then
      (h_ll v9.2 x3 2 (0 : Int32)).bind fun v13 =>
      (if (h_lc v13 v9.1.toInt64) = (0 : Int32) then
        some v9.2
      else
        none)
    else
      some v9.2)
  else
    none)
def p_case_50 (V : Nat → Nat) (g f : GH) (n x0 x1 x2 x3 x4 : Nat) (x5 : Int32) : Option GH :=
  (h_li (gA g) x0 0 (x5 + (1 : Int32))).bind fun v1 =>
  (p_L_reverse V g f x1 v1 x3).bind fun v2 =>
  (h_li (gA g) x0 0 (x5 + (1 : Int32))).bind fun v4 =>
  (p_X8_reverse V g v2.2 x2 v4).bind fun v5 =>
  (p_X8_thrown V g v5.2 x2).bind fun v6 =>
  (if v6 = v2.1 then
    (if v2.1 = (0 : Int32) then
      (h_ll v5.2 x3 2 (0 : Int32)).bind fun v9 =>
      (if (h_lc v9 v5.1.toInt64) = (0 : Int32) then
        some v5.2
      else
        none)
    else
      some v5.2)
  else
    none)
def p_case_51 (V : Nat → Nat) (g f : GH) (n x0 x1 x2 x3 x4 : Nat) (x5 : Int32) : Option GH :=
  (h_li (gA g) x0 0 (x5 + (1 : Int32))).bind fun v1 =>
  (if v1 = (0 : Int32) then
    x_r (p_X7_setKingMetric V g f x1 (0 : Int32)) fun v3 =>
    (h_li (gA g) x0 0 (x5 + (1 : Int32))).bind fun v4 =>
    (if v4 = (0 : Int32) then
      (p_X8_setKingMetric V g v3.2 x2 (0 : Int32)).bind fun v6 =>
      (if v3.1 = v6.1 then
        some v6.2
      else
        none)
    else
      (p_X8_setKingMetric V g v3.2 x2 (1 : Int32)).bind fun v8 =>
      (if v3.1 = v8.1 then
        some v8.2
      else
        none))
  else
    x_r (p_X7_setKingMetric V g f x1 (1 : Int32)) fun v10 =>
    (h_li (gA g) x0 0 (x5 + (1 : Int32))).bind fun v11 =>
    (if v11 = (0 : Int32) then
      (p_X8_setKingMetric V g v10.2 x2 (0 : Int32)).bind fun v13 =>
      (if v10.1 = v13.1 then
        some v13.2
      else
        none)
    else
      (p_X8_setKingMetric V g v10.2 x2 (1 : Int32)).bind fun v15 =>
      (if v10.1 = v15.1 then
        some v15.2
      else
        none)))
def p_case_52 (V : Nat → Nat) (g f : GH) (n x0 x1 x2 x3 x4 : Nat) (x5 : Int32) : Option GH :=
  (h_li (gA g) x0 0 (x5 + (1 : Int32))).bind fun v1 =>
  (p_L_runScript V g f x1 v1 x3).bind fun v2 =>
  (h_li (gA g) x0 0 (x5 + (1 : Int32))).bind fun v4 =>
  (p_X8_runScript V g v2.2 x2 v4).bind fun v5 =>
  (p_X8_thrown V g v5.2 x2).bind fun v6 =>
  (if v6 = v2.1 then
    (if v2.1 = (0 : Int32) then
      (h_ll v5.2 x3 2 (0 : Int32)).bind fun v9 =>
      (if (h_lc v9 v5.1.toInt64) = (0 : Int32) then
        some v5.2
      else
        none)
    else
      some v5.2)
  else
    none)
def p_case_53 (V : Nat → Nat) (g f : GH) (n x0 x1 x2 x3 x4 : Nat) (x5 : Int32) : Option GH :=
  (h_li (gA g) x0 0 (x5 + (1 : Int32))).bind fun v1 =>
  (p_L_writeLengths V g f n x1 v1 x3).bind fun v2 =>
  (h_li (gA g) x0 0 (x5 + (1 : Int32))).bind fun v4 =>
  (p_X8_writeLengths V g v2.2 x2 v4).bind fun v5 =>
  (p_X8_thrown V g v5.2 x2).bind fun v6 =>
  (if v6 = v2.1 then
    (if v2.1 = (0 : Int32) then
      (h_ll v5.2 x3 2 (0 : Int32)).bind fun v9 =>
      (if (h_lc v9 v5.1.toInt64) = (0 : Int32) then
        some v5.2
      else
        none)
    else
      some v5.2)
  else
    none)
def p_case_54 (V : Nat → Nat) (g f : GH) (n x0 x1 x2 x3 x4 : Nat) (x5 : Int32) : Option GH :=
  (h_li (gA g) x0 0 (x5 + (1 : Int32))).bind fun v1 =>
  (p_L_outputByte V g f x1 v1 x3).bind fun v2 =>
  (h_li (gA g) x0 0 (x5 + (1 : Int32))).bind fun v4 =>
  (p_X8_outputByte V g v2.2 x2 v4).bind fun v5 =>
  (p_X8_thrown V g v5.2 x2).bind fun v6 =>
  (if v6 = v2.1 then
    (if v2.1 = (0 : Int32) then
      (h_ll v5.2 x3 2 (0 : Int32)).bind fun v9 =>
      (if (h_lc v9 v5.1.toInt64) = (0 : Int32) then
        some v5.2
      else
        none)
    else
      some v5.2)
  else
    none)
def p_case_55 (V : Nat → Nat) (g f : GH) (n x0 x1 x2 x3 x4 : Nat) (x5 : Int32) : Option GH :=
  (p_X7_undoableCount V g f x1).bind fun v1 =>
  (p_X8_undoableCount V g f x2).bind fun v2 =>
  (if v1 = v2.1 then
    some v2.2
  else
    none)
def p_case_56 (V : Nat → Nat) (g f : GH) (n x0 x1 x2 x3 x4 : Nat) (x5 : Int32) : Option GH :=
  (p_L_undo V g f x1 x3).bind fun v1 =>
  (p_X8_undo V g v1.2 x2).bind fun v3 =>
  (p_X8_thrown V g v3.2 x2).bind fun v4 =>
  (if v4 = v1.1 then
    (if v1.1 = (0 : Int32) then
      (h_ll v3.2 x3 2 (0 : Int32)).bind fun v7 =>
      (if (h_lc v7 v3.1.toInt64) = (0 : Int32) then
        some v3.2
      else
        none)
    else
      some v3.2)
  else
    none)
def p_case_57 (V : Nat → Nat) (g f : GH) (n x0 x1 x2 x3 x4 : Nat) (x5 : Int32) : Option GH :=
  (p_X7_saveSnapshot V g f x1).bind fun v1 =>
  (p_X8_saveSnapshot V g v1 x2).bind fun v2 =>
  some v2
def p_case_58 (V : Nat → Nat) (g f : GH) (n x0 x1 x2 x3 x4 : Nat) (x5 : Int32) : Option GH :=
  (p_L_restoreSnapshot V g f x1 x3).bind fun v1 =>
  (p_X8_restoreSnapshot V g v1.2 x2).bind fun v3 =>
  (p_X8_thrown V g v3.2 x2).bind fun v4 =>
  (if v4 = v1.1 then
    (if v1.1 = (0 : Int32) then
      (h_ll v3.2 x3 2 (0 : Int32)).bind fun v7 =>
      (if (h_lc v7 v3.1.toInt64) = (0 : Int32) then
        some v3.2
      else
        none)
    else
      some v3.2)
  else
    none)
def p_step (V : Nat → Nat) (g f : GH) (n x0 x1 x2 x3 x4 : Nat) (x5 : Int32) : Option GH := (h_li (gA g) x0 0 x5).bind fun v =>
  if v &&& (63 : Int32) = (0 : Int32) then p_case_0 V g f n x0 x1 x2 x3 x4 x5 else
  if v &&& (63 : Int32) = (1 : Int32) then p_case_1 V g f n x0 x1 x2 x3 x4 x5 else
  if v &&& (63 : Int32) = (2 : Int32) then p_case_2 V g f n x0 x1 x2 x3 x4 x5 else
  if v &&& (63 : Int32) = (3 : Int32) then p_case_3 V g f n x0 x1 x2 x3 x4 x5 else
  if v &&& (63 : Int32) = (4 : Int32) then p_case_4 V g f n x0 x1 x2 x3 x4 x5 else
  if v &&& (63 : Int32) = (5 : Int32) then p_case_5 V g f n x0 x1 x2 x3 x4 x5 else
  if v &&& (63 : Int32) = (6 : Int32) then p_case_6 V g f n x0 x1 x2 x3 x4 x5 else
  if v &&& (63 : Int32) = (7 : Int32) then p_case_7 V g f n x0 x1 x2 x3 x4 x5 else
  if v &&& (63 : Int32) = (8 : Int32) then p_case_8 V g f n x0 x1 x2 x3 x4 x5 else
  if v &&& (63 : Int32) = (9 : Int32) then p_case_9 V g f n x0 x1 x2 x3 x4 x5 else
  if v &&& (63 : Int32) = (10 : Int32) then p_case_10 V g f n x0 x1 x2 x3 x4 x5 else
  if v &&& (63 : Int32) = (11 : Int32) then p_case_11 V g f n x0 x1 x2 x3 x4 x5 else
  if v &&& (63 : Int32) = (12 : Int32) then p_case_12 V g f n x0 x1 x2 x3 x4 x5 else
  if v &&& (63 : Int32) = (13 : Int32) then p_case_13 V g f n x0 x1 x2 x3 x4 x5 else
  if v &&& (63 : Int32) = (14 : Int32) then p_case_14 V g f n x0 x1 x2 x3 x4 x5 else
  if v &&& (63 : Int32) = (15 : Int32) then p_case_15 V g f n x0 x1 x2 x3 x4 x5 else
  if v &&& (63 : Int32) = (16 : Int32) then p_case_16 V g f n x0 x1 x2 x3 x4 x5 else
  if v &&& (63 : Int32) = (17 : Int32) then p_case_17 V g f n x0 x1 x2 x3 x4 x5 else
  if v &&& (63 : Int32) = (18 : Int32) then p_case_18 V g f n x0 x1 x2 x3 x4 x5 else
  if v &&& (63 : Int32) = (19 : Int32) then p_case_19 V g f n x0 x1 x2 x3 x4 x5 else
  if v &&& (63 : Int32) = (20 : Int32) then p_case_20 V g f n x0 x1 x2 x3 x4 x5 else
  if v &&& (63 : Int32) = (21 : Int32) then p_case_21 V g f n x0 x1 x2 x3 x4 x5 else
  if v &&& (63 : Int32) = (22 : Int32) then p_case_22 V g f n x0 x1 x2 x3 x4 x5 else
  if v &&& (63 : Int32) = (23 : Int32) then p_case_23 V g f n x0 x1 x2 x3 x4 x5 else
  if v &&& (63 : Int32) = (24 : Int32) then p_case_24 V g f n x0 x1 x2 x3 x4 x5 else
  if v &&& (63 : Int32) = (25 : Int32) then p_case_25 V g f n x0 x1 x2 x3 x4 x5 else
  if v &&& (63 : Int32) = (26 : Int32) then p_case_26 V g f n x0 x1 x2 x3 x4 x5 else
  if v &&& (63 : Int32) = (27 : Int32) then p_case_27 V g f n x0 x1 x2 x3 x4 x5 else
  if v &&& (63 : Int32) = (28 : Int32) then p_case_28 V g f n x0 x1 x2 x3 x4 x5 else
  if v &&& (63 : Int32) = (29 : Int32) then p_case_29 V g f n x0 x1 x2 x3 x4 x5 else
  if v &&& (63 : Int32) = (30 : Int32) then p_case_30 V g f n x0 x1 x2 x3 x4 x5 else
  if v &&& (63 : Int32) = (31 : Int32) then p_case_31 V g f n x0 x1 x2 x3 x4 x5 else
  if v &&& (63 : Int32) = (32 : Int32) then p_case_32 V g f n x0 x1 x2 x3 x4 x5 else
  if v &&& (63 : Int32) = (33 : Int32) then p_case_33 V g f n x0 x1 x2 x3 x4 x5 else
  if v &&& (63 : Int32) = (34 : Int32) then p_case_34 V g f n x0 x1 x2 x3 x4 x5 else
  if v &&& (63 : Int32) = (35 : Int32) then p_case_35 V g f n x0 x1 x2 x3 x4 x5 else
  if v &&& (63 : Int32) = (36 : Int32) then p_case_36 V g f n x0 x1 x2 x3 x4 x5 else
  if v &&& (63 : Int32) = (37 : Int32) then p_case_37 V g f n x0 x1 x2 x3 x4 x5 else
  if v &&& (63 : Int32) = (38 : Int32) then p_case_38 V g f n x0 x1 x2 x3 x4 x5 else
  if v &&& (63 : Int32) = (39 : Int32) then p_case_39 V g f n x0 x1 x2 x3 x4 x5 else
  if v &&& (63 : Int32) = (40 : Int32) then p_case_40 V g f n x0 x1 x2 x3 x4 x5 else
  if v &&& (63 : Int32) = (41 : Int32) then p_case_41 V g f n x0 x1 x2 x3 x4 x5 else
  if v &&& (63 : Int32) = (42 : Int32) then p_case_42 V g f n x0 x1 x2 x3 x4 x5 else
  if v &&& (63 : Int32) = (43 : Int32) then p_case_43 V g f n x0 x1 x2 x3 x4 x5 else
  if v &&& (63 : Int32) = (44 : Int32) then p_case_44 V g f n x0 x1 x2 x3 x4 x5 else
  if v &&& (63 : Int32) = (45 : Int32) then p_case_45 V g f n x0 x1 x2 x3 x4 x5 else
  if v &&& (63 : Int32) = (46 : Int32) then p_case_46 V g f n x0 x1 x2 x3 x4 x5 else
  if v &&& (63 : Int32) = (47 : Int32) then p_case_47 V g f n x0 x1 x2 x3 x4 x5 else
  if v &&& (63 : Int32) = (48 : Int32) then p_case_48 V g f n x0 x1 x2 x3 x4 x5 else
  if v &&& (63 : Int32) = (49 : Int32) then p_case_49 V g f n x0 x1 x2 x3 x4 x5 else
  if v &&& (63 : Int32) = (50 : Int32) then p_case_50 V g f n x0 x1 x2 x3 x4 x5 else
  if v &&& (63 : Int32) = (51 : Int32) then p_case_51 V g f n x0 x1 x2 x3 x4 x5 else
  if v &&& (63 : Int32) = (52 : Int32) then p_case_52 V g f n x0 x1 x2 x3 x4 x5 else
  if v &&& (63 : Int32) = (53 : Int32) then p_case_53 V g f n x0 x1 x2 x3 x4 x5 else
  if v &&& (63 : Int32) = (54 : Int32) then p_case_54 V g f n x0 x1 x2 x3 x4 x5 else
  if v &&& (63 : Int32) = (55 : Int32) then p_case_55 V g f n x0 x1 x2 x3 x4 x5 else
  if v &&& (63 : Int32) = (56 : Int32) then p_case_56 V g f n x0 x1 x2 x3 x4 x5 else
  if v &&& (63 : Int32) = (57 : Int32) then p_case_57 V g f n x0 x1 x2 x3 x4 x5 else
  if v &&& (63 : Int32) = (58 : Int32) then p_case_58 V g f n x0 x1 x2 x3 x4 x5 else
  some f
def p_law0 (V : Nat → Nat) (g f : GH) (n x0 : Nat) : Option (Nat × Nat × Nat × Nat × GH × Nat) :=
  (some (h_up f n (.inr (9, [.null, .null, .null, .int 0, .null, .int 0, .int 0, .null, .null, .null, .null, .null, .null])))).bind fun f1 =>
  (p_X7_init V g f1 (n + 1) n).bind fun v2 =>
  (some (h_up v2.1 v2.2 (.inr (10, [.null, .null, .null, .null, .null, .null, .int 0, .int 0, .int 0, .int 0, .null, .int 0, .null, .int 0, .int 0, .int 0, .int 0, .int 0, .int 0, .int 0, .int 0, .int 0, .null, .null, .null, .int 0])))).bind fun f3 =>
  (p_X8_init V g f3 (v2.2 + 1) v2.2).bind fun v4 =>
  (some (h_up v4.1 v4.2 (.inl (2, 1, .inr (.inl (fun _ => 0)))))).bind fun f5 =>
  (some (h_up f5 (v4.2 + 1) (.inl (3, 1, .inr (.inr (.inr (.inl (fun _ => 0)))))))).bind fun f6 =>
  some (n, v2.2, v4.2, (v4.2 + 1), f6, v4.2 + 2)

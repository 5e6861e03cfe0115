def p_X8_init_s5 (V : Nat → Nat) (g : GH) (x0 : Nat) (f : GH) (n : Nat) : Option (GH × Nat) :=
  (p_X8_startCoast V g f x0 (1 : Int32)).bind fun v48 =>
  (p_X8_tellPoint V g v48 x0 (35 : Int32) (5 : Int32)).bind fun v49 =>
  (p_X8_tellPoint V g v49 x0 (45 : Int32) (5 : Int32)).bind fun v50 =>
  (p_X8_tellPoint V g v50 x0 (40 : Int32) (15 : Int32)).bind fun v51 =>
  (p_X8_layTold V g v51 x0).bind fun v52 =>
  (p_X8_restartLedgers V g v52 x0).bind fun v53 =>
  some (v53, n)
def p_X8_init_s4 (V : Nat → Nat) (g : GH) (x0 : Nat) (f : GH) (n : Nat) : Option (GH × Nat) :=
  (p_X8_layTold V g f x0).bind fun v41 =>
  (p_X8_startCoast V g v41 x0 (1 : Int32)).bind fun v42 =>
  (p_X8_tellPoint V g v42 x0 (30 : Int32) (0 : Int32)).bind fun v43 =>
  (p_X8_tellPoint V g v43 x0 (50 : Int32) (0 : Int32)).bind fun v44 =>
  (p_X8_tellPoint V g v44 x0 (50 : Int32) (20 : Int32)).bind fun v45 =>
  (p_X8_tellPoint V g v45 x0 (30 : Int32) (20 : Int32)).bind fun v46 =>
  (p_X8_layTold V g v46 x0).bind fun v47 =>
  p_X8_init_s5 V g x0 v47 n
def p_X8_init_s3 (V : Nat → Nat) (g : GH) (x0 : Nat) (f : GH) (n : Nat) : Option (GH × Nat) :=
  (p_X8_startCoast V g f x0 (0 : Int32)).bind fun v35 =>
  (p_X8_tellPoint V g v35 x0 (0 : Int32) (0 : Int32)).bind fun v36 =>
  (p_X8_tellPoint V g v36 x0 (4 : Int32) (3 : Int32)).bind fun v37 =>
  (p_X8_tellPoint V g v37 x0 (8 : Int32) (0 : Int32)).bind fun v38 =>
  (p_X8_tellPoint V g v38 x0 (12 : Int32) (5 : Int32)).bind fun v39 =>
  (p_X8_tellPoint V g v39 x0 (20 : Int32) (5 : Int32)).bind fun v40 =>
  p_X8_init_s4 V g x0 v40 n
def p_X8_init_s2 (V : Nat → Nat) (g : GH) (x0 : Nat) (f : GH) (n : Nat) : Option (GH × Nat) :=
  (some (h_up f n (.inl (7, 11, .inr (.inr (.inr (.inr (fun _ => none)))))))).bind fun f22 =>
  (h_sqs (gO g) f22 n 7 (0 : Int32) (V 27)).bind fun f23 =>
  (h_sqs (gO g) f23 n 7 (1 : Int32) (V 40)).bind fun f24 =>
  (h_sqs (gO g) f24 n 7 (2 : Int32) (V 41)).bind fun f25 =>
  (h_sqs (gO g) f25 n 7 (3 : Int32) (V 42)).bind fun f26 =>
  (h_sqs (gO g) f26 n 7 (4 : Int32) (V 43)).bind fun f27 =>
  (h_sqs (gO g) f27 n 7 (5 : Int32) (V 44)).bind fun f28 =>
  (h_sqs (gO g) f28 n 7 (6 : Int32) (V 45)).bind fun f29 =>
  (h_sqs (gO g) f29 n 7 (7 : Int32) (V 46)).bind fun f30 =>
  (h_sqs (gO g) f30 n 7 (8 : Int32) (V 47)).bind fun f31 =>
  (h_sqs (gO g) f31 n 7 (9 : Int32) (V 48)).bind fun f32 =>
  (h_sqs (gO g) f32 n 7 (10 : Int32) (V 26)).bind fun f33 =>
  (h_pt f33 x0 10 24 (.ref n)).bind fun f34 =>
  p_X8_init_s3 V g x0 f34 (n + 1)
def p_X8_init_s1 (V : Nat → Nat) (g : GH) (x0 : Nat) (f : GH) (n : Nat) : Option (GH × Nat) :=
  (h_gr f x0 10 0).bind fun v11 =>
  (h_pt f x0 10 5 (.ref v11)).bind fun f12 =>
  (some (h_up f12 n (.inl (0, 100, .inl (fun _ => 0))))).bind fun f13 =>
  (h_pt f13 x0 10 10 (.ref n)).bind fun f14 =>
  (some (h_up f14 (n + 1) (.inl (0, 700, .inl (fun _ => 0))))).bind fun f15 =>
  (h_pt f15 x0 10 12 (.ref (n + 1))).bind fun f16 =>
  (h_pt f16 x0 10 20 (.int (-1 : Int32))).bind fun f17 =>
  (some (h_up f17 (n + 2) (.inl (0, 68, .inl (fun _ => 0))))).bind fun f18 =>
  (h_pt f18 x0 10 22 (.ref (n + 2))).bind fun f19 =>
  (some (h_up f19 (n + 3) (.inl (0, 1460, .inl (fun _ => 0))))).bind fun f20 =>
  (h_pt f20 x0 10 23 (.ref (n + 3))).bind fun f21 =>
  p_X8_init_s2 V g x0 f21 (n + 4)
def p_X8_init (V : Nat → Nat) (g f : GH) (n : Nat) (a0 : Nat) : Option (GH × Nat) :=
  h_me f a0 10 <|
  (some (h_up f n (.inl (0, 1825, .inl (fun _ => 0))))).bind fun f1 =>
  (h_pt f1 a0 10 0 (.ref n)).bind fun f2 =>
  (some (h_up f2 (n + 1) (.inl (0, 1825, .inl (fun _ => 0))))).bind fun f3 =>
  (h_pt f3 a0 10 1 (.ref (n + 1))).bind fun f4 =>
  (some (h_up f4 (n + 2) (.inl (0, 1825, .inl (fun _ => 0))))).bind fun f5 =>
  (h_pt f5 a0 10 2 (.ref (n + 2))).bind fun f6 =>
  (some (h_up f6 (n + 3) (.inl (0, 1825, .inl (fun _ => 0))))).bind fun f7 =>
  (h_pt f7 a0 10 3 (.ref (n + 3))).bind fun f8 =>
  (some (h_up f8 (n + 4) (.inl (0, 14600, .inl (fun _ => 0))))).bind fun f9 =>
  (h_pt f9 a0 10 4 (.ref (n + 4))).bind fun f10 =>
  p_X8_init_s1 V g a0 f10 (n + 5)
def p_X8_thrown (V : Nat → Nat) (g f : GH) (a0 : Nat) : Option Int32 :=
  h_me f a0 10 <|
  (h_gi f a0 10 7).bind fun v1 =>
  some v1
def p_X8_inRange (V : Nat → Nat) (g f : GH) (a0 : Int32) (a1 : Int32) (a2 : Int32) : Option Int32 :=
  (if a0 < a1 then
    some (0 : Int32)
  else
    (if a2 < a0 then
      some (0 : Int32)
    else
      some (1 : Int32)))
def p_X8_lacks (V : Nat → Nat) (g f : GH) (a0 : Nat) (a1 : Int32) : Option (Int32 × GH) :=
  h_me f a0 10 <|
  (if a1 = (0 : Int32) then
    (h_pt f a0 10 7 (.int (1 : Int32))).bind fun f2 =>
    (if a1 = (0 : Int32) then
      some ((1 : Int32), f2)
    else
      some ((0 : Int32), f2))
  else
    (h_pt f a0 10 7 (.int (0 : Int32))).bind fun f4 =>
    (if a1 = (0 : Int32) then
      some ((1 : Int32), f4)
    else
      some ((0 : Int32), f4)))
def p_X8_lacksBoth (V : Nat → Nat) (g f : GH) (a0 : Nat) (a1 : Int32) (a2 : Int32) : Option (Int32 × GH) :=
  h_me f a0 10 <|
  (p_X8_lacks V g f a0 a1).bind fun v1 =>
  (if v1.1 = (0 : Int32) then
    (if a2 = (0 : Int32) then
      (h_pt v1.2 a0 10 7 (.int (2 : Int32))).bind fun f4 =>
      (h_gi f4 a0 10 7).bind fun v5 =>
      (if v5 = (0 : Int32) then
        some ((0 : Int32), f4)
      else
        some ((1 : Int32), f4))
    else
      (h_pt v1.2 a0 10 7 (.int (0 : Int32))).bind fun f7 =>
      (h_gi f7 a0 10 7).bind fun v8 =>
      (if v8 = (0 : Int32) then
        some ((0 : Int32), f7)
      else
        some ((1 : Int32), f7)))
  else
    some ((1 : Int32), v1.2))
def p_X8_sizeOf (V : Nat → Nat) (g f : GH) (a0 : Int32) : Option Int32 :=
  (if (0 : Int32) ≤ a0 then
    some a0
  else
    some (-a0))
def p_X8_least (V : Nat → Nat) (g f : GH) (a0 : Int32) (a1 : Int32) : Option Int32 :=
  (if a1 ≤ a0 then
    some a1
  else
    some a0)
def p_X8_isCoast (V : Nat → Nat) (g f : GH) (a0 : Nat) (a1 : Int32) : Option Int32 :=
  h_me f a0 10 <|
  (h_gr f a0 10 5).bind fun v1 =>
  (h_li f v1 0 (1 : Int32)).bind fun v2 =>
  (p_X8_inRange V g f a1 (0 : Int32) (v2 - (1 : Int32))).bind fun v3 =>
  (h_bz v3).bind fun _ =>
  some v3
def p_X8_island (V : Nat → Nat) (g f : GH) (a0 : Nat) (a1 : Int32) : Option Int32 :=
  h_me f a0 10 <|
  (h_gr f a0 10 5).bind fun v1 =>
  (p_X8_at V g f a1).bind fun v2 =>
  (h_li f v1 0 (v2 + (0 : Int32))).bind fun v3 =>
  (if v3 = (1 : Int32) then
    some (1 : Int32)
  else
    some (0 : Int32))
def p_X8_x (V : Nat → Nat) (g f : GH) (a0 : Nat) (a1 : Int32) (a2 : Int32) : Option Int32 :=
  h_me f a0 10 <|
  (h_gr f a0 10 5).bind fun v1 =>
  (p_X8_at V g f a1).bind fun v2 =>
  (h_li f v1 0 ((v2 + (2 : Int32)) + ((2 : Int32) * a2))).bind fun v3 =>
  some v3
def p_X8_y (V : Nat → Nat) (g f : GH) (a0 : Nat) (a1 : Int32) (a2 : Int32) : Option Int32 :=
  h_me f a0 10 <|
  (h_gr f a0 10 5).bind fun v1 =>
  (p_X8_at V g f a1).bind fun v2 =>
  (h_li f v1 0 (((v2 + (2 : Int32)) + ((2 : Int32) * a2)) + (1 : Int32))).bind fun v3 =>
  some v3
def p_X8_layPoint (V : Nat → Nat) (g f : GH) (a0 : Nat) (a1 : Int32) (a2 : Int32) (a3 : Int32) (a4 : Int32) : Option GH :=
  h_me f a0 10 <|
  (h_gr f a0 10 5).bind fun v1 =>
  (p_X8_at V g f a1).bind fun v2 =>
  (h_si f v1 0 ((v2 + (2 : Int32)) + ((2 : Int32) * a2)) a3).bind fun f3 =>
  (h_gr f3 a0 10 5).bind fun v4 =>
  (p_X8_at V g f3 a1).bind fun v5 =>
  (h_si f3 v4 0 (((v5 + (2 : Int32)) + ((2 : Int32) * a2)) + (1 : Int32)) a4).bind fun f6 =>
  some f6
def p_X8_isPoint (V : Nat → Nat) (g f : GH) (a0 : Nat) (a1 : Int32) (a2 : Int32) : Option Int32 :=
  h_me f a0 10 <|
  (p_X8_isCoast V g f a0 a1).bind fun v1 =>
  (if v1 = (0 : Int32) then
    some (0 : Int32)
  else
    (p_X8_count V g f a0 a1).bind fun v3 =>
    (p_X8_inRange V g f a2 (0 : Int32) (v3 - (1 : Int32))).bind fun v4 =>
    (if v4 = (0 : Int32) then
      some (0 : Int32)
    else
      some (1 : Int32)))
def p_X8_isCoordinate (V : Nat → Nat) (g f : GH) (a0 : Int32) : Option Int32 :=
  (p_X8_inRange V g f a0 (-1000 : Int32) (1000 : Int32)).bind fun v1 =>
  (h_bz v1).bind fun _ =>
  some v1
def p_X8_isPosition (V : Nat → Nat) (g f : GH) (a0 : Int32) (a1 : Int32) : Option Int32 :=
  (p_X8_isCoordinate V g f a0).bind fun v1 =>
  (if v1 = (0 : Int32) then
    some (0 : Int32)
  else
    (p_X8_isCoordinate V g f a1).bind fun v3 =>
    (if v3 = (0 : Int32) then
      some (0 : Int32)
    else
      some (1 : Int32)))
def p_X8_isLevel (V : Nat → Nat) (g f : GH) (a0 : Int32) : Option Int32 :=
  (p_X8_inRange V g f a0 (0 : Int32) (7 : Int32)).bind fun v1 =>
  (h_bz v1).bind fun _ =>
  some v1
def p_X8_isHeight (V : Nat → Nat) (g f : GH) (a0 : Int32) : Option Int32 :=
  (p_X8_inRange V g f a0 (-50 : Int32) (50 : Int32)).bind fun v1 =>
  (h_bz v1).bind fun _ =>
  some v1
def p_X8_fewest (V : Nat → Nat) (g f : GH) (a0 : Nat) (a1 : Int32) : Option Int32 :=
  h_me f a0 10 <|
  (p_X8_island V g f a0 a1).bind fun v1 =>
  (if v1 = (0 : Int32) then
    some (2 : Int32)
  else
    some (3 : Int32))
def p_X8_copyCoast (V : Nat → Nat) (g f : GH) (a0 : Nat) (a1 : Int32) (a2 : Int32) : Option GH :=
  h_me f a0 10 <|
  (h_gr f a0 10 5).bind fun v1 =>
  (p_X8_at V g f a1).bind fun v2 =>
  (h_gr f a0 10 5).bind fun v3 =>
  (p_X8_at V g f a2).bind fun v4 =>
  (h_cp f 0 v1 v2 v3 v4 (260 : Int32)).bind fun f5 =>
  some f5
def p_X8_measure (V : Nat → Nat) (g f : GH) (a0 : Int32) (a1 : Int32) (a2 : Int32) : Option Int32 :=
  (p_X8_sizeOf V g f a0).bind fun v1 =>
  (p_X8_sizeOf V g f a1).bind fun v2 =>
  (if a2 = (0 : Int32) then
    some (v1 + v2)
  else
    (if v1 ≤ v2 then
      some v2
    else
      some v1))
def p_X8_isKing (V : Nat → Nat) (g f : GH) (a0 : Nat) : Option Int32 :=
  h_me f a0 10 <|
  (h_gr f a0 10 5).bind fun v1 =>
  (h_li f v1 0 (0 : Int32)).bind fun v2 =>
  (if v2 = (1 : Int32) then
    some (1 : Int32)
  else
    some (0 : Int32))
def p_X8_distance (V : Nat → Nat) (g f : GH) (a0 : Nat) (a1 : Int32) (a2 : Int32) (a3 : Int32) (a4 : Int32) : Option Int32 :=
  h_me f a0 10 <|
  (p_X8_x V g f a0 a1 a2).bind fun v1 =>
  (p_X8_x V g f a0 a1 a3).bind fun v2 =>
  (p_X8_y V g f a0 a1 a2).bind fun v3 =>
  (p_X8_y V g f a0 a1 a3).bind fun v4 =>
  (p_X8_measure V g f (v1 - v2) (v3 - v4) a4).bind fun v5 =>
  some v5
def p_X8_sticks_j32 (V : Nat → Nat) (g f : GH) (x0 : Nat) (x1 : Int32) (x3 : Int32) (t0 : Int32) : Option Int32 :=
  (p_X8_island V g f x0 x1).bind fun v3 =>
  (if v3 = (0 : Int32) then
    (if t0 = (0 : Int32) then
      some x3
    else
      some (x3 - (1 : Int32)))
  else
    some x3)
def p_X8_sticks (V : Nat → Nat) (g f : GH) (a0 : Nat) (a1 : Int32) (a2 : Int32) : Option Int32 :=
  h_me f a0 10 <|
  (p_X8_count V g f a0 a1).bind fun v1 =>
  (p_X8_count V g f a0 a1).bind fun v2 =>
  (if (((((v1 - (1 : Int32)) >>> (a2 &&& 31)) + (1 : Int32)) - (1 : Int32)) <<< (a2 &&& 31)) = (v2 - (1 : Int32)) then
    p_X8_sticks_j32 V g f a0 a1 (((v1 - (1 : Int32)) >>> (a2 &&& 31)) + (1 : Int32)) (1 : Int32)
  else
    p_X8_sticks_j32 V g f a0 a1 (((v1 - (1 : Int32)) >>> (a2 &&& 31)) + (1 : Int32)) (0 : Int32))
def p_X8_endOf (V : Nat → Nat) (g f : GH) (a0 : Nat) (a1 : Int32) (a2 : Int32) (a3 : Int32) : Option Int32 :=
  h_me f a0 10 <|
  (p_X8_count V g f a0 a1).bind fun v1 =>
  (if v1 ≤ ((a3 + (1 : Int32)) <<< (a2 &&& 31)) then
    (p_X8_island V g f a0 a1).bind fun v3 =>
    (if v3 = (0 : Int32) then
      (p_X8_count V g f a0 a1).bind fun v5 =>
      some (v5 - (1 : Int32))
    else
      some (0 : Int32))
  else
    some ((a3 + (1 : Int32)) <<< (a2 &&& 31)))
def p_X8_lengthOf (V : Nat → Nat) (g f : GH) (a0 : Nat) (a1 : Int32) (a2 : Int32) (a3 : Int32) (a4 : Int32) : Option Int32 :=
  h_me f a0 10 <|
  (p_X8_endOf V g f a0 a1 a2 a3).bind fun v1 =>
  (p_X8_distance V g f a0 a1 (a3 <<< (a2 &&& 31)) v1 a4).bind fun v2 =>
  some v2
def p_X8_length_l6 (V : Nat → Nat) (g f : GH) (K37 : Int32 → Option Int32) : Nat → Nat → Int32 → Int32 → Int32 → Int32 → Int32 → Option Int32
  | 0, _, _, _, _, _, _ => none
  | N + 1, x0, x1, x2, x3, x4, x5 =>
    (p_X8_sticks V g f x0 x1 x2).bind fun v1 =>
    (if v1 ≤ x5 then
      K37 x4
    else
      (p_X8_lengthOf V g f x0 x1 x2 x5 x3).bind fun v3 =>
      p_X8_length_l6 V g f K37 N x0 x1 x2 x3 (x4 + v3) (x5 + (1 : Int32)))
def p_X8_length (V : Nat → Nat) (g f : GH) (a0 : Nat) (a1 : Int32) (a2 : Int32) (a3 : Int32) : Option Int32 :=
  h_me f a0 10 <|
  p_X8_length_l6 V g f (fun x4 =>
    some x4) FU a0 a1 a2 a3 (0 : Int32) (0 : Int32)
def p_X8_lengthNow (V : Nat → Nat) (g f : GH) (a0 : Nat) (a1 : Int32) (a2 : Int32) : Option Int32 :=
  h_me f a0 10 <|
  (p_X8_isKing V g f a0).bind fun v1 =>
  (p_X8_length V g f a0 a1 a2 v1).bind fun v2 =>
  some v2
def p_X8_coastCount (V : Nat → Nat) (g f : GH) (a0 : Nat) : Option (Int32 × GH) :=
  h_me f a0 10 <|
  (h_pt f a0 10 7 (.int (0 : Int32))).bind fun f1 =>
  (h_gr f1 a0 10 5).bind fun v2 =>
  (h_li f1 v2 0 (1 : Int32)).bind fun v3 =>
  some (v3, f1)
def p_X8_usesKingMetric (V : Nat → Nat) (g f : GH) (a0 : Nat) : Option (Int32 × GH) :=
  h_me f a0 10 <|
  (h_pt f a0 10 7 (.int (0 : Int32))).bind fun f1 =>
  (p_X8_isKing V g f1 a0).bind fun v2 =>
  (h_bz v2).bind fun _ =>
  some (v2, f1)
def p_X8_isIsland (V : Nat → Nat) (g f : GH) (a0 : Nat) (a1 : Int32) : Option (Int32 × GH) :=
  h_me f a0 10 <|
  (p_X8_isCoast V g f a0 a1).bind fun v1 =>
  (p_X8_lacks V g f a0 v1).bind fun v2 =>
  (if v2.1 = (0 : Int32) then
    (p_X8_island V g v2.2 a0 a1).bind fun v4 =>
    (if v4 = (0 : Int32) then
      some ((0 : Int32), v2.2)
    else
      some ((1 : Int32), v2.2))
  else
    some ((0 : Int32), v2.2))
def p_X8_pointCount (V : Nat → Nat) (g f : GH) (a0 : Nat) (a1 : Int32) : Option (Int32 × GH) :=
  h_me f a0 10 <|
  (p_X8_isCoast V g f a0 a1).bind fun v1 =>
  (p_X8_lacks V g f a0 v1).bind fun v2 =>
  (if v2.1 = (0 : Int32) then
    (p_X8_count V g v2.2 a0 a1).bind fun v4 =>
    some (v4, v2.2)
  else
    some ((0 : Int32), v2.2))
def p_X8_pointX (V : Nat → Nat) (g f : GH) (a0 : Nat) (a1 : Int32) (a2 : Int32) : Option (Int32 × GH) :=
  h_me f a0 10 <|
  (p_X8_isPoint V g f a0 a1 a2).bind fun v1 =>
  (p_X8_lacks V g f a0 v1).bind fun v2 =>
  (if v2.1 = (0 : Int32) then
    (p_X8_x V g v2.2 a0 a1 a2).bind fun v4 =>
    some (v4, v2.2)
  else
    some ((0 : Int32), v2.2))
def p_X8_pointY (V : Nat → Nat) (g f : GH) (a0 : Nat) (a1 : Int32) (a2 : Int32) : Option (Int32 × GH) :=
  h_me f a0 10 <|
  (p_X8_isPoint V g f a0 a1 a2).bind fun v1 =>
  (p_X8_lacks V g f a0 v1).bind fun v2 =>
  (if v2.1 = (0 : Int32) then
    (p_X8_y V g v2.2 a0 a1 a2).bind fun v4 =>
    some (v4, v2.2)
  else
    some ((0 : Int32), v2.2))
def p_X8_pointDistance_j24 (V : Nat → Nat) (g : GH) (x0 : Nat) (x1 : Int32) (x2 : Int32) (x3 : Int32) (t0 : Int32) (t1 : Nat) (f : GH) : Option (Int32 × GH) :=
  (p_X8_lacks V g f t1 t0).bind fun v2 =>
  (if v2.1 = (0 : Int32) then
    (p_X8_isKing V g v2.2 x0).bind fun v4 =>
    (p_X8_distance V g v2.2 x0 x1 x2 x3 v4).bind fun v5 =>
    some (v5, v2.2)
  else
    some ((0 : Int32), v2.2))
def p_X8_pointDistance_j23 (V : Nat → Nat) (g : GH) (K24 : Nat → Int32 → Int32 → Int32 → Int32 → Nat → GH → Option (Int32 × GH)) (x0 : Nat) (x1 : Int32) (x2 : Int32) (x3 : Int32) (t0 : Nat) (f : GH) : Option (Int32 × GH) :=
  K24 x0 x1 x2 x3 (0 : Int32) t0 f
def p_X8_pointDistance (V : Nat → Nat) (g f : GH) (a0 : Nat) (a1 : Int32) (a2 : Int32) (a3 : Int32) : Option (Int32 × GH) :=
  h_me f a0 10 <|
  (p_X8_isPoint V g f a0 a1 a2).bind fun v1 =>
  (if v1 = (0 : Int32) then
    p_X8_pointDistance_j23 V g (p_X8_pointDistance_j24 V g) a0 a1 a2 a3 a0 f
  else
    (p_X8_isPoint V g f a0 a1 a3).bind fun v7 =>
    (if v7 = (0 : Int32) then
      p_X8_pointDistance_j23 V g (p_X8_pointDistance_j24 V g) a0 a1 a2 a3 a0 f
    else
      p_X8_pointDistance_j24 V g a0 a1 a2 a3 (1 : Int32) a0 f))
def p_X8_nearestPoint_l28 (V : Nat → Nat) (g : GH) (K92 : Int32 → GH → Option (Int32 × GH)) : Nat → Nat → Int32 → Int32 → Int32 → Int32 → Int32 → Int32 → GH → Option (Int32 × GH)
  | 0, _, _, _, _, _, _, _, _ => none
  | N + 1, x0, x1, x2, x3, x4, x5, x6, f =>
    (p_X8_count V g f x0 x1).bind fun v5 =>
    (if v5 ≤ x6 then
      K92 x4 f
    else
      (p_X8_x V g f x0 x1 x6).bind fun v7 =>
      (p_X8_y V g f x0 x1 x6).bind fun v8 =>
      (p_X8_isKing V g f x0).bind fun v9 =>
      (p_X8_measure V g f (v7 - x2) (v8 - x3) v9).bind fun v10 =>
      (if x4 = (-1 : Int32) then
        p_X8_nearestPoint_l28 V g K92 N x0 x1 x2 x3 x6 v10 (x6 + (1 : Int32)) f
      else
        (if x5 ≤ v10 then
          p_X8_nearestPoint_l28 V g K92 N x0 x1 x2 x3 x4 x5 (x6 + (1 : Int32)) f
        else
          p_X8_nearestPoint_l28 V g K92 N x0 x1 x2 x3 x6 v10 (x6 + (1 : Int32)) f)))
def p_X8_nearestPoint (V : Nat → Nat) (g f : GH) (a0 : Nat) (a1 : Int32) (a2 : Int32) (a3 : Int32) : Option (Int32 × GH) :=
  h_me f a0 10 <|
  (p_X8_isCoast V g f a0 a1).bind fun v1 =>
  (p_X8_isPosition V g f a2 a3).bind fun v2 =>
  (p_X8_lacksBoth V g f a0 v1 v2).bind fun v3 =>
  (if v3.1 = (0 : Int32) then
    p_X8_nearestPoint_l28 V g (fun x4 f =>
      some (x4, f)) FU a0 a1 a2 a3 (-1 : Int32) (0 : Int32) (0 : Int32) v3.2
  else
    some ((0 : Int32), v3.2))
def p_X8_lacksLevel (V : Nat → Nat) (g f : GH) (a0 : Nat) (a1 : Int32) (a2 : Int32) : Option (Int32 × GH) :=
  h_me f a0 10 <|
  (p_X8_isCoast V g f a0 a1).bind fun v1 =>
  (p_X8_isLevel V g f a2).bind fun v2 =>
  (p_X8_lacksBoth V g f a0 v1 v2).bind fun v3 =>
  (h_bz v3.1).bind fun _ =>
  some (v3.1, v3.2)
def p_X8_lacksStick (V : Nat → Nat) (g f : GH) (a0 : Nat) (a1 : Int32) (a2 : Int32) (a3 : Int32) : Option (Int32 × GH) :=
  h_me f a0 10 <|
  (p_X8_isCoast V g f a0 a1).bind fun v1 =>
  (p_X8_isCoast V g f a0 a1).bind fun v2 =>
  (if v2 = (0 : Int32) then
    (p_X8_lacksBoth V g f a0 v1 (0 : Int32)).bind fun v4 =>
    (h_bz v4.1).bind fun _ =>
    some (v4.1, v4.2)
  else
    (p_X8_isLevel V g f a2).bind fun v6 =>
    (if v6 = (0 : Int32) then
      (p_X8_lacksBoth V g f a0 v1 (0 : Int32)).bind fun v8 =>
      (h_bz v8.1).bind fun _ =>
      some (v8.1, v8.2)
    else
      (p_X8_sticks V g f a0 a1 a2).bind fun v10 =>
      (p_X8_inRange V g f a3 (0 : Int32) (v10 - (1 : Int32))).bind fun v11 =>
      (if v11 = (0 : Int32) then
        (p_X8_lacksBoth V g f a0 v1 (0 : Int32)).bind fun v13 =>
        (h_bz v13.1).bind fun _ =>
        some (v13.1, v13.2)
      else
        (p_X8_lacksBoth V g f a0 v1 (1 : Int32)).bind fun v15 =>
        (h_bz v15.1).bind fun _ =>
        some (v15.1, v15.2))))
def p_X8_lengthAt (V : Nat → Nat) (g f : GH) (a0 : Nat) (a1 : Int32) (a2 : Int32) : Option (Int32 × GH) :=
  h_me f a0 10 <|
  (p_X8_lacksLevel V g f a0 a1 a2).bind fun v1 =>
  (if v1.1 = (0 : Int32) then
    (p_X8_lengthNow V g v1.2 a0 a1 a2).bind fun v3 =>
    some (v3, v1.2)
  else
    some ((0 : Int32), v1.2))
def p_X8_stickCount (V : Nat → Nat) (g f : GH) (a0 : Nat) (a1 : Int32) (a2 : Int32) : Option (Int32 × GH) :=
  h_me f a0 10 <|
  (p_X8_lacksLevel V g f a0 a1 a2).bind fun v1 =>
  (if v1.1 = (0 : Int32) then
    (p_X8_sticks V g v1.2 a0 a1 a2).bind fun v3 =>
    some (v3, v1.2)
  else
    some ((0 : Int32), v1.2))
def p_X8_stickStart (V : Nat → Nat) (g f : GH) (a0 : Nat) (a1 : Int32) (a2 : Int32) (a3 : Int32) : Option (Int32 × GH) :=
  h_me f a0 10 <|
  (p_X8_lacksStick V g f a0 a1 a2 a3).bind fun v1 =>
  (if v1.1 = (0 : Int32) then
    some (a3 <<< (a2 &&& 31), v1.2)
  else
    some ((0 : Int32), v1.2))
def p_X8_stickLength (V : Nat → Nat) (g f : GH) (a0 : Nat) (a1 : Int32) (a2 : Int32) (a3 : Int32) : Option (Int32 × GH) :=
  h_me f a0 10 <|
  (p_X8_lacksStick V g f a0 a1 a2 a3).bind fun v1 =>
  (if v1.1 = (0 : Int32) then
    (p_X8_isKing V g v1.2 a0).bind fun v3 =>
    (p_X8_lengthOf V g v1.2 a0 a1 a2 a3 v3).bind fun v4 =>
    some (v4, v1.2)
  else
    some ((0 : Int32), v1.2))
def p_X8_longestStick_j58 (V : Nat → Nat) (g : GH) (K16 : Nat → Int32 → Int32 → Int32 → Int32 → GH → Option (Int32 × GH)) (x0 : Nat) (x1 : Int32) (x2 : Int32) (x3 : Int32) (x4 : Int32) (t0 : Int32) (f : GH) : Option (Int32 × GH) :=
  (if t0 = (0 : Int32) then
    K16 x0 x1 x2 x3 (x4 + (1 : Int32)) f
  else
    K16 x0 x1 x2 x4 (x4 + (1 : Int32)) f)
def p_X8_longestStick_l16 (V : Nat → Nat) (g : GH) (K78 : Int32 → GH → Option (Int32 × GH)) : Nat → Nat → Int32 → Int32 → Int32 → Int32 → GH → Option (Int32 × GH)
  | 0, _, _, _, _, _, _ => none
  | N + 1, x0, x1, x2, x3, x4, f =>
    (p_X8_sticks V g f x0 x1 x2).bind fun v3 =>
    (if v3 ≤ x4 then
      K78 x3 f
    else
      (p_X8_isKing V g f x0).bind fun v5 =>
      (p_X8_lengthOf V g f x0 x1 x2 x4 v5).bind fun v6 =>
      (p_X8_isKing V g f x0).bind fun v7 =>
      (p_X8_lengthOf V g f x0 x1 x2 x3 v7).bind fun v8 =>
      (if v6 ≤ v8 then
        p_X8_longestStick_j58 V g (p_X8_longestStick_l16 V g K78 N) x0 x1 x2 x3 x4 (0 : Int32) f
      else
        p_X8_longestStick_j58 V g (p_X8_longestStick_l16 V g K78 N) x0 x1 x2 x3 x4 (1 : Int32) f))
def p_X8_longestStick (V : Nat → Nat) (g f : GH) (a0 : Nat) (a1 : Int32) (a2 : Int32) : Option (Int32 × GH) :=
  h_me f a0 10 <|
  (p_X8_lacksLevel V g f a0 a1 a2).bind fun v1 =>
  (if v1.1 = (0 : Int32) then
    p_X8_longestStick_l16 V g (fun x3 f =>
      some (x3, f)) FU a0 a1 a2 (0 : Int32) (1 : Int32) v1.2
  else
    some ((0 : Int32), v1.2))
def p_X8_gain (V : Nat → Nat) (g f : GH) (a0 : Nat) (a1 : Int32) (a2 : Int32) : Option Int32 :=
  h_me f a0 10 <|
  (p_X8_lengthNow V g f a0 a1 a2).bind fun v1 =>
  (p_X8_lengthNow V g f a0 a1 (a2 + (1 : Int32))).bind fun v2 =>
  some (v1 - v2)
def p_X8_isFine (V : Nat → Nat) (g f : GH) (a0 : Int32) : Option Int32 :=
  (p_X8_inRange V g f a0 (0 : Int32) (6 : Int32)).bind fun v1 =>
  (h_bz v1).bind fun _ =>
  some v1
def p_X8_lengthGain (V : Nat → Nat) (g f : GH) (a0 : Nat) (a1 : Int32) (a2 : Int32) : Option (Int32 × GH) :=
  h_me f a0 10 <|
  (p_X8_isCoast V g f a0 a1).bind fun v1 =>
  (p_X8_isFine V g f a2).bind fun v2 =>
  (p_X8_lacksBoth V g f a0 v1 v2).bind fun v3 =>
  (if v3.1 = (0 : Int32) then
    (p_X8_gain V g v3.2 a0 a1 a2).bind fun v5 =>
    some (v5, v3.2)
  else
    some ((0 : Int32), v3.2))
def p_X8_levelOfGreatestGain_l18 (V : Nat → Nat) (g : GH) (K51 : Int32 → GH → Option (Int32 × GH)) : Nat → Nat → Int32 → Int32 → Int32 → GH → Option (Int32 × GH)
  | 0, _, _, _, _, _ => none
  | N + 1, x0, x1, x2, x3, f =>
    (if (7 : Int32) ≤ x3 then
      K51 x2 f
    else
      (p_X8_gain V g f x0 x1 x3).bind fun v5 =>
      (p_X8_gain V g f x0 x1 x2).bind fun v6 =>
      (if v5 ≤ v6 then
        p_X8_levelOfGreatestGain_l18 V g K51 N x0 x1 x2 (x3 + (1 : Int32)) f
      else
        p_X8_levelOfGreatestGain_l18 V g K51 N x0 x1 x3 (x3 + (1 : Int32)) f))
def p_X8_levelOfGreatestGain (V : Nat → Nat) (g f : GH) (a0 : Nat) (a1 : Int32) : Option (Int32 × GH) :=
  h_me f a0 10 <|
  (p_X8_isCoast V g f a0 a1).bind fun v1 =>
  (p_X8_lacks V g f a0 v1).bind fun v2 =>
  (if v2.1 = (0 : Int32) then
    p_X8_levelOfGreatestGain_l18 V g (fun x2 f =>
      some (x2, f)) FU a0 a1 (0 : Int32) (1 : Int32) v2.2
  else
    some ((0 : Int32), v2.2))
def p_X8_coarsest_l3 (V : Nat → Nat) (g f : GH) (K23 : Int32 → Option Int32) : Nat → Nat → Int32 → Int32 → Int32 → Option Int32
  | 0, _, _, _, _ => none
  | N + 1, x0, x1, x2, x3 =>
    (if x3 < (0 : Int32) then
      K23 x3
    else
      (p_X8_lengthNow V g f x0 x1 x3).bind fun v2 =>
      (if x2 ≤ v2 then
        K23 x3
      else
        p_X8_coarsest_l3 V g f K23 N x0 x1 x2 (x3 + (-1 : Int32))))
def p_X8_coarsest (V : Nat → Nat) (g f : GH) (a0 : Nat) (a1 : Int32) (a2 : Int32) : Option Int32 :=
  h_me f a0 10 <|
  p_X8_coarsest_l3 V g f (fun x3 =>
    some x3) FU a0 a1 a2 (7 : Int32)
def p_X8_coarsestLevelFor_j15 (V : Nat → Nat) (g : GH) (x0 : Nat) (x1 : Int32) (x2 : Int32) (t0 : Int32) (t1 : Int32) (t2 : Nat) (f : GH) : Option (Int32 × GH) :=
  (p_X8_lacksBoth V g f t2 t1 t0).bind fun v2 =>
  (if v2.1 = (0 : Int32) then
    (p_X8_coarsest V g v2.2 x0 x1 x2).bind fun v4 =>
    some (v4, v2.2)
  else
    some ((0 : Int32), v2.2))
def p_X8_coarsestLevelFor (V : Nat → Nat) (g f : GH) (a0 : Nat) (a1 : Int32) (a2 : Int32) : Option (Int32 × GH) :=
  h_me f a0 10 <|
  (p_X8_isCoast V g f a0 a1).bind fun v1 =>
  (if a2 < (0 : Int32) then
    p_X8_coarsestLevelFor_j15 V g a0 a1 a2 (0 : Int32) v1 a0 f
  else
    p_X8_coarsestLevelFor_j15 V g a0 a1 a2 (1 : Int32) v1 a0 f)
def p_X8_coarsestExactLevel (V : Nat → Nat) (g f : GH) (a0 : Nat) (a1 : Int32) : Option (Int32 × GH) :=
  h_me f a0 10 <|
  (p_X8_isCoast V g f a0 a1).bind fun v1 =>
  (p_X8_lacks V g f a0 v1).bind fun v2 =>
  (if v2.1 = (0 : Int32) then
    (p_X8_lengthNow V g v2.2 a0 a1 (0 : Int32)).bind fun v4 =>
    (p_X8_coarsest V g v2.2 a0 a1 v4).bind fun v5 =>
    some (v5, v2.2)
  else
    some ((0 : Int32), v2.2))
def p_X8_totalLength_l17 (V : Nat → Nat) (g : GH) (K42 : Int32 → GH → Option (Int32 × GH)) : Nat → Nat → Int32 → Int32 → Int32 → GH → Option (Int32 × GH)
  | 0, _, _, _, _, _ => none
  | N + 1, x0, x1, x2, x3, f =>
    (h_gr f x0 10 5).bind fun v4 =>
    (h_li f v4 0 (1 : Int32)).bind fun v5 =>
    (if v5 ≤ x3 then
      K42 x2 f
    else
      (p_X8_lengthNow V g f x0 x3 x1).bind fun v7 =>
      p_X8_totalLength_l17 V g K42 N x0 x1 (x2 + v7) (x3 + (1 : Int32)) f)
def p_X8_totalLength (V : Nat → Nat) (g f : GH) (a0 : Nat) (a1 : Int32) : Option (Int32 × GH) :=
  h_me f a0 10 <|
  (p_X8_isLevel V g f a1).bind fun v1 =>
  (p_X8_lacks V g f a0 v1).bind fun v2 =>
  (if v2.1 = (0 : Int32) then
    p_X8_totalLength_l17 V g (fun x2 f =>
      some (x2, f)) FU a0 a1 (0 : Int32) (0 : Int32) v2.2
  else
    some ((0 : Int32), v2.2))
def p_X8_longestCoast_l17 (V : Nat → Nat) (g : GH) (K59 : Int32 → GH → Option (Int32 × GH)) : Nat → Nat → Int32 → Int32 → Int32 → GH → Option (Int32 × GH)
  | 0, _, _, _, _, _ => none
  | N + 1, x0, x1, x2, x3, f =>
    (h_gr f x0 10 5).bind fun v4 =>
    (h_li f v4 0 (1 : Int32)).bind fun v5 =>
    (if v5 ≤ x3 then
      K59 x2 f
    else
      (if x2 = (-1 : Int32) then
        p_X8_longestCoast_l17 V g K59 N x0 x1 x3 (x3 + (1 : Int32)) f
      else
        (p_X8_lengthNow V g f x0 x3 x1).bind fun v8 =>
        (p_X8_lengthNow V g f x0 x2 x1).bind fun v9 =>
        (if v8 ≤ v9 then
          p_X8_longestCoast_l17 V g K59 N x0 x1 x2 (x3 + (1 : Int32)) f
        else
          p_X8_longestCoast_l17 V g K59 N x0 x1 x3 (x3 + (1 : Int32)) f)))
def p_X8_longestCoast (V : Nat → Nat) (g f : GH) (a0 : Nat) (a1 : Int32) : Option (Int32 × GH) :=
  h_me f a0 10 <|
  (p_X8_isLevel V g f a1).bind fun v1 =>
  (p_X8_lacks V g f a0 v1).bind fun v2 =>
  (if v2.1 = (0 : Int32) then
    p_X8_longestCoast_l17 V g (fun x2 f =>
      some (x2, f)) FU a0 a1 (-1 : Int32) (0 : Int32) v2.2
  else
    some ((0 : Int32), v2.2))
def p_X8_refinementRatio (V : Nat → Nat) (g f : GH) (a0 : Nat) (a1 : Int32) (a2 : Int32) : Option (UInt64 × GH) :=
  h_me f a0 10 <|
  (p_X8_isCoast V g f a0 a1).bind fun v1 =>
  (p_X8_isFine V g f a2).bind fun v2 =>
  (p_X8_lacksBoth V g f a0 v1 v2).bind fun v3 =>
  (if v3.1 = (0 : Int32) then
    (p_X8_lengthNow V g v3.2 a0 a1 (a2 + (1 : Int32))).bind fun v5 =>
    (if v5 = (0 : Int32) then
      some (FP.dconst0, v3.2)
    else
      (p_X8_lengthNow V g v3.2 a0 a1 a2).bind fun v7 =>
      (h_ddiv (FP.i2d v7) (FP.i2d v5)).bind fun v8 =>
      some (FP.ddiv (FP.i2d v7) (FP.i2d v5), v3.2))
  else
    some (FP.dconst0, v3.2))
def p_X8_meanStickLength (V : Nat → Nat) (g f : GH) (a0 : Nat) (a1 : Int32) (a2 : Int32) : Option (UInt32 × GH) :=
  h_me f a0 10 <|
  (p_X8_lacksLevel V g f a0 a1 a2).bind fun v1 =>
  (if v1.1 = (0 : Int32) then
    (p_X8_lengthNow V g v1.2 a0 a1 a2).bind fun v3 =>
    (p_X8_sticks V g v1.2 a0 a1 a2).bind fun v4 =>
    (h_fdiv (FP.i2f v3) (FP.i2f v4)).bind fun v5 =>
    some (FP.fdiv (FP.i2f v3) (FP.i2f v4), v1.2)
  else
    some (FP.fconst0, v1.2))
def p_X8_next (V : Nat → Nat) (g f : GH) (a0 : Nat) (a1 : Int32) (a2 : Int32) : Option Int32 :=
  h_me f a0 10 <|
  (p_X8_count V g f a0 a1).bind fun v1 =>
  (if v1 ≤ (a2 + (1 : Int32)) then
    some (0 : Int32)
  else
    some (a2 + (1 : Int32)))
def p_X8_signedArea_l4 (V : Nat → Nat) (g f : GH) (K59 : Int32 → Option Int32) : Nat → Nat → Int32 → Int32 → Int32 → Option Int32
  | 0, _, _, _, _ => none
  | N + 1, x0, x1, x2, x3 =>
    (p_X8_count V g f x0 x1).bind fun v1 =>
    (if v1 ≤ x3 then
      K59 x2
    else
      (p_X8_next V g f x0 x1 x3).bind fun v3 =>
      (p_X8_x V g f x0 x1 x3).bind fun v4 =>
      (p_X8_y V g f x0 x1 v3).bind fun v5 =>
      (p_X8_x V g f x0 x1 v3).bind fun v6 =>
      (p_X8_y V g f x0 x1 x3).bind fun v7 =>
      p_X8_signedArea_l4 V g f K59 N x0 x1 (x2 + ((v4 * v5) - (v6 * v7))) (x3 + (1 : Int32)))
def p_X8_signedArea (V : Nat → Nat) (g f : GH) (a0 : Nat) (a1 : Int32) : Option Int32 :=
  h_me f a0 10 <|
  p_X8_signedArea_l4 V g f (fun x2 =>
    some x2) FU a0 a1 (0 : Int32) (0 : Int32)
def p_X8_lacksIsland (V : Nat → Nat) (g f : GH) (a0 : Nat) (a1 : Int32) : Option (Int32 × GH) :=
  h_me f a0 10 <|
  (p_X8_isCoast V g f a0 a1).bind fun v1 =>
  (p_X8_isCoast V g f a0 a1).bind fun v2 =>
  (if v2 = (0 : Int32) then
    (p_X8_lacksBoth V g f a0 v1 (0 : Int32)).bind fun v4 =>
    (h_bz v4.1).bind fun _ =>
    some (v4.1, v4.2)
  else
    (p_X8_island V g f a0 a1).bind fun v6 =>
    (if v6 = (0 : Int32) then
      (p_X8_lacksBoth V g f a0 v1 (0 : Int32)).bind fun v8 =>
      (h_bz v8.1).bind fun _ =>
      some (v8.1, v8.2)
    else
      (p_X8_lacksBoth V g f a0 v1 (1 : Int32)).bind fun v10 =>
      (h_bz v10.1).bind fun _ =>
      some (v10.1, v10.2)))
def p_X8_doubledArea (V : Nat → Nat) (g f : GH) (a0 : Nat) (a1 : Int32) : Option (Int32 × GH) :=
  h_me f a0 10 <|
  (p_X8_lacksIsland V g f a0 a1).bind fun v1 =>
  (if v1.1 = (0 : Int32) then
    (p_X8_signedArea V g v1.2 a0 a1).bind fun v3 =>
    (p_X8_sizeOf V g v1.2 v3).bind fun v4 =>
    some (v4, v1.2)
  else
    some ((0 : Int32), v1.2))
def p_X8_isCounterclockwise (V : Nat → Nat) (g f : GH) (a0 : Nat) (a1 : Int32) : Option (Int32 × GH) :=
  h_me f a0 10 <|
  (p_X8_lacksIsland V g f a0 a1).bind fun v1 =>
  (if v1.1 = (0 : Int32) then
    (p_X8_signedArea V g v1.2 a0 a1).bind fun v3 =>
    (if v3 ≤ (0 : Int32) then
      some ((0 : Int32), v1.2)
    else
      some ((1 : Int32), v1.2))
  else
    some ((0 : Int32), v1.2))
def p_X8_isBetween (V : Nat → Nat) (g f : GH) (a0 : Int32) (a1 : Int32) (a2 : Int32) : Option Int32 :=
  (p_X8_least V g f a1 a2).bind fun v1 =>
  (if a0 < v1 then
    some (0 : Int32)
  else
    (p_X8_least V g f a1 a2).bind fun v3 =>
    (if ((a1 + a2) - v3) < a0 then
      some (0 : Int32)
    else
      some (1 : Int32)))
def p_X8_turn (V : Nat → Nat) (g f : GH) (a0 : Nat) (a1 : Int32) (a2 : Int32) (a3 : Int32) (a4 : Int32) : Option Int32 :=
  h_me f a0 10 <|
  (p_X8_next V g f a0 a1 a2).bind fun v1 =>
  (p_X8_x V g f a0 a1 v1).bind fun v2 =>
  (p_X8_x V g f a0 a1 a2).bind fun v3 =>
  (p_X8_y V g f a0 a1 v1).bind fun v4 =>
  (p_X8_y V g f a0 a1 a2).bind fun v5 =>
  (p_X8_y V g f a0 a1 a2).bind fun v6 =>
  (p_X8_x V g f a0 a1 a2).bind fun v7 =>
  some (((v2 - v3) * (a4 - v6)) - ((v4 - v5) * (a3 - v7)))
def p_X8_isOn_j54 (V : Nat → Nat) (g f : GH) (x0 : Nat) (x1 : Int32) (x2 : Int32) (x3 : Int32) (x4 : Int32) (t0 : Int32) : Option Int32 :=
  (if t0 = (0 : Int32) then
    some (0 : Int32)
  else
    (p_X8_turn V g f x0 x1 x2 x3 x4).bind fun v6 =>
    (if v6 = (0 : Int32) then
      some (1 : Int32)
    else
      some (0 : Int32)))
def p_X8_isOn_j53 (V : Nat → Nat) (g f : GH) (K54 : Nat → Int32 → Int32 → Int32 → Int32 → Int32 → Option Int32) (x0 : Nat) (x1 : Int32) (x2 : Int32) (x3 : Int32) (x4 : Int32) : Option Int32 :=
  K54 x0 x1 x2 x3 x4 (0 : Int32)
def p_X8_isOn (V : Nat → Nat) (g f : GH) (a0 : Nat) (a1 : Int32) (a2 : Int32) (a3 : Int32) (a4 : Int32) : Option Int32 :=
  h_me f a0 10 <|
  (p_X8_next V g f a0 a1 a2).bind fun v1 =>
  (p_X8_x V g f a0 a1 a2).bind fun v2 =>
  (p_X8_x V g f a0 a1 v1).bind fun v3 =>
  (p_X8_isBetween V g f a3 v2 v3).bind fun v4 =>
  (if v4 = (0 : Int32) then
    p_X8_isOn_j53 V g f (p_X8_isOn_j54 V g f) a0 a1 a2 a3 a4
  else
    (p_X8_y V g f a0 a1 a2).bind fun v9 =>
    (p_X8_y V g f a0 a1 v1).bind fun v10 =>
    (p_X8_isBetween V g f a4 v9 v10).bind fun v11 =>
    (if v11 = (0 : Int32) then
      p_X8_isOn_j53 V g f (p_X8_isOn_j54 V g f) a0 a1 a2 a3 a4
    else
      p_X8_isOn_j54 V g f a0 a1 a2 a3 a4 (1 : Int32)))
def p_X8_isCrossed_j39 (V : Nat → Nat) (g f : GH) (x0 : Nat) (x1 : Int32) (x2 : Int32) (x3 : Int32) (x4 : Int32) (x5 : Int32) (t0 : Int32) : Option Int32 :=
  (p_X8_turn V g f x0 x1 x2 x3 x4).bind fun v4 =>
  (if x5 = t0 then
    some (0 : Int32)
  else
    (if t0 = (0 : Int32) then
      (if (0 : Int32) ≤ v4 then
        some (0 : Int32)
      else
        some (1 : Int32))
    else
      (if v4 ≤ (0 : Int32) then
        some (0 : Int32)
      else
        some (1 : Int32))))
def p_X8_isCrossed_j16 (V : Nat → Nat) (g f : GH) (x0 : Nat) (x1 : Int32) (x2 : Int32) (x3 : Int32) (x4 : Int32) (t0 : Int32) : Option Int32 :=
  (p_X8_next V g f x0 x1 x2).bind fun v2 =>
  (p_X8_y V g f x0 x1 v2).bind fun v3 =>
  (if v3 ≤ x4 then
    p_X8_isCrossed_j39 V g f x0 x1 x2 x3 x4 t0 (0 : Int32)
  else
    p_X8_isCrossed_j39 V g f x0 x1 x2 x3 x4 t0 (1 : Int32))
def p_X8_isCrossed (V : Nat → Nat) (g f : GH) (a0 : Nat) (a1 : Int32) (a2 : Int32) (a3 : Int32) (a4 : Int32) : Option Int32 :=
  h_me f a0 10 <|
  (p_X8_y V g f a0 a1 a2).bind fun v1 =>
  (if v1 ≤ a4 then
    p_X8_isCrossed_j16 V g f a0 a1 a2 a3 a4 (0 : Int32)
  else
    p_X8_isCrossed_j16 V g f a0 a1 a2 a3 a4 (1 : Int32))
def p_X8_holds_l6 (V : Nat → Nat) (g f : GH) (K28 : Option Int32) (K50 : Int32 → Option Int32) : Nat → Nat → Int32 → Int32 → Int32 → Int32 → Int32 → Option Int32
  | 0, _, _, _, _, _, _ => none
  | N + 1, x0, x1, x2, x3, x4, x5 =>
    (p_X8_count V g f x0 x1).bind fun v1 =>
    (if v1 ≤ x5 then
      K50 x4
    else
      (p_X8_isOn V g f x0 x1 x5 x2 x3).bind fun v3 =>
      (if v3 = (0 : Int32) then
        (p_X8_isCrossed V g f x0 x1 x5 x2 x3).bind fun v5 =>
        p_X8_holds_l6 V g f K28 K50 N x0 x1 x2 x3 (x4 ^^^ v5) (x5 + (1 : Int32))
      else
        K28))
def p_X8_holds (V : Nat → Nat) (g f : GH) (a0 : Nat) (a1 : Int32) (a2 : Int32) (a3 : Int32) : Option Int32 :=
  h_me f a0 10 <|
  p_X8_holds_l6 V g f (some (1 : Int32)) (fun x4 =>
    (h_bz x4).bind fun _ =>
    some x4) FU a0 a1 a2 a3 (0 : Int32) (0 : Int32)
def p_X8_contains (V : Nat → Nat) (g f : GH) (a0 : Nat) (a1 : Int32) (a2 : Int32) (a3 : Int32) : Option (Int32 × GH) :=
  h_me f a0 10 <|
  (p_X8_lacksIsland V g f a0 a1).bind fun v1 =>
  (if v1.1 = (0 : Int32) then
    (p_X8_isPosition V g v1.2 a2 a3).bind fun v3 =>
    (if v3 = (0 : Int32) then
      (h_pt v1.2 a0 10 7 (.int (3 : Int32))).bind fun f7 =>
      some ((0 : Int32), f7)
    else
      (p_X8_holds V g v1.2 a0 a1 a2 a3).bind fun v5 =>
      (h_bz v5).bind fun _ =>
      some (v5, v1.2))
  else
    some ((0 : Int32), v1.2))
def p_X8_surrounds_l17 (V : Nat → Nat) (g f : GH) (K46 : Option Int32) (K54 : Option Int32) : Nat → Nat → Int32 → Int32 → Int32 → Option Int32
  | 0, _, _, _, _ => none
  | N + 1, x0, x1, x2, x3 =>
    (p_X8_count V g f x0 x2).bind fun v4 =>
    (if v4 ≤ x3 then
      K54
    else
      (p_X8_x V g f x0 x2 x3).bind fun v6 =>
      (p_X8_y V g f x0 x2 x3).bind fun v7 =>
      (p_X8_holds V g f x0 x1 v6 v7).bind fun v8 =>
      (if v8 = (0 : Int32) then
        K46
      else
        p_X8_surrounds_l17 V g f K46 K54 N x0 x1 x2 (x3 + (1 : Int32))))
def p_X8_surrounds (V : Nat → Nat) (g f : GH) (a0 : Nat) (a1 : Int32) (a2 : Int32) : Option Int32 :=
  h_me f a0 10 <|
  (if a1 = a2 then
    some (0 : Int32)
  else
    (p_X8_island V g f a0 a1).bind fun v2 =>
    (if v2 = (0 : Int32) then
      some (0 : Int32)
    else
      p_X8_surrounds_l17 V g f (some (0 : Int32)) (some (1 : Int32)) FU a0 a1 a2 (0 : Int32)))
def p_X8_encloses_j41 (V : Nat → Nat) (g : GH) (x0 : Nat) (x1 : Int32) (x2 : Int32) (t0 : Int32) (t1 : Int32) (t2 : Nat) (f : GH) : Option (Int32 × GH) :=
  (p_X8_lacksBoth V g f t2 t1 t0).bind fun v2 =>
  (if v2.1 = (0 : Int32) then
    (p_X8_surrounds V g v2.2 x0 x1 x2).bind fun v4 =>
    (if v4 = (0 : Int32) then
      some ((0 : Int32), v2.2)
    else
      some ((1 : Int32), v2.2))
  else
    some ((0 : Int32), v2.2))
def p_X8_encloses_j40 (V : Nat → Nat) (g : GH) (K41 : Nat → Int32 → Int32 → Int32 → Int32 → Nat → GH → Option (Int32 × GH)) (x0 : Nat) (x1 : Int32) (x2 : Int32) (t0 : Int32) (t1 : Nat) (f : GH) : Option (Int32 × GH) :=
  K41 x0 x1 x2 (0 : Int32) t0 t1 f
def p_X8_encloses_j21 (V : Nat → Nat) (g : GH) (x0 : Nat) (x1 : Int32) (x2 : Int32) (t0 : Int32) (f : GH) : Option (Int32 × GH) :=
  (if t0 = (0 : Int32) then
    p_X8_encloses_j40 V g (p_X8_encloses_j41 V g) x0 x1 x2 t0 x0 f
  else
    (p_X8_island V g f x0 x1).bind fun v7 =>
    (if v7 = (0 : Int32) then
      p_X8_encloses_j40 V g (p_X8_encloses_j41 V g) x0 x1 x2 t0 x0 f
    else
      p_X8_encloses_j41 V g x0 x1 x2 (1 : Int32) t0 x0 f))
def p_X8_encloses_j20 (V : Nat → Nat) (g : GH) (K21 : Nat → Int32 → Int32 → Int32 → GH → Option (Int32 × GH)) (x0 : Nat) (x1 : Int32) (x2 : Int32) (f : GH) : Option (Int32 × GH) :=
  K21 x0 x1 x2 (0 : Int32) f
def p_X8_encloses (V : Nat → Nat) (g f : GH) (a0 : Nat) (a1 : Int32) (a2 : Int32) : Option (Int32 × GH) :=
  h_me f a0 10 <|
  (p_X8_isCoast V g f a0 a1).bind fun v1 =>
  (if v1 = (0 : Int32) then
    p_X8_encloses_j20 V g (p_X8_encloses_j21 V g) a0 a1 a2 f
  else
    (p_X8_isCoast V g f a0 a2).bind fun v10 =>
    (if v10 = (0 : Int32) then
      p_X8_encloses_j20 V g (p_X8_encloses_j21 V g) a0 a1 a2 f
    else
      p_X8_encloses_j21 V g a0 a1 a2 (1 : Int32) f))
def p_X8_innermostIslandAround_j66 (V : Nat → Nat) (g : GH) (K18 : Nat → Int32 → Int32 → Int32 → GH → Option (Int32 × GH)) (x0 : Nat) (x1 : Int32) (x2 : Int32) (x3 : Int32) (t0 : Int32) (f : GH) : Option (Int32 × GH) :=
  (if t0 = (0 : Int32) then
    K18 x0 x1 x2 (x3 + (1 : Int32)) f
  else
    K18 x0 x1 x3 (x3 + (1 : Int32)) f)
def p_X8_innermostIslandAround_j65 (V : Nat → Nat) (g : GH) (K66 : Nat → Int32 → Int32 → Int32 → Int32 → GH → Option (Int32 × GH)) (x0 : Nat) (x1 : Int32) (x2 : Int32) (x3 : Int32) (f : GH) : Option (Int32 × GH) :=
  K66 x0 x1 x2 x3 (0 : Int32) f
def p_X8_innermostIslandAround_l18 (V : Nat → Nat) (g : GH) (K85 : Int32 → GH → Option (Int32 × GH)) : Nat → Nat → Int32 → Int32 → Int32 → GH → Option (Int32 × GH)
  | 0, _, _, _, _, _ => none
  | N + 1, x0, x1, x2, x3, f =>
    (h_gr f x0 10 5).bind fun v4 =>
    (h_li f v4 0 (1 : Int32)).bind fun v5 =>
    (if v5 ≤ x3 then
      K85 x2 f
    else
      (p_X8_surrounds V g f x0 x3 x1).bind fun v7 =>
      (if v7 = (0 : Int32) then
        p_X8_innermostIslandAround_j65 V g (p_X8_innermostIslandAround_j66 V g (p_X8_innermostIslandAround_l18 V g K85 N)) x0 x1 x2 x3 f
      else
        (if x2 = (-1 : Int32) then
          p_X8_innermostIslandAround_j66 V g (p_X8_innermostIslandAround_l18 V g K85 N) x0 x1 x2 x3 (1 : Int32) f
        else
          (p_X8_signedArea V g f x0 x3).bind fun v11 =>
          (p_X8_sizeOf V g f v11).bind fun v12 =>
          (p_X8_signedArea V g f x0 x2).bind fun v13 =>
          (p_X8_sizeOf V g f v13).bind fun v14 =>
          (if v14 ≤ v12 then
            p_X8_innermostIslandAround_j65 V g (p_X8_innermostIslandAround_j66 V g (p_X8_innermostIslandAround_l18 V g K85 N)) x0 x1 x2 x3 f
          else
            p_X8_innermostIslandAround_j66 V g (p_X8_innermostIslandAround_l18 V g K85 N) x0 x1 x2 x3 (1 : Int32) f))))
def p_X8_innermostIslandAround (V : Nat → Nat) (g f : GH) (a0 : Nat) (a1 : Int32) : Option (Int32 × GH) :=
  h_me f a0 10 <|
  (p_X8_isCoast V g f a0 a1).bind fun v1 =>
  (p_X8_lacks V g f a0 v1).bind fun v2 =>
  (if v2.1 = (0 : Int32) then
    p_X8_innermostIslandAround_l18 V g (fun x2 f =>
      some (x2, f)) FU a0 a1 (-1 : Int32) (0 : Int32) v2.2
  else
    some ((0 : Int32), v2.2))
def p_X8_ringDepth_l18 (V : Nat → Nat) (g : GH) (K51 : Int32 → GH → Option (Int32 × GH)) : Nat → Nat → Int32 → Int32 → Int32 → GH → Option (Int32 × GH)
  | 0, _, _, _, _, _ => none
  | N + 1, x0, x1, x2, x3, f =>
    (h_gr f x0 10 5).bind fun v4 =>
    (h_li f v4 0 (1 : Int32)).bind fun v5 =>
    (if v5 ≤ x3 then
      K51 x2 f
    else
      (p_X8_surrounds V g f x0 x3 x1).bind fun v7 =>
      (if v7 = (0 : Int32) then
        p_X8_ringDepth_l18 V g K51 N x0 x1 (x2 + (0 : Int32)) (x3 + (1 : Int32)) f
      else
        p_X8_ringDepth_l18 V g K51 N x0 x1 (x2 + (1 : Int32)) (x3 + (1 : Int32)) f))
def p_X8_ringDepth (V : Nat → Nat) (g f : GH) (a0 : Nat) (a1 : Int32) : Option (Int32 × GH) :=
  h_me f a0 10 <|
  (p_X8_isCoast V g f a0 a1).bind fun v1 =>
  (p_X8_lacks V g f a0 v1).bind fun v2 =>
  (if v2.1 = (0 : Int32) then
    p_X8_ringDepth_l18 V g (fun x2 f =>
      some (x2, f)) FU a0 a1 (0 : Int32) (0 : Int32) v2.2
  else
    some ((0 : Int32), v2.2))
def p_X8_box_j54 (V : Nat → Nat) (g f : GH) (K12 : Nat → Int32 → Int32 → Int32 → Int32 → Int32 → Option Int32) (x0 : Nat) (x1 : Int32) (x2 : Int32) (x4 : Int32) (x5 : Int32) (x6 : Int32) (t0 : Int32) : Option Int32 :=
  (if x6 ≤ x4 then
    K12 x0 x1 x2 t0 x4 (x5 + (1 : Int32))
  else
    K12 x0 x1 x2 t0 x6 (x5 + (1 : Int32)))
def p_X8_box_l12 (V : Nat → Nat) (g f : GH) (K77 : Int32 → Int32 → Option Int32) : Nat → Nat → Int32 → Int32 → Int32 → Int32 → Int32 → Option Int32
  | 0, _, _, _, _, _, _ => none
  | N + 1, x0, x1, x2, x3, x4, x5 =>
    (p_X8_count V g f x0 x1).bind fun v1 =>
    (if v1 ≤ x5 then
      K77 x3 x4
    else
      (h_gr f x0 10 5).bind fun v3 =>
      (p_X8_at V g f x1).bind fun v4 =>
      (h_li f v3 0 (((v4 + (2 : Int32)) + ((2 : Int32) * x5)) + x2)).bind fun v5 =>
      (if x3 ≤ v5 then
        p_X8_box_j54 V g f (p_X8_box_l12 V g f K77 N) x0 x1 x2 x4 x5 v5 x3
      else
        p_X8_box_j54 V g f (p_X8_box_l12 V g f K77 N) x0 x1 x2 x4 x5 v5 v5))
def p_X8_box (V : Nat → Nat) (g f : GH) (a0 : Nat) (a1 : Int32) (a2 : Int32) : Option Int32 :=
  h_me f a0 10 <|
  p_X8_box_l12 V g f (fun x3 x4 =>
    some (x4 - x3)) FU a0 a1 a2 (1000 : Int32) (-1000 : Int32) (0 : Int32)
def p_X8_boxWidth (V : Nat → Nat) (g f : GH) (a0 : Nat) (a1 : Int32) : Option (Int32 × GH) :=
  h_me f a0 10 <|
  (p_X8_isCoast V g f a0 a1).bind fun v1 =>
  (p_X8_lacks V g f a0 v1).bind fun v2 =>
  (if v2.1 = (0 : Int32) then
    (p_X8_box V g v2.2 a0 a1 (0 : Int32)).bind fun v4 =>
    some (v4, v2.2)
  else
    some ((0 : Int32), v2.2))
def p_X8_boxHeight (V : Nat → Nat) (g f : GH) (a0 : Nat) (a1 : Int32) : Option (Int32 × GH) :=
  h_me f a0 10 <|
  (p_X8_isCoast V g f a0 a1).bind fun v1 =>
  (p_X8_lacks V g f a0 v1).bind fun v2 =>
  (if v2.1 = (0 : Int32) then
    (p_X8_box V g v2.2 a0 a1 (1 : Int32)).bind fun v4 =>
    some (v4, v2.2)
  else
    some ((0 : Int32), v2.2))
def p_X8_foldedCount (V : Nat → Nat) (g f : GH) (a0 : Nat) (a1 : Int32) : Option Int32 :=
  h_me f a0 10 <|
  (p_X8_island V g f a0 a1).bind fun v1 =>
  (if v1 = (0 : Int32) then
    (p_X8_count V g f a0 a1).bind fun v3 =>
    some (((2 : Int32) * v3) - (1 : Int32))
  else
    (p_X8_count V g f a0 a1).bind fun v4 =>
    some ((2 : Int32) * v4))
def p_X8_layMiddle_j166 (V : Nat → Nat) (g : GH) (x8 : Int32) (x9 : Int32) (x10 : Int32) (t0 : Int32) (f : GH) : Option (Int32 × GH) :=
  (if x10 = (0 : Int32) then
    (p_X8_isPosition V g f t0 x8).bind fun v14 =>
    (h_bz v14).bind fun _ =>
    some (v14, f)
  else
    (p_X8_isPosition V g f t0 (x8 + x9)).bind fun v16 =>
    (h_bz v16).bind fun _ =>
    some (v16, f))
def p_X8_layMiddle_j148 (V : Nat → Nat) (g : GH) (x7 : Int32) (x8 : Int32) (x9 : Int32) (x10 : Int32) (t0 : Int32) (t1 : Int32) (t2 : Int32) (t3 : Int32) (t4 : Nat) (f : GH) : Option (Int32 × GH) :=
  (p_X8_layPoint V g f t4 t3 t2 t1 t0).bind fun v12 =>
  (if x10 = (0 : Int32) then
    p_X8_layMiddle_j166 V g x8 x9 x10 (x7 + x9) v12
  else
    p_X8_layMiddle_j166 V g x8 x9 x10 x7 v12)
def p_X8_layMiddle_j133 (V : Nat → Nat) (g : GH) (x7 : Int32) (x8 : Int32) (x9 : Int32) (x10 : Int32) (t0 : Int32) (t1 : Int32) (t2 : Int32) (t3 : Nat) (f : GH) : Option (Int32 × GH) :=
  (if x10 = (0 : Int32) then
    p_X8_layMiddle_j148 V g x7 x8 x9 x10 x8 t0 t1 t2 t3 f
  else
    p_X8_layMiddle_j148 V g x7 x8 x9 x10 (x8 + x9) t0 t1 t2 t3 f)
def p_X8_layMiddle_j108 (V : Nat → Nat) (g : GH) (x0 : Nat) (x2 : Int32) (x7 : Int32) (x8 : Int32) (x9 : Int32) (t0 : Int32) (f : GH) : Option (Int32 × GH) :=
  (if t0 = (0 : Int32) then
    p_X8_layMiddle_j133 V g x7 x8 x9 t0 (x7 + x9) (((2 : Int32) * x2) + (1 : Int32)) (6 : Int32) x0 f
  else
    p_X8_layMiddle_j133 V g x7 x8 x9 t0 x7 (((2 : Int32) * x2) + (1 : Int32)) (6 : Int32) x0 f)
def p_X8_layMiddle_j88 (V : Nat → Nat) (g : GH) (x0 : Nat) (x2 : Int32) (x5 : Int32) (x6 : Int32) (x7 : Int32) (x8 : Int32) (t0 : Int32) (f : GH) : Option (Int32 × GH) :=
  (p_X8_sizeOf V g f x5).bind fun v10 =>
  (p_X8_sizeOf V g f x6).bind fun v11 =>
  (if v10 < v11 then
    p_X8_layMiddle_j108 V g x0 x2 x7 x8 t0 (0 : Int32) f
  else
    p_X8_layMiddle_j108 V g x0 x2 x7 x8 t0 (1 : Int32) f)
def p_X8_layMiddle (V : Nat → Nat) (g f : GH) (a0 : Nat) (a1 : Int32) (a2 : Int32) (a3 : Int32) : Option (Int32 × GH) :=
  h_me f a0 10 <|
  (p_X8_next V g f a0 a1 a2).bind fun v1 =>
  (p_X8_x V g f a0 a1 v1).bind fun v2 =>
  (p_X8_x V g f a0 a1 a2).bind fun v3 =>
  (p_X8_y V g f a0 a1 v1).bind fun v4 =>
  (p_X8_y V g f a0 a1 a2).bind fun v5 =>
  (p_X8_x V g f a0 a1 a2).bind fun v6 =>
  (p_X8_x V g f a0 a1 v1).bind fun v7 =>
  (p_X8_y V g f a0 a1 a2).bind fun v8 =>
  (p_X8_y V g f a0 a1 v1).bind fun v9 =>
  (if (a2 - a2 / (2 : Int32) * (2 : Int32)) = (0 : Int32) then
    p_X8_layMiddle_j88 V g a0 a2 (v2 - v3) (v4 - v5) ((v6 + v7) >>> ((1 : Int32) &&& 31)) ((v8 + v9) >>> ((1 : Int32) &&& 31)) a3 f
  else
    p_X8_layMiddle_j88 V g a0 a2 (v2 - v3) (v4 - v5) ((v6 + v7) >>> ((1 : Int32) &&& 31)) ((v8 + v9) >>> ((1 : Int32) &&& 31)) (-a3) f)
def p_X8_layFolded_l57 (V : Nat → Nat) (g : GH) (K120 : Int32 → GH → Option (Int32 × GH)) : Nat → Nat → Int32 → Int32 → Int32 → Int32 → Int32 → GH → Option (Int32 × GH)
  | 0, _, _, _, _, _, _, _ => none
  | N + 1, x0, x1, x2, x3, x4, x5, f =>
    (p_X8_count V g f x0 x1).bind fun v12 =>
    (if v12 ≤ x5 then
      K120 x4 f
    else
      (p_X8_x V g f x0 x1 x5).bind fun v14 =>
      (p_X8_y V g f x0 x1 x5).bind fun v15 =>
      (p_X8_layPoint V g f x0 (6 : Int32) ((2 : Int32) * x5) v14 v15).bind fun v16 =>
      (if x3 ≤ (((2 : Int32) * x5) + (1 : Int32)) then
        p_X8_layFolded_l57 V g K120 N x0 x1 x2 x3 x4 (x5 + (1 : Int32)) v16
      else
        (p_X8_layMiddle V g v16 x0 x1 x5 x2).bind fun v18 =>
        p_X8_layFolded_l57 V g K120 N x0 x1 x2 x3 (x4 &&& v18.1) (x5 + (1 : Int32)) v18.2))
def p_X8_layFolded (V : Nat → Nat) (g f : GH) (a0 : Nat) (a1 : Int32) (a2 : Int32) : Option (Int32 × GH) :=
  h_me f a0 10 <|
  (p_X8_foldedCount V g f a0 a1).bind fun v1 =>
  (if v1 ≤ (129 : Int32) then
    (h_gr f a0 10 5).bind fun v3 =>
    (p_X8_at V g f (6 : Int32)).bind fun v4 =>
    (h_gr f a0 10 5).bind fun v5 =>
    (p_X8_at V g f a1).bind fun v6 =>
    (h_li f v5 0 (v6 + (0 : Int32))).bind fun v7 =>
    (h_si f v3 0 (v4 + (0 : Int32)) v7).bind fun f8 =>
    (h_gr f8 a0 10 5).bind fun v9 =>
    (p_X8_at V g f8 (6 : Int32)).bind fun v10 =>
    (h_si f8 v9 0 (v10 + (1 : Int32)) v1).bind fun f11 =>
    p_X8_layFolded_l57 V g (fun x4 f =>
      (if x4 = (0 : Int32) then
        some ((2 : Int32), f)
      else
        some ((0 : Int32), f))) FU a0 a1 a2 v1 (1 : Int32) (0 : Int32) f11
  else
    some ((1 : Int32), f))
def p_X8_foldObstacle (V : Nat → Nat) (g f : GH) (a0 : Nat) (a1 : Int32) (a2 : Int32) : Option (Int32 × GH) :=
  h_me f a0 10 <|
  (p_X8_isCoast V g f a0 a1).bind fun v1 =>
  (p_X8_isHeight V g f a2).bind fun v2 =>
  (p_X8_lacksBoth V g f a0 v1 v2).bind fun v3 =>
  (if v3.1 = (0 : Int32) then
    (p_X8_layFolded V g v3.2 a0 a1 a2).bind fun v5 =>
    some (v5.1, v5.2)
  else
    some ((0 : Int32), v3.2))
def p_X8_lengthAfterFold_j25 (V : Nat → Nat) (g : GH) (x0 : Nat) (x1 : Int32) (x2 : Int32) (x3 : Int32) (t0 : Int32) (t1 : Int32) (t2 : Nat) (f : GH) : Option (Int32 × GH) :=
  (p_X8_lacksBoth V g f t2 t1 t0).bind fun v3 =>
  (if v3.1 = (0 : Int32) then
    (p_X8_layFolded V g v3.2 x0 x1 x2).bind fun v5 =>
    (if v5.1 = (0 : Int32) then
      (p_X8_lengthNow V g v5.2 x0 (6 : Int32) x3).bind fun v7 =>
      some (v7, v5.2)
    else
      some ((-1 : Int32), v5.2))
  else
    some ((0 : Int32), v3.2))
def p_X8_lengthAfterFold_j24 (V : Nat → Nat) (g : GH) (K25 : Nat → Int32 → Int32 → Int32 → Int32 → Int32 → Nat → GH → Option (Int32 × GH)) (x0 : Nat) (x1 : Int32) (x2 : Int32) (x3 : Int32) (t0 : Int32) (t1 : Nat) (f : GH) : Option (Int32 × GH) :=
  K25 x0 x1 x2 x3 (0 : Int32) t0 t1 f
def p_X8_lengthAfterFold (V : Nat → Nat) (g f : GH) (a0 : Nat) (a1 : Int32) (a2 : Int32) (a3 : Int32) : Option (Int32 × GH) :=
  h_me f a0 10 <|
  (p_X8_isCoast V g f a0 a1).bind fun v1 =>
  (p_X8_isHeight V g f a2).bind fun v2 =>
  (if v2 = (0 : Int32) then
    p_X8_lengthAfterFold_j24 V g (p_X8_lengthAfterFold_j25 V g) a0 a1 a2 a3 v1 a0 f
  else
    (p_X8_isLevel V g f a3).bind fun v9 =>
    (if v9 = (0 : Int32) then
      p_X8_lengthAfterFold_j24 V g (p_X8_lengthAfterFold_j25 V g) a0 a1 a2 a3 v1 a0 f
    else
      p_X8_lengthAfterFold_j25 V g a0 a1 a2 a3 (1 : Int32) v1 a0 f))
def p_X8_cut_l29 (V : Nat → Nat) (g : GH) (K70 : GH → Option GH) : Nat → Nat → Int32 → Int32 → GH → Option GH
  | 0, _, _, _, _ => none
  | N + 1, x0, x1, x4, f =>
    (p_X8_at V g f x1).bind fun v6 =>
    (p_X8_count V g f x0 x1).bind fun v7 =>
    (if ((v6 + (2 : Int32)) + ((2 : Int32) * v7)) ≤ x4 then
      K70 f
    else
      (h_gr f x0 10 5).bind fun v9 =>
      (h_gr f x0 10 5).bind fun v10 =>
      (h_li f v10 0 (x4 + (2 : Int32))).bind fun v11 =>
      (h_si f v9 0 x4 v11).bind fun f12 =>
      p_X8_cut_l29 V g K70 N x0 x1 (x4 + (1 : Int32)) f12)
def p_X8_cut (V : Nat → Nat) (g f : GH) (a0 : Nat) (a1 : Int32) (a2 : Int32) : Option GH :=
  h_me f a0 10 <|
  (p_X8_at V g f a1).bind fun v1 =>
  (h_gr f a0 10 5).bind fun v2 =>
  (p_X8_at V g f a1).bind fun v3 =>
  (h_li f v2 0 (v3 + (1 : Int32))).bind fun v4 =>
  (h_si f v2 0 (v3 + (1 : Int32)) (v4 - (1 : Int32))).bind fun f5 =>
  p_X8_cut_l29 V g (fun f =>
    some f) FU a0 a1 ((v1 + (2 : Int32)) + ((2 : Int32) * a2)) f5
def p_X8_lengthBut (V : Nat → Nat) (g f : GH) (a0 : Nat) (a1 : Int32) (a2 : Int32) : Option (Int32 × GH) :=
  h_me f a0 10 <|
  (p_X8_count V g f a0 a1).bind fun v1 =>
  (p_X8_fewest V g f a0 a1).bind fun v2 =>
  (if v1 = v2 then
    some ((-1 : Int32), f)
  else
    (p_X8_copyCoast V g f a0 a1 (6 : Int32)).bind fun v4 =>
    (p_X8_cut V g v4 a0 (6 : Int32) a2).bind fun v5 =>
    (p_X8_lengthNow V g v5 a0 (6 : Int32) (0 : Int32)).bind fun v6 =>
    some (v6, v5))
def p_X8_lengthWithoutPoint (V : Nat → Nat) (g f : GH) (a0 : Nat) (a1 : Int32) (a2 : Int32) : Option (Int32 × GH) :=
  h_me f a0 10 <|
  (p_X8_isPoint V g f a0 a1 a2).bind fun v1 =>
  (p_X8_lacks V g f a0 v1).bind fun v2 =>
  (if v2.1 = (0 : Int32) then
    (p_X8_lengthBut V g v2.2 a0 a1 a2).bind fun v4 =>
    some (v4.1, v4.2)
  else
    some ((0 : Int32), v2.2))
def p_X8_leastImportantPoint_l21 (V : Nat → Nat) (g : GH) (K58 : Int32 → GH → Option (Int32 × GH)) : Nat → Nat → Int32 → Int32 → Int32 → Int32 → GH → Option (Int32 × GH)
  | 0, _, _, _, _, _, _ => none
  | N + 1, x0, x1, x2, x3, x4, f =>
    (p_X8_count V g f x0 x1).bind fun v4 =>
    (if v4 ≤ x4 then
      K58 x2 f
    else
      (p_X8_lengthBut V g f x0 x1 x4).bind fun v6 =>
      (if v6.1 ≤ x3 then
        p_X8_leastImportantPoint_l21 V g K58 N x0 x1 x2 x3 (x4 + (1 : Int32)) v6.2
      else
        p_X8_leastImportantPoint_l21 V g K58 N x0 x1 x4 v6.1 (x4 + (1 : Int32)) v6.2))
def p_X8_leastImportantPoint (V : Nat → Nat) (g f : GH) (a0 : Nat) (a1 : Int32) : Option (Int32 × GH) :=
  h_me f a0 10 <|
  (p_X8_isCoast V g f a0 a1).bind fun v1 =>
  (p_X8_lacks V g f a0 v1).bind fun v2 =>
  (if v2.1 = (0 : Int32) then
    p_X8_leastImportantPoint_l21 V g (fun x2 f =>
      some (x2, f)) FU a0 a1 (-1 : Int32) (-1 : Int32) (0 : Int32) v2.2
  else
    some ((0 : Int32), v2.2))
def p_X8_lengthInOtherMetric (V : Nat → Nat) (g f : GH) (a0 : Nat) (a1 : Int32) (a2 : Int32) : Option (Int32 × GH) :=
  h_me f a0 10 <|
  (p_X8_lacksLevel V g f a0 a1 a2).bind fun v1 =>
  (if v1.1 = (0 : Int32) then
    (p_X8_isKing V g v1.2 a0).bind fun v3 =>
    (if v3 = (0 : Int32) then
      (p_X8_length V g v1.2 a0 a1 a2 (1 : Int32)).bind fun v6 =>
      some (v6, v1.2)
    else
      (p_X8_length V g v1.2 a0 a1 a2 (0 : Int32)).bind fun v5 =>
      some (v5, v1.2))
  else
    some ((0 : Int32), v1.2))
def p_X8_loadedPoints (V : Nat → Nat) (g f : GH) (a0 : Nat) : Option (Int32 × GH) :=
  h_me f a0 10 <|
  (h_pt f a0 10 7 (.int (0 : Int32))).bind fun f1 =>
  (h_gr f1 a0 10 5).bind fun v2 =>
  (h_li f1 v2 0 (2 : Int32)).bind fun v3 =>
  some (v3, f1)
def p_X8_addedPoints (V : Nat → Nat) (g f : GH) (a0 : Nat) : Option (Int32 × GH) :=
  h_me f a0 10 <|
  (h_pt f a0 10 7 (.int (0 : Int32))).bind fun f1 =>
  (h_gr f1 a0 10 5).bind fun v2 =>
  (h_li f1 v2 0 (3 : Int32)).bind fun v3 =>
  some (v3, f1)
def p_X8_removedPoints (V : Nat → Nat) (g f : GH) (a0 : Nat) : Option (Int32 × GH) :=
  h_me f a0 10 <|
  (h_pt f a0 10 7 (.int (0 : Int32))).bind fun f1 =>
  (h_gr f1 a0 10 5).bind fun v2 =>
  (h_li f1 v2 0 (4 : Int32)).bind fun v3 =>
  some (v3, f1)
def p_X8_ledgerGap (V : Nat → Nat) (g f : GH) (a0 : Nat) : Option (Int32 × GH) :=
  h_me f a0 10 <|
  (h_pt f a0 10 7 (.int (0 : Int32))).bind fun f1 =>
  (h_gr f1 a0 10 5).bind fun v2 =>
  (h_li f1 v2 0 (2 : Int32)).bind fun v3 =>
  (h_gr f1 a0 10 5).bind fun v4 =>
  (h_li f1 v4 0 (3 : Int32)).bind fun v5 =>
  (h_gr f1 a0 10 5).bind fun v6 =>
  (h_li f1 v6 0 (4 : Int32)).bind fun v7 =>
  (p_X8_allPoints V g f1 a0).bind fun v8 =>
  (p_X8_sizeOf V g f1 (((v3 + v5) - v7) - v8)).bind fun v9 =>
  some (v9, f1)
def p_X8_doRemove_l28 (V : Nat → Nat) (g : GH) (K52 : Nat → GH → Option (Int32 × GH)) : Nat → Nat → Int32 → GH → Option (Int32 × GH)
  | 0, _, _, _ => none
  | N + 1, x0, x2, f =>
    (h_gr f x0 10 5).bind fun v7 =>
    (h_li f v7 0 (1 : Int32)).bind fun v8 =>
    (if v8 ≤ x2 then
      K52 x0 f
    else
      (p_X8_copyCoast V g f x0 x2 (x2 - (1 : Int32))).bind fun v10 =>
      p_X8_doRemove_l28 V g K52 N x0 (x2 + (1 : Int32)) v10)
def p_X8_doRemove (V : Nat → Nat) (g f : GH) (a0 : Nat) (a1 : Int32) : Option (Int32 × GH) :=
  h_me f a0 10 <|
  (p_X8_isCoast V g f a0 a1).bind fun v1 =>
  (if v1 = (0 : Int32) then
    some ((1 : Int32), f)
  else
    (h_gr f a0 10 5).bind fun v3 =>
    (h_li f v3 0 (4 : Int32)).bind fun v4 =>
    (p_X8_count V g f a0 a1).bind fun v5 =>
    (h_si f v3 0 (4 : Int32) (v4 + v5)).bind fun f6 =>
    p_X8_doRemove_l28 V g (fun x0 f =>
      (h_gr f x0 10 5).bind fun v11 =>
      (h_li f v11 0 (1 : Int32)).bind fun v12 =>
      (h_si f v11 0 (1 : Int32) (v12 - (1 : Int32))).bind fun f13 =>
      some ((0 : Int32), f13)) FU a0 (a1 + (1 : Int32)) f6)
def p_X8_doFold (V : Nat → Nat) (g f : GH) (a0 : Nat) (a1 : Int32) (a2 : Int32) : Option (Int32 × GH) :=
  h_me f a0 10 <|
  (p_X8_isCoast V g f a0 a1).bind fun v1 =>
  (if v1 = (0 : Int32) then
    some ((1 : Int32), f)
  else
    (p_X8_layFolded V g f a0 a1 a2).bind fun v3 =>
    (if v3.1 = (0 : Int32) then
      (h_gr v3.2 a0 10 5).bind fun v5 =>
      (h_li v3.2 v5 0 (3 : Int32)).bind fun v6 =>
      (p_X8_count V g v3.2 a0 (6 : Int32)).bind fun v7 =>
      (p_X8_count V g v3.2 a0 a1).bind fun v8 =>
      (h_si v3.2 v5 0 (3 : Int32) (v6 + (v7 - v8))).bind fun f9 =>
      (p_X8_copyCoast V g f9 a0 (6 : Int32) a1).bind fun v10 =>
      some ((0 : Int32), v10)
    else
      some ((3 : Int32), v3.2)))
def p_X8_doUnfold_l49 (V : Nat → Nat) (g : GH) (K82 : Nat → Int32 → Int32 → GH → Option (Int32 × GH)) : Nat → Nat → Int32 → Int32 → Int32 → GH → Option (Int32 × GH)
  | 0, _, _, _, _, _ => none
  | N + 1, x0, x1, x2, x3, f =>
    (if x2 ≤ x3 then
      K82 x0 x1 x2 f
    else
      (p_X8_x V g f x0 x1 ((2 : Int32) * x3)).bind fun v11 =>
      (p_X8_y V g f x0 x1 ((2 : Int32) * x3)).bind fun v12 =>
      (p_X8_layPoint V g f x0 x1 x3 v11 v12).bind fun v13 =>
      p_X8_doUnfold_l49 V g K82 N x0 x1 x2 (x3 + (1 : Int32)) v13)
def p_X8_doUnfold (V : Nat → Nat) (g f : GH) (a0 : Nat) (a1 : Int32) : Option (Int32 × GH) :=
  h_me f a0 10 <|
  (p_X8_isCoast V g f a0 a1).bind fun v1 =>
  (if v1 = (0 : Int32) then
    some ((1 : Int32), f)
  else
    (p_X8_count V g f a0 a1).bind fun v3 =>
    (p_X8_fewest V g f a0 a1).bind fun v4 =>
    (if v4 ≤ ((v3 + (1 : Int32)) / (2 : Int32)) then
      (h_gr f a0 10 5).bind fun v6 =>
      (h_li f v6 0 (4 : Int32)).bind fun v7 =>
      (p_X8_count V g f a0 a1).bind fun v8 =>
      (h_si f v6 0 (4 : Int32) (v7 + (v8 - ((v3 + (1 : Int32)) / (2 : Int32))))).bind fun f9 =>
      p_X8_doUnfold_l49 V g (fun x0 x1 x2 f =>
        (h_gr f x0 10 5).bind fun v14 =>
        (p_X8_at V g f x1).bind fun v15 =>
        (h_si f v14 0 (v15 + (1 : Int32)) x2).bind fun f16 =>
        some ((0 : Int32), f16)) FU a0 a1 ((v3 + (1 : Int32)) / (2 : Int32)) (0 : Int32) f9
    else
      some ((2 : Int32), f)))
def p_X8_doMove (V : Nat → Nat) (g f : GH) (a0 : Nat) (a1 : Int32) (a2 : Int32) (a3 : Int32) (a4 : Int32) : Option (Int32 × GH) :=
  h_me f a0 10 <|
  (p_X8_isPoint V g f a0 a1 a2).bind fun v1 =>
  (if v1 = (0 : Int32) then
    some ((1 : Int32), f)
  else
    (p_X8_layPoint V g f a0 a1 a2 a3 a4).bind fun v3 =>
    some ((0 : Int32), v3))
def p_X8_doInsert_l43 (V : Nat → Nat) (g : GH) (K80 : Nat → Int32 → Int32 → Int32 → Int32 → GH → Option (Int32 × GH)) : Nat → Nat → Int32 → Int32 → Int32 → Int32 → Int32 → GH → Option (Int32 × GH)
  | 0, _, _, _, _, _, _, _ => none
  | N + 1, x0, x1, x2, x3, x4, x5, f =>
    (if x5 ≤ x2 then
      K80 x0 x1 x2 x3 x4 f
    else
      (p_X8_x V g f x0 x1 (x5 - (1 : Int32))).bind fun v10 =>
      (p_X8_y V g f x0 x1 (x5 - (1 : Int32))).bind fun v11 =>
      (p_X8_layPoint V g f x0 x1 x5 v10 v11).bind fun v12 =>
      p_X8_doInsert_l43 V g K80 N x0 x1 x2 x3 x4 (x5 + (-1 : Int32)) v12)
def p_X8_doInsert (V : Nat → Nat) (g f : GH) (a0 : Nat) (a1 : Int32) (a2 : Int32) (a3 : Int32) (a4 : Int32) : Option (Int32 × GH) :=
  h_me f a0 10 <|
  (p_X8_isCoast V g f a0 a1).bind fun v1 =>
  (if v1 = (0 : Int32) then
    some ((1 : Int32), f)
  else
    (p_X8_count V g f a0 a1).bind fun v3 =>
    (p_X8_inRange V g f a2 (0 : Int32) v3).bind fun v4 =>
    (if v4 = (0 : Int32) then
      some ((1 : Int32), f)
    else
      (p_X8_count V g f a0 a1).bind fun v6 =>
      (if v6 = (129 : Int32) then
        some ((3 : Int32), f)
      else
        (p_X8_count V g f a0 a1).bind fun v8 =>
        p_X8_doInsert_l43 V g (fun x0 x1 x2 x3 x4 f =>
          (p_X8_layPoint V g f x0 x1 x2 x3 x4).bind fun v13 =>
          (h_gr v13 x0 10 5).bind fun v14 =>
          (p_X8_at V g v13 x1).bind fun v15 =>
          (h_li v13 v14 0 (v15 + (1 : Int32))).bind fun v16 =>
          (h_si v13 v14 0 (v15 + (1 : Int32)) (v16 + (1 : Int32))).bind fun f17 =>
          (h_gr f17 x0 10 5).bind fun v18 =>
          (h_li f17 v18 0 (3 : Int32)).bind fun v19 =>
          (h_si f17 v18 0 (3 : Int32) (v19 + (1 : Int32))).bind fun f20 =>
          some ((0 : Int32), f20)) FU a0 a1 a2 a3 a4 v8 f)))
def p_X8_doCut (V : Nat → Nat) (g f : GH) (a0 : Nat) (a1 : Int32) (a2 : Int32) : Option (Int32 × GH) :=
  h_me f a0 10 <|
  (p_X8_isPoint V g f a0 a1 a2).bind fun v1 =>
  (if v1 = (0 : Int32) then
    some ((1 : Int32), f)
  else
    (p_X8_count V g f a0 a1).bind fun v3 =>
    (p_X8_fewest V g f a0 a1).bind fun v4 =>
    (if v3 = v4 then
      some ((2 : Int32), f)
    else
      (p_X8_cut V g f a0 a1 a2).bind fun v6 =>
      (h_gr v6 a0 10 5).bind fun v7 =>
      (h_li v6 v7 0 (4 : Int32)).bind fun v8 =>
      (h_si v6 v7 0 (4 : Int32) (v8 + (1 : Int32))).bind fun f9 =>
      some ((0 : Int32), f9)))
def p_X8_doShift_l13 (V : Nat → Nat) (g : GH) (K47 : GH → Option (Int32 × GH)) (K55 : Nat → Int32 → Int32 → Int32 → GH → Option (Int32 × GH)) : Nat → Nat → Int32 → Int32 → Int32 → Int32 → GH → Option (Int32 × GH)
  | 0, _, _, _, _, _, _ => none
  | N + 1, x0, x1, x2, x3, x4, f =>
    (p_X8_count V g f x0 x1).bind fun v3 =>
    (if v3 ≤ x4 then
      K55 x0 x1 x2 x3 f
    else
      (p_X8_x V g f x0 x1 x4).bind fun v5 =>
      (p_X8_y V g f x0 x1 x4).bind fun v6 =>
      (p_X8_isPosition V g f (v5 + x2) (v6 + x3)).bind fun v7 =>
      (if v7 = (0 : Int32) then
        K47 f
      else
        p_X8_doShift_l13 V g K47 K55 N x0 x1 x2 x3 (x4 + (1 : Int32)) f))
def p_X8_doShift_l58 (V : Nat → Nat) (g : GH) (K99 : GH → Option (Int32 × GH)) : Nat → Nat → Int32 → Int32 → Int32 → Int32 → GH → Option (Int32 × GH)
  | 0, _, _, _, _, _, _ => none
  | N + 1, x0, x1, x2, x3, x4, f =>
    (p_X8_count V g f x0 x1).bind fun v9 =>
    (if v9 ≤ x4 then
      K99 f
    else
      (p_X8_x V g f x0 x1 x4).bind fun v11 =>
      (p_X8_y V g f x0 x1 x4).bind fun v12 =>
      (p_X8_layPoint V g f x0 x1 x4 (v11 + x2) (v12 + x3)).bind fun v13 =>
      p_X8_doShift_l58 V g K99 N x0 x1 x2 x3 (x4 + (1 : Int32)) v13)
def p_X8_doShift (V : Nat → Nat) (g f : GH) (a0 : Nat) (a1 : Int32) (a2 : Int32) (a3 : Int32) : Option (Int32 × GH) :=
  h_me f a0 10 <|
  (p_X8_isCoast V g f a0 a1).bind fun v1 =>
  (if v1 = (0 : Int32) then
    some ((1 : Int32), f)
  else
    p_X8_doShift_l13 V g (fun f =>
      some ((3 : Int32), f)) (fun x0 x1 x2 x3 f =>
      p_X8_doShift_l58 V g (fun f =>
        some ((0 : Int32), f)) FU x0 x1 x2 x3 (0 : Int32) f) FU a0 a1 a2 a3 (0 : Int32) f)
def p_X8_doReverse_l19 (V : Nat → Nat) (g : GH) (K64 : GH → Option (Int32 × GH)) : Nat → Nat → Int32 → Int32 → GH → Option (Int32 × GH)
  | 0, _, _, _, _ => none
  | N + 1, x0, x1, x2, f =>
    (p_X8_count V g f x0 x1).bind fun v4 =>
    (if v4 ≤ x2 then
      K64 f
    else
      (p_X8_count V g f x0 x1).bind fun v6 =>
      (p_X8_x V g f x0 (6 : Int32) ((v6 - (1 : Int32)) - x2)).bind fun v7 =>
      (p_X8_y V g f x0 (6 : Int32) ((v6 - (1 : Int32)) - x2)).bind fun v8 =>
      (p_X8_layPoint V g f x0 x1 x2 v7 v8).bind fun v9 =>
      p_X8_doReverse_l19 V g K64 N x0 x1 (x2 + (1 : Int32)) v9)
def p_X8_doReverse (V : Nat → Nat) (g f : GH) (a0 : Nat) (a1 : Int32) : Option (Int32 × GH) :=
  h_me f a0 10 <|
  (p_X8_isCoast V g f a0 a1).bind fun v1 =>
  (if v1 = (0 : Int32) then
    some ((1 : Int32), f)
  else
    (p_X8_copyCoast V g f a0 a1 (6 : Int32)).bind fun v3 =>
    p_X8_doReverse_l19 V g (fun f =>
      some ((0 : Int32), f)) FU a0 a1 (0 : Int32) v3)
def p_X8_copy (V : Nat → Nat) (g f : GH) (a0 : Nat) (a1 : Int32) (a2 : Nat) (a3 : Int32) : Option GH :=
  (h_cp f 0 a0 ((1825 : Int32) * a1) a2 ((1825 : Int32) * a3) (1825 : Int32)).bind fun f1 =>
  some f1
def p_X8_keep (V : Nat → Nat) (g f : GH) (a0 : Nat) : Option GH :=
  h_me f a0 10 <|
  (h_gr f a0 10 0).bind fun v1 =>
  (h_gr f a0 10 2).bind fun v2 =>
  (p_X8_copy V g f v1 (0 : Int32) v2 (0 : Int32)).bind fun v3 =>
  some v3
def p_X8_record_j48 (V : Nat → Nat) (g : GH) (x0 : Nat) (f : GH) : Option GH :=
  (h_gr f x0 10 2).bind fun v2 =>
  (h_gr f x0 10 4).bind fun v3 =>
  (h_gi f x0 10 6).bind fun v4 =>
  (p_X8_copy V g f v2 (0 : Int32) v3 v4).bind fun v5 =>
  (h_gi v5 x0 10 6).bind fun v6 =>
  (h_pt v5 x0 10 6 (.int (v6 + (1 : Int32)))).bind fun f7 =>
  some f7
def p_X8_record_l11 (V : Nat → Nat) (g : GH) (K38 : Nat → GH → Option GH) : Nat → Nat → Int32 → GH → Option GH
  | 0, _, _, _ => none
  | N + 1, x0, x1, f =>
    (if (8 : Int32) ≤ x1 then
      K38 x0 f
    else
      (h_gr f x0 10 4).bind fun v10 =>
      (h_gr f x0 10 4).bind fun v11 =>
      (p_X8_copy V g f v10 x1 v11 (x1 - (1 : Int32))).bind fun v12 =>
      p_X8_record_l11 V g K38 N x0 (x1 + (1 : Int32)) v12)
def p_X8_record (V : Nat → Nat) (g f : GH) (a0 : Nat) : Option GH :=
  h_me f a0 10 <|
  (h_gi f a0 10 6).bind fun v1 =>
  (if v1 = (8 : Int32) then
    p_X8_record_l11 V g (fun x0 f =>
      (h_gi f x0 10 6).bind fun v13 =>
      (h_pt f x0 10 6 (.int (v13 - (1 : Int32)))).bind fun f14 =>
      p_X8_record_j48 V g x0 f14) FU a0 (1 : Int32) f
  else
    p_X8_record_j48 V g a0 f)
def p_X8_fails (V : Nat → Nat) (g f : GH) (a0 : Nat) (a1 : Int32) : Option (Int32 × GH) :=
  h_me f a0 10 <|
  (h_pt f a0 10 7 (.int a1)).bind fun f1 =>
  (if a1 = (0 : Int32) then
    (p_X8_record V g f1 a0).bind fun v4 =>
    (if a1 = (0 : Int32) then
      some ((0 : Int32), v4)
    else
      some ((1 : Int32), v4))
  else
    (if a1 = (0 : Int32) then
      some ((0 : Int32), f1)
    else
      some ((1 : Int32), f1)))
def p_X8_removeCoast_j21 (V : Nat → Nat) (g : GH) (x0 : Nat) (x1 : Int32) (t0 : Int32) (f : GH) : Option (Int32 × GH) :=
  (p_X8_doRemove V g f x0 x1).bind fun v3 =>
  (p_X8_fails V g v3.2 x0 v3.1).bind fun v4 =>
  (if v4.1 = (0 : Int32) then
    some (t0, v4.2)
  else
    some ((0 : Int32), v4.2))
def p_X8_removeCoast (V : Nat → Nat) (g f : GH) (a0 : Nat) (a1 : Int32) : Option (Int32 × GH) :=
  h_me f a0 10 <|
  (p_X8_keep V g f a0).bind fun v1 =>
  (p_X8_isCoast V g v1 a0 a1).bind fun v2 =>
  (if v2 = (0 : Int32) then
    p_X8_removeCoast_j21 V g a0 a1 (0 : Int32) v1
  else
    (p_X8_count V g v1 a0 a1).bind fun v7 =>
    p_X8_removeCoast_j21 V g a0 a1 v7 v1)
def p_X8_fold (V : Nat → Nat) (g f : GH) (a0 : Nat) (a1 : Int32) (a2 : Int32) : Option (Int32 × GH) :=
  h_me f a0 10 <|
  (p_X8_isCoast V g f a0 a1).bind fun v1 =>
  (p_X8_isHeight V g f a2).bind fun v2 =>
  (p_X8_lacksBoth V g f a0 v1 v2).bind fun v3 =>
  (if v3.1 = (0 : Int32) then
    (p_X8_keep V g v3.2 a0).bind fun v5 =>
    (p_X8_doFold V g v5 a0 a1 a2).bind fun v6 =>
    (p_X8_fails V g v6.2 a0 v6.1).bind fun v7 =>
    (if v7.1 = (0 : Int32) then
      (p_X8_count V g v7.2 a0 a1).bind fun v9 =>
      some (v9, v7.2)
    else
      some ((0 : Int32), v7.2))
  else
    some ((0 : Int32), v3.2))
def p_X8_unfold (V : Nat → Nat) (g f : GH) (a0 : Nat) (a1 : Int32) : Option (Int32 × GH) :=
  h_me f a0 10 <|
  (p_X8_keep V g f a0).bind fun v1 =>
  (p_X8_doUnfold V g v1 a0 a1).bind fun v2 =>
  (p_X8_fails V g v2.2 a0 v2.1).bind fun v3 =>
  (if v3.1 = (0 : Int32) then
    (p_X8_count V g v3.2 a0 a1).bind fun v5 =>
    some (v5, v3.2)
  else
    some ((0 : Int32), v3.2))
def p_X8_movePoint (V : Nat → Nat) (g f : GH) (a0 : Nat) (a1 : Int32) (a2 : Int32) (a3 : Int32) (a4 : Int32) : Option (Int32 × GH) :=
  h_me f a0 10 <|
  (p_X8_isPoint V g f a0 a1 a2).bind fun v1 =>
  (p_X8_isPosition V g f a3 a4).bind fun v2 =>
  (p_X8_lacksBoth V g f a0 v1 v2).bind fun v3 =>
  (if v3.1 = (0 : Int32) then
    (p_X8_keep V g v3.2 a0).bind fun v5 =>
    (p_X8_x V g v5 a0 a1 a2).bind fun v6 =>
    (p_X8_y V g v5 a0 a1 a2).bind fun v7 =>
    (p_X8_isKing V g v5 a0).bind fun v8 =>
    (p_X8_measure V g v5 (v6 - a3) (v7 - a4) v8).bind fun v9 =>
    (p_X8_doMove V g v5 a0 a1 a2 a3 a4).bind fun v10 =>
    (p_X8_fails V g v10.2 a0 v10.1).bind fun v11 =>
    (if v11.1 = (0 : Int32) then
      some (v9, v11.2)
    else
      some ((0 : Int32), v11.2))
  else
    some ((0 : Int32), v3.2))
def p_X8_insertPoint_j27 (V : Nat → Nat) (g : GH) (x0 : Nat) (x1 : Int32) (x2 : Int32) (x3 : Int32) (x4 : Int32) (t0 : Int32) (t1 : Nat) (f : GH) : Option (Int32 × GH) :=
  (p_X8_isPosition V g f x3 x4).bind fun v2 =>
  (p_X8_lacksBoth V g f t1 t0 v2).bind fun v3 =>
  (if v3.1 = (0 : Int32) then
    (p_X8_keep V g v3.2 x0).bind fun v5 =>
    (p_X8_doInsert V g v5 x0 x1 x2 x3 x4).bind fun v6 =>
    (p_X8_fails V g v6.2 x0 v6.1).bind fun v7 =>
    (if v7.1 = (0 : Int32) then
      (p_X8_count V g v7.2 x0 x1).bind fun v9 =>
      some (v9, v7.2)
    else
      some ((0 : Int32), v7.2))
  else
    some ((0 : Int32), v3.2))
def p_X8_insertPoint_j26 (V : Nat → Nat) (g : GH) (K27 : Nat → Int32 → Int32 → Int32 → Int32 → Int32 → Nat → GH → Option (Int32 × GH)) (x0 : Nat) (x1 : Int32) (x2 : Int32) (x3 : Int32) (x4 : Int32) (t0 : Nat) (f : GH) : Option (Int32 × GH) :=
  K27 x0 x1 x2 x3 x4 (0 : Int32) t0 f
def p_X8_insertPoint (V : Nat → Nat) (g f : GH) (a0 : Nat) (a1 : Int32) (a2 : Int32) (a3 : Int32) (a4 : Int32) : Option (Int32 × GH) :=
  h_me f a0 10 <|
  (p_X8_isCoast V g f a0 a1).bind fun v1 =>
  (if v1 = (0 : Int32) then
    p_X8_insertPoint_j26 V g (p_X8_insertPoint_j27 V g) a0 a1 a2 a3 a4 a0 f
  else
    (p_X8_count V g f a0 a1).bind fun v11 =>
    (p_X8_inRange V g f a2 (0 : Int32) v11).bind fun v12 =>
    (if v12 = (0 : Int32) then
      p_X8_insertPoint_j26 V g (p_X8_insertPoint_j27 V g) a0 a1 a2 a3 a4 a0 f
    else
      p_X8_insertPoint_j27 V g a0 a1 a2 a3 a4 (1 : Int32) a0 f))
def p_X8_removePoint (V : Nat → Nat) (g f : GH) (a0 : Nat) (a1 : Int32) (a2 : Int32) : Option (Int32 × GH) :=
  h_me f a0 10 <|
  (p_X8_keep V g f a0).bind fun v1 =>
  (p_X8_doCut V g v1 a0 a1 a2).bind fun v2 =>
  (p_X8_fails V g v2.2 a0 v2.1).bind fun v3 =>
  (if v3.1 = (0 : Int32) then
    (p_X8_count V g v3.2 a0 a1).bind fun v5 =>
    some (v5, v3.2)
  else
    some ((0 : Int32), v3.2))
def p_X8_isShift (V : Nat → Nat) (g f : GH) (a0 : Int32) : Option Int32 :=
  (p_X8_inRange V g f a0 (-2000 : Int32) (2000 : Int32)).bind fun v1 =>
  (h_bz v1).bind fun _ =>
  some v1
def p_X8_shift_j25 (V : Nat → Nat) (g : GH) (x0 : Nat) (x1 : Int32) (x2 : Int32) (x3 : Int32) (t0 : Int32) (t1 : Int32) (t2 : Nat) (f : GH) : Option (Int32 × GH) :=
  (p_X8_lacksBoth V g f t2 t1 t0).bind fun v3 =>
  (if v3.1 = (0 : Int32) then
    (p_X8_keep V g v3.2 x0).bind fun v5 =>
    (p_X8_doShift V g v5 x0 x1 x2 x3).bind fun v6 =>
    (p_X8_fails V g v6.2 x0 v6.1).bind fun v7 =>
    (if v7.1 = (0 : Int32) then
      (p_X8_count V g v7.2 x0 x1).bind fun v9 =>
      some (v9, v7.2)
    else
      some ((0 : Int32), v7.2))
  else
    some ((0 : Int32), v3.2))
def p_X8_shift_j24 (V : Nat → Nat) (g : GH) (K25 : Nat → Int32 → Int32 → Int32 → Int32 → Int32 → Nat → GH → Option (Int32 × GH)) (x0 : Nat) (x1 : Int32) (x2 : Int32) (x3 : Int32) (t0 : Int32) (t1 : Nat) (f : GH) : Option (Int32 × GH) :=
  K25 x0 x1 x2 x3 (0 : Int32) t0 t1 f
def p_X8_shift (V : Nat → Nat) (g f : GH) (a0 : Nat) (a1 : Int32) (a2 : Int32) (a3 : Int32) : Option (Int32 × GH) :=
  h_me f a0 10 <|
  (p_X8_isCoast V g f a0 a1).bind fun v1 =>
  (p_X8_isShift V g f a2).bind fun v2 =>
  (if v2 = (0 : Int32) then
    p_X8_shift_j24 V g (p_X8_shift_j25 V g) a0 a1 a2 a3 v1 a0 f
  else
    (p_X8_isShift V g f a3).bind fun v11 =>
    (if v11 = (0 : Int32) then
      p_X8_shift_j24 V g (p_X8_shift_j25 V g) a0 a1 a2 a3 v1 a0 f
    else
      p_X8_shift_j25 V g a0 a1 a2 a3 (1 : Int32) v1 a0 f))
def p_X8_reverse (V : Nat → Nat) (g f : GH) (a0 : Nat) (a1 : Int32) : Option (Int32 × GH) :=
  h_me f a0 10 <|
  (p_X8_keep V g f a0).bind fun v1 =>
  (p_X8_doReverse V g v1 a0 a1).bind fun v2 =>
  (p_X8_fails V g v2.2 a0 v2.1).bind fun v3 =>
  (if v3.1 = (0 : Int32) then
    (p_X8_count V g v3.2 a0 a1).bind fun v5 =>
    some (v5, v3.2)
  else
    some ((0 : Int32), v3.2))
def p_X8_setMetric (V : Nat → Nat) (g f : GH) (a0 : Nat) (a1 : Int32) : Option GH :=
  h_me f a0 10 <|
  (h_gr f a0 10 5).bind fun v1 =>
  (if a1 = (0 : Int32) then
    (h_si f v1 0 (0 : Int32) (0 : Int32)).bind fun f3 =>
    some f3
  else
    (h_si f v1 0 (0 : Int32) (1 : Int32)).bind fun f4 =>
    some f4)
def p_X8_setKingMetric (V : Nat → Nat) (g f : GH) (a0 : Nat) (a1 : Int32) : Option (Int32 × GH) :=
  h_me f a0 10 <|
  (h_pt f a0 10 7 (.int (0 : Int32))).bind fun f1 =>
  (p_X8_isKing V g f1 a0).bind fun v2 =>
  (p_X8_keep V g f1 a0).bind fun v3 =>
  (p_X8_setMetric V g v3 a0 a1).bind fun v4 =>
  (p_X8_record V g v4 a0).bind fun v5 =>
  (h_bz v2).bind fun _ =>
  some (v2, v5)
def p_X8_write (V : Nat → Nat) (g f : GH) (a0 : Nat) (a1 : Int32) : Option GH :=
  h_me f a0 10 <|
  (h_gr f a0 10 10).bind fun v1 =>
  (h_gi f a0 10 11).bind fun v2 =>
  (h_si f v1 0 v2 a1).bind fun f3 =>
  (h_gi f3 a0 10 11).bind fun v4 =>
  (h_pt f3 a0 10 11 (.int (v4 + (1 : Int32)))).bind fun f5 =>
  some f5
def p_X8_writeNumber_l2 (V : Nat → Nat) (g : GH) (K18 : Nat → Int32 → Int32 → GH → Option GH) : Nat → Nat → Int32 → Int32 → GH → Option GH
  | 0, _, _, _, _ => none
  | N + 1, x0, x1, x2, f =>
    (h_dv x2).bind fun _ =>
    (if (x1 / x2) ≤ (9 : Int32) then
      K18 x0 x1 x2 f
    else
      p_X8_writeNumber_l2 V g K18 N x0 x1 (x2 * (10 : Int32)) f)
def p_X8_writeNumber_l20 (V : Nat → Nat) (g : GH) (K45 : GH → Option GH) : Nat → Nat → Int32 → Int32 → GH → Option GH
  | 0, _, _, _, _ => none
  | N + 1, x0, x1, x3, f =>
    (if x3 ≤ (0 : Int32) then
      K45 f
    else
      (h_dv x3).bind fun _ =>
      (p_X8_write V g f x0 ((48 : Int32) + ((x1 / x3) - (x1 / x3) / (10 : Int32) * (10 : Int32)))).bind fun v5 =>
      p_X8_writeNumber_l20 V g K45 N x0 x1 (x3 / (10 : Int32)) v5)
def p_X8_writeNumber (V : Nat → Nat) (g f : GH) (a0 : Nat) (a1 : Int32) : Option GH :=
  h_me f a0 10 <|
  p_X8_writeNumber_l2 V g (fun x0 x1 x2 f =>
    p_X8_writeNumber_l20 V g (fun f =>
      some f) FU x0 x1 x2 f) FU a0 a1 (1 : Int32) f
def p_X8_isLastLevel (V : Nat → Nat) (g f : GH) (a0 : Nat) (a1 : Int32) (a2 : Int32) : Option Int32 :=
  h_me f a0 10 <|
  (if a2 = (7 : Int32) then
    some (1 : Int32)
  else
    (p_X8_sticks V g f a0 a1 a2).bind fun v2 =>
    (p_X8_island V g f a0 a1).bind fun v3 =>
    (if v3 = (0 : Int32) then
      (if (1 : Int32) < v2 then
        some (0 : Int32)
      else
        some (1 : Int32))
    else
      (if (2 : Int32) < v2 then
        some (0 : Int32)
      else
        some (1 : Int32))))
def p_X8_writeLengths_l31 (V : Nat → Nat) (g : GH) (K64 : Nat → GH → Option (Int32 × GH)) : Nat → Nat → Int32 → Int32 → GH → Option (Int32 × GH)
  | 0, _, _, _, _ => none
  | N + 1, x0, x1, x2, f =>
    (p_X8_isLastLevel V g f x0 x1 (x2 - (1 : Int32))).bind fun v7 =>
    (if v7 = (0 : Int32) then
      (p_X8_write V g f x0 (32 : Int32)).bind fun v9 =>
      (p_X8_lengthNow V g v9 x0 x1 x2).bind fun v10 =>
      (p_X8_writeNumber V g v9 x0 v10).bind fun v11 =>
      p_X8_writeLengths_l31 V g K64 N x0 x1 (x2 + (1 : Int32)) v11
    else
      K64 x0 f)
def p_X8_writeLengths (V : Nat → Nat) (g f : GH) (a0 : Nat) (a1 : Int32) : Option (Int32 × GH) :=
  h_me f a0 10 <|
  (p_X8_isCoast V g f a0 a1).bind fun v1 =>
  (p_X8_lacks V g f a0 v1).bind fun v2 =>
  (if v2.1 = (0 : Int32) then
    (h_pt v2.2 a0 10 11 (.int (0 : Int32))).bind fun f4 =>
    (p_X8_lengthNow V g f4 a0 a1 (0 : Int32)).bind fun v5 =>
    (p_X8_writeNumber V g f4 a0 v5).bind fun v6 =>
    p_X8_writeLengths_l31 V g (fun x0 f =>
      (h_gi f x0 10 11).bind fun v12 =>
      some (v12, f)) FU a0 a1 (1 : Int32) v6
  else
    some ((0 : Int32), v2.2))
def p_X8_outputByte (V : Nat → Nat) (g f : GH) (a0 : Nat) (a1 : Int32) : Option (Int32 × GH) :=
  h_me f a0 10 <|
  (h_gi f a0 10 11).bind fun v1 =>
  (p_X8_inRange V g f a1 (0 : Int32) (v1 - (1 : Int32))).bind fun v2 =>
  (p_X8_lacks V g f a0 v2).bind fun v3 =>
  (if v3.1 = (0 : Int32) then
    (h_gr v3.2 a0 10 10).bind fun v5 =>
    (h_li v3.2 v5 0 a1).bind fun v6 =>
    some (v6, v3.2)
  else
    some ((0 : Int32), v3.2))
def p_X8_undoableCount (V : Nat → Nat) (g f : GH) (a0 : Nat) : Option (Int32 × GH) :=
  h_me f a0 10 <|
  (h_pt f a0 10 7 (.int (0 : Int32))).bind fun f1 =>
  (h_gi f1 a0 10 6).bind fun v2 =>
  some (v2, f1)
def p_X8_undo_j13 (V : Nat → Nat) (g : GH) (x0 : Nat) (t0 : Int32) (t1 : Nat) (f : GH) : Option (Int32 × GH) :=
  (p_X8_lacks V g f t1 t0).bind fun v2 =>
  (if v2.1 = (0 : Int32) then
    (h_gi v2.2 x0 10 6).bind fun v4 =>
    (h_pt v2.2 x0 10 6 (.int (v4 - (1 : Int32)))).bind fun f5 =>
    (h_gr f5 x0 10 4).bind fun v6 =>
    (h_gi f5 x0 10 6).bind fun v7 =>
    (h_gr f5 x0 10 0).bind fun v8 =>
    (p_X8_copy V g f5 v6 v7 v8 (0 : Int32)).bind fun v9 =>
    (h_gi v9 x0 10 6).bind fun v10 =>
    some (v10, v9)
  else
    some ((0 : Int32), v2.2))
def p_X8_undo (V : Nat → Nat) (g f : GH) (a0 : Nat) : Option (Int32 × GH) :=
  h_me f a0 10 <|
  (h_gi f a0 10 6).bind fun v1 =>
  (if v1 ≤ (0 : Int32) then
    p_X8_undo_j13 V g a0 (0 : Int32) a0 f
  else
    p_X8_undo_j13 V g a0 (1 : Int32) a0 f)
def p_X8_saveSnapshot (V : Nat → Nat) (g f : GH) (a0 : Nat) : Option GH :=
  h_me f a0 10 <|
  (h_pt f a0 10 7 (.int (0 : Int32))).bind fun f1 =>
  (h_gr f1 a0 10 0).bind fun v2 =>
  (h_gr f1 a0 10 3).bind fun v3 =>
  (p_X8_copy V g f1 v2 (0 : Int32) v3 (0 : Int32)).bind fun v4 =>
  (h_pt v4 a0 10 9 (.int (1 : Int32))).bind fun f5 =>
  some f5
def p_X8_restoreSnapshot (V : Nat → Nat) (g f : GH) (a0 : Nat) : Option (Int32 × GH) :=
  h_me f a0 10 <|
  (h_gi f a0 10 9).bind fun v1 =>
  (p_X8_lacks V g f a0 v1).bind fun v2 =>
  (if v2.1 = (0 : Int32) then
    (h_gr v2.2 a0 10 3).bind fun v4 =>
    (h_gr v2.2 a0 10 0).bind fun v5 =>
    (p_X8_copy V g v2.2 v4 (0 : Int32) v5 (0 : Int32)).bind fun v6 =>
    (h_pt v6 a0 10 6 (.int (0 : Int32))).bind fun f7 =>
    (h_gr f7 a0 10 5).bind fun v8 =>
    (h_li f7 v8 0 (1 : Int32)).bind fun v9 =>
    some (v9, f7)
  else
    some ((0 : Int32), v2.2))
def p_X8_appendText_j76 (V : Nat → Nat) (g : GH) (K23 : Nat → Int32 → Int32 → Int32 → Int32 → Int32 → Int32 → GH → Option (Int32 × GH)) (x0 : Nat) (x1 : Int32) (x2 : Int32) (x3 : Int32) (x4 : Int32) (x5 : Int32) (x6 : Int32) (t0 : Int32) (f : GH) : Option (Int32 × GH) :=
  (h_gr f x0 10 12).bind fun v5 =>
  (h_gi f x0 10 13).bind fun v6 =>
  (h_si f v5 0 v6 ((t0 >>> (((24 : Int32) - ((8 : Int32) * (x6 - x6 / (4 : Int32) * (4 : Int32)))) &&& 31)) &&& (255 : Int32))).bind fun f7 =>
  (h_gi f7 x0 10 13).bind fun v8 =>
  (h_pt f7 x0 10 13 (.int (v8 + (1 : Int32)))).bind fun f9 =>
  K23 x0 x1 x2 x3 x4 x5 (x6 + (1 : Int32)) f9
def p_X8_appendText_l23 (V : Nat → Nat) (g : GH) (K120 : Nat → GH → Option (Int32 × GH)) : Nat → Nat → Int32 → Int32 → Int32 → Int32 → Int32 → Int32 → GH → Option (Int32 × GH)
  | 0, _, _, _, _, _, _, _, _ => none
  | N + 1, x0, x1, x2, x3, x4, x5, x6, f =>
    (if (20 : Int32) ≤ x6 then
      K120 x0 f
    else
      (if (4 : Int32) ≤ x6 then
        (if (8 : Int32) ≤ x6 then
          (if (12 : Int32) ≤ x6 then
            (if (16 : Int32) ≤ x6 then
              p_X8_appendText_j76 V g (p_X8_appendText_l23 V g K120 N) x0 x1 x2 x3 x4 x5 x6 x5 f
            else
              p_X8_appendText_j76 V g (p_X8_appendText_l23 V g K120 N) x0 x1 x2 x3 x4 x5 x6 x4 f)
          else
            p_X8_appendText_j76 V g (p_X8_appendText_l23 V g K120 N) x0 x1 x2 x3 x4 x5 x6 x3 f)
        else
          p_X8_appendText_j76 V g (p_X8_appendText_l23 V g K120 N) x0 x1 x2 x3 x4 x5 x6 x2 f)
      else
        p_X8_appendText_j76 V g (p_X8_appendText_l23 V g K120 N) x0 x1 x2 x3 x4 x5 x6 x1 f))
def p_X8_appendText (V : Nat → Nat) (g f : GH) (a0 : Nat) (a1 : Int32) (a2 : Int32) (a3 : Int32) (a4 : Int32) (a5 : Int32) : Option (Int32 × GH) :=
  h_me f a0 10 <|
  (h_pt f a0 10 7 (.int (0 : Int32))).bind fun f1 =>
  (h_gi f1 a0 10 13).bind fun v2 =>
  (if (v2 + (20 : Int32)) ≤ (700 : Int32) then
    p_X8_appendText_l23 V g (fun x0 f =>
      (h_gi f x0 10 13).bind fun v14 =>
      some (v14, f)) FU a0 a1 a2 a3 a4 a5 (0 : Int32) f1
  else
    some ((-1 : Int32), f1))
def p_X8_errorOffset (V : Nat → Nat) (g f : GH) (a0 : Nat) : Option (Int32 × GH) :=
  h_me f a0 10 <|
  (h_pt f a0 10 7 (.int (0 : Int32))).bind fun f1 =>
  (h_gi f1 a0 10 20).bind fun v2 =>
  some (v2, f1)
def p_X8_byteAt (V : Nat → Nat) (g f : GH) (a0 : Nat) (a1 : Int32) : Option Int32 :=
  h_me f a0 10 <|
  (h_gi f a0 10 14).bind fun v1 =>
  (if v1 ≤ a1 then
    some (-1 : Int32)
  else
    (h_gr f a0 10 12).bind fun v3 =>
    (h_li f v3 0 a1).bind fun v4 =>
    some v4)
def p_X8_isLetter (V : Nat → Nat) (g f : GH) (a0 : Nat) (a1 : Int32) : Option Int32 :=
  h_me f a0 10 <|
  (p_X8_byteAt V g f a0 a1).bind fun v1 =>
  (if v1 < (97 : Int32) then
    some (0 : Int32)
  else
    (p_X8_byteAt V g f a0 a1).bind fun v3 =>
    (if (122 : Int32) < v3 then
      some (0 : Int32)
    else
      some (1 : Int32)))
def p_X8_isDigit (V : Nat → Nat) (g f : GH) (a0 : Nat) (a1 : Int32) : Option Int32 :=
  h_me f a0 10 <|
  (p_X8_byteAt V g f a0 a1).bind fun v1 =>
  (if v1 < (48 : Int32) then
    some (0 : Int32)
  else
    (p_X8_byteAt V g f a0 a1).bind fun v3 =>
    (if (57 : Int32) < v3 then
      some (0 : Int32)
    else
      some (1 : Int32)))
def p_X8_scan_l0 (V : Nat → Nat) (g : GH) (K39 : Nat → GH → Option GH) : Nat → Nat → GH → Option GH
  | 0, _, _ => none
  | N + 1, x0, f =>
    (h_gi f x0 10 15).bind fun v1 =>
    (p_X8_byteAt V g f x0 v1).bind fun v2 =>
    (if v2 = (32 : Int32) then
      (h_gi f x0 10 15).bind fun v4 =>
      (h_pt f x0 10 15 (.int (v4 + (1 : Int32)))).bind fun f5 =>
      p_X8_scan_l0 V g K39 N x0 f5
    else
      (h_gi f x0 10 15).bind fun v6 =>
      (p_X8_byteAt V g f x0 v6).bind fun v7 =>
      (if v7 = (10 : Int32) then
        (h_gi f x0 10 15).bind fun v9 =>
        (h_pt f x0 10 15 (.int (v9 + (1 : Int32)))).bind fun f10 =>
        p_X8_scan_l0 V g K39 N x0 f10
      else
        K39 x0 f))
def p_X8_scan_l120 (V : Nat → Nat) (g : GH) (K144 : Nat → GH → Option GH) : Nat → Nat → GH → Option GH
  | 0, _, _ => none
  | N + 1, x0, f =>
    (h_gi f x0 10 15).bind fun v25 =>
    (p_X8_isDigit V g f x0 v25).bind fun v26 =>
    (if v26 = (0 : Int32) then
      K144 x0 f
    else
      (h_gi f x0 10 15).bind fun v28 =>
      (h_pt f x0 10 15 (.int (v28 + (1 : Int32)))).bind fun f29 =>
      p_X8_scan_l120 V g K144 N x0 f29)
def p_X8_scan_l77 (V : Nat → Nat) (g : GH) (K101 : Nat → GH → Option GH) : Nat → Nat → GH → Option GH
  | 0, _, _ => none
  | N + 1, x0, f =>
    (h_gi f x0 10 15).bind fun v31 =>
    (p_X8_isLetter V g f x0 v31).bind fun v32 =>
    (if v32 = (0 : Int32) then
      K101 x0 f
    else
      (h_gi f x0 10 15).bind fun v34 =>
      (h_pt f x0 10 15 (.int (v34 + (1 : Int32)))).bind fun f35 =>
      p_X8_scan_l77 V g K101 N x0 f35)
def p_X8_scan (V : Nat → Nat) (g f : GH) (a0 : Nat) : Option GH :=
  h_me f a0 10 <|
  p_X8_scan_l0 V g (fun x0 f =>
    (h_gi f x0 10 15).bind fun v11 =>
    (h_pt f x0 10 16 (.int v11)).bind fun f12 =>
    (h_gi f12 x0 10 15).bind fun v13 =>
    (h_gi f12 x0 10 14).bind fun v14 =>
    (if v13 < v14 then
      (h_gi f12 x0 10 15).bind fun v16 =>
      (p_X8_isLetter V g f12 x0 v16).bind fun v17 =>
      (if v17 = (0 : Int32) then
        (h_gi f12 x0 10 15).bind fun v19 =>
        (p_X8_isDigit V g f12 x0 v19).bind fun v20 =>
        (if v20 = (0 : Int32) then
          (h_gi f12 x0 10 15).bind fun v22 =>
          (h_pt f12 x0 10 15 (.int (v22 + (1 : Int32)))).bind fun f23 =>
          (h_pt f23 x0 10 17 (.int (3 : Int32))).bind fun f24 =>
          some f24
        else
          p_X8_scan_l120 V g (fun x0 f =>
            (h_pt f x0 10 17 (.int (2 : Int32))).bind fun f30 =>
            some f30) FU x0 f12)
      else
        p_X8_scan_l77 V g (fun x0 f =>
          (h_pt f x0 10 17 (.int (1 : Int32))).bind fun f36 =>
          some f36) FU x0 f12)
    else
      (h_pt f12 x0 10 17 (.int (0 : Int32))).bind fun f37 =>
      some f37)) FU a0 f
def p_X8_startText (V : Nat → Nat) (g f : GH) (a0 : Nat) (a1 : Int32) : Option GH :=
  h_me f a0 10 <|
  (h_pt f a0 10 14 (.int a1)).bind fun f1 =>
  (h_pt f1 a0 10 15 (.int (0 : Int32))).bind fun f2 =>
  (h_pt f2 a0 10 18 (.int (0 : Int32))).bind fun f3 =>
  (h_pt f3 a0 10 21 (.int (0 : Int32))).bind fun f4 =>
  (p_X8_scan V g f4 a0).bind fun v5 =>
  some v5
def p_X8_finish (V : Nat → Nat) (g f : GH) (a0 : Nat) : Option (Int32 × GH) :=
  h_me f a0 10 <|
  (h_pt f a0 10 13 (.int (0 : Int32))).bind fun f1 =>
  (h_gi f1 a0 10 18).bind fun v2 =>
  (if v2 = (0 : Int32) then
    (h_pt f1 a0 10 20 (.int (-1 : Int32))).bind fun f7 =>
    (h_gi f7 a0 10 18).bind fun v8 =>
    some (v8, f7)
  else
    (h_gi f1 a0 10 19).bind fun v4 =>
    (h_pt f1 a0 10 20 (.int v4)).bind fun f5 =>
    (h_gi f5 a0 10 18).bind fun v6 =>
    some (v6, f5))
def p_X8_check (V : Nat → Nat) (g f : GH) (a0 : Nat) (a1 : Int32) (a2 : Int32) : Option GH :=
  h_me f a0 10 <|
  (if a1 = (0 : Int32) then
    (h_gi f a0 10 18).bind fun v2 =>
    (if v2 = (0 : Int32) then
      (h_pt f a0 10 18 (.int a2)).bind fun f4 =>
      (h_gi f4 a0 10 16).bind fun v5 =>
      (h_pt f4 a0 10 19 (.int v5)).bind fun f6 =>
      some f6
    else
      some f)
  else
    some f)
def p_X8_advance (V : Nat → Nat) (g f : GH) (a0 : Nat) : Option GH :=
  h_me f a0 10 <|
  (h_gi f a0 10 18).bind fun v1 =>
  (if v1 = (0 : Int32) then
    (p_X8_scan V g f a0).bind fun v3 =>
    some v3
  else
    some f)
def p_X8_isSymbol (V : Nat → Nat) (g f : GH) (a0 : Nat) (a1 : Int32) : Option Int32 :=
  h_me f a0 10 <|
  (h_gi f a0 10 18).bind fun v1 =>
  (if v1 = (0 : Int32) then
    (h_gi f a0 10 17).bind fun v3 =>
    (if v3 = (3 : Int32) then
      (h_gr f a0 10 12).bind fun v5 =>
      (h_gi f a0 10 16).bind fun v6 =>
      (h_li f v5 0 v6).bind fun v7 =>
      (if v7 = a1 then
        some (1 : Int32)
      else
        some (0 : Int32))
    else
      some (0 : Int32))
  else
    some (0 : Int32))
def p_X8_isWord_l39 (V : Nat → Nat) (g f : GH) (K82 : Int32 → Option Int32) : Nat → Nat → Nat → Int32 → Int32 → Option Int32
  | 0, _, _, _, _ => none
  | N + 1, x0, x1, x2, x3 =>
    (if x2 = (0 : Int32) then
      K82 x2
    else
      (p_J0_length_8abf5 V g f x1).bind fun v3 =>
      (if v3 ≤ x3 then
        K82 x2
      else
        (p_J0_charAt_5068e V g f x1 x3).bind fun v5 =>
        (h_gr f x0 10 12).bind fun v6 =>
        (h_gi f x0 10 16).bind fun v7 =>
        (h_li f v6 0 (v7 + x3)).bind fun v8 =>
        (if v5 = v8 then
          p_X8_isWord_l39 V g f K82 N x0 x1 (1 : Int32) (x3 + (1 : Int32))
        else
          p_X8_isWord_l39 V g f K82 N x0 x1 (0 : Int32) (x3 + (1 : Int32)))))
def p_X8_isWord_j36 (V : Nat → Nat) (g f : GH) (x0 : Nat) (x1 : Nat) (t0 : Int32) : Option Int32 :=
  p_X8_isWord_l39 V g f (fun x2 =>
    (h_bz x2).bind fun _ =>
    some x2) FU x0 x1 t0 (0 : Int32)
def p_X8_isWord_j35 (V : Nat → Nat) (g f : GH) (K36 : Nat → Nat → Int32 → Option Int32) (x0 : Nat) (x1 : Nat) : Option Int32 :=
  K36 x0 x1 (0 : Int32)
def p_X8_isWord (V : Nat → Nat) (g f : GH) (a0 : Nat) (a1 : Nat) : Option Int32 :=
  h_me f a0 10 <|
  (h_gi f a0 10 18).bind fun v1 =>
  (if v1 = (0 : Int32) then
    (h_gi f a0 10 17).bind fun v12 =>
    (if v12 = (1 : Int32) then
      (p_J0_length_8abf5 V g f a1).bind fun v14 =>
      (h_gi f a0 10 15).bind fun v15 =>
      (h_gi f a0 10 16).bind fun v16 =>
      (if v14 = (v15 - v16) then
        p_X8_isWord_j36 V g f a0 a1 (1 : Int32)
      else
        p_X8_isWord_j35 V g f (p_X8_isWord_j36 V g f) a0 a1)
    else
      p_X8_isWord_j35 V g f (p_X8_isWord_j36 V g f) a0 a1)
  else
    p_X8_isWord_j35 V g f (p_X8_isWord_j36 V g f) a0 a1)
def p_X8_expect (V : Nat → Nat) (g f : GH) (a0 : Nat) (a1 : Int32) : Option GH :=
  h_me f a0 10 <|
  (p_X8_isSymbol V g f a0 a1).bind fun v1 =>
  (p_X8_check V g f a0 v1 (1 : Int32)).bind fun v2 =>
  (p_X8_advance V g v2 a0).bind fun v3 =>
  some v3
def p_X8_value_l7 (V : Nat → Nat) (g f : GH) (K55 : Int32 → Option Int32) : Nat → Nat → Int32 → Int32 → Option Int32
  | 0, _, _, _ => none
  | N + 1, x0, x1, x2 =>
    (h_gi f x0 10 15).bind fun v2 =>
    (if v2 ≤ x2 then
      K55 x1
    else
      (h_gi f x0 10 17).bind fun v4 =>
      (if v4 = (2 : Int32) then
        (if x1 ≤ (9999999 : Int32) then
          (h_gr f x0 10 12).bind fun v7 =>
          (h_li f v7 0 x2).bind fun v8 =>
          p_X8_value_l7 V g f K55 N x0 ((((10 : Int32) * x1) + v8) - (48 : Int32)) (x2 + (1 : Int32))
        else
          p_X8_value_l7 V g f K55 N x0 x1 (x2 + (1 : Int32)))
      else
        K55 x1))
def p_X8_value (V : Nat → Nat) (g f : GH) (a0 : Nat) : Option Int32 :=
  h_me f a0 10 <|
  (h_gi f a0 10 16).bind fun v1 =>
  p_X8_value_l7 V g f (fun x1 =>
    some x1) FU a0 (0 : Int32) v1
def p_X8_look_j14 (V : Nat → Nat) (g : GH) (x0 : Nat) (x1 : Int32) (x2 : Int32) (t0 : Int32) (t1 : Nat) (f : GH) : Option (Int32 × GH) :=
  (p_X8_check V g f t1 t0 (1 : Int32)).bind fun v2 =>
  (p_X8_value V g v2 x0).bind fun v3 =>
  (p_X8_inRange V g v2 v3 x1 x2).bind fun v4 =>
  (p_X8_check V g v2 x0 v4 (2 : Int32)).bind fun v5 =>
  (h_gi v5 x0 10 18).bind fun v6 =>
  (if v6 = (0 : Int32) then
    some (v3, v5)
  else
    some (x1, v5))
def p_X8_look (V : Nat → Nat) (g f : GH) (a0 : Nat) (a1 : Int32) (a2 : Int32) : Option (Int32 × GH) :=
  h_me f a0 10 <|
  (h_gi f a0 10 17).bind fun v1 =>
  (if v1 = (2 : Int32) then
    p_X8_look_j14 V g a0 a1 a2 (1 : Int32) a0 f
  else
    p_X8_look_j14 V g a0 a1 a2 (0 : Int32) a0 f)
def p_X8_readNumber (V : Nat → Nat) (g f : GH) (a0 : Nat) (a1 : Int32) (a2 : Int32) : Option (Int32 × GH) :=
  h_me f a0 10 <|
  (p_X8_look V g f a0 a1 a2).bind fun v1 =>
  (p_X8_advance V g v1.2 a0).bind fun v2 =>
  some (v1.1, v2)
def p_X8_errorCode (V : Nat → Nat) (g f : GH) (a0 : Nat) : Option (Int32 × GH) :=
  h_me f a0 10 <|
  (h_pt f a0 10 7 (.int (0 : Int32))).bind fun f1 =>
  (h_gi f1 a0 10 8).bind fun v2 =>
  some (v2, f1)
def p_X8_isFaulty (V : Nat → Nat) (g f : GH) (a0 : Nat) : Option (Int32 × GH) :=
  h_me f a0 10 <|
  (p_X8_finish V g f a0).bind fun v1 =>
  (h_pt v1.2 a0 10 8 (.int v1.1)).bind fun f2 =>
  (h_gi f2 a0 10 8).bind fun v3 =>
  (if v3 = (0 : Int32) then
    some ((0 : Int32), f2)
  else
    some ((1 : Int32), f2))
def p_X8_readSigned_j15 (V : Nat → Nat) (g : GH) (x0 : Nat) (x1 : Int32) (x2 : Int32) (f : GH) : Option (Int32 × GH) :=
  (p_X8_readNumber V g f x0 (0 : Int32) x1).bind fun v2 =>
  (if x2 = (0 : Int32) then
    some (v2.1, v2.2)
  else
    some (-v2.1, v2.2))
def p_X8_readSigned (V : Nat → Nat) (g f : GH) (a0 : Nat) (a1 : Int32) : Option (Int32 × GH) :=
  h_me f a0 10 <|
  (p_X8_isSymbol V g f a0 (45 : Int32)).bind fun v1 =>
  (if v1 = (0 : Int32) then
    p_X8_readSigned_j15 V g a0 a1 v1 f
  else
    (p_X8_advance V g f a0).bind fun v5 =>
    p_X8_readSigned_j15 V g a0 a1 v1 v5)
def p_X8_readPoint_j93 (V : Nat → Nat) (g : GH) (x0 : Nat) (t0 : Int32) (t1 : Nat) (f : GH) : Option GH :=
  (p_X8_check V g f t1 t0 (3 : Int32)).bind fun v6 =>
  (p_X8_readSigned V g v6 x0 (1000 : Int32)).bind fun v7 =>
  (p_X8_readSigned V g v7.2 x0 (1000 : Int32)).bind fun v8 =>
  (h_gi v8.2 x0 10 18).bind fun v9 =>
  (if v9 = (0 : Int32) then
    (p_X8_tellPoint V g v8.2 x0 v7.1 v8.1).bind fun v11 =>
    some v11
  else
    some v8.2)
def p_X8_readPoint_j88 (V : Nat → Nat) (g : GH) (K93 : Nat → Int32 → Nat → GH → Option GH) (x0 : Nat) (t0 : Nat) (f : GH) : Option GH :=
  K93 x0 (1 : Int32) t0 f
def p_X8_readPoint_j65 (V : Nat → Nat) (g : GH) (x0 : Nat) (t0 : Int32) (t1 : Nat) (f : GH) : Option GH :=
  (p_X8_check V g f t1 t0 (2 : Int32)).bind fun v4 =>
  (h_gi v4 x0 10 18).bind fun v5 =>
  (if v5 = (0 : Int32) then
    (h_gr v4 x0 10 22).bind fun v13 =>
    (h_li v4 v13 0 (1 : Int32)).bind fun v14 =>
    (if (33 : Int32) ≤ v14 then
      p_X8_readPoint_j93 V g x0 (0 : Int32) x0 v4
    else
      p_X8_readPoint_j88 V g (p_X8_readPoint_j93 V g) x0 x0 v4)
  else
    p_X8_readPoint_j88 V g (p_X8_readPoint_j93 V g) x0 x0 v4)
def p_X8_readPoint_j60 (V : Nat → Nat) (g : GH) (K65 : Nat → Int32 → Nat → GH → Option GH) (x0 : Nat) (t0 : Nat) (f : GH) : Option GH :=
  K65 x0 (1 : Int32) t0 f
def p_X8_readPoint_j30 (V : Nat → Nat) (g : GH) (x0 : Nat) (t0 : Int32) (t1 : Nat) (f : GH) : Option GH :=
  (p_X8_check V g f t1 t0 (1 : Int32)).bind fun v2 =>
  (h_gi v2 x0 10 18).bind fun v3 =>
  (if v3 = (0 : Int32) then
    (h_gi v2 x0 10 17).bind fun v17 =>
    (if v17 = (2 : Int32) then
      (p_X8_value V g v2 x0).bind fun v19 =>
      (if (1000 : Int32) < v19 then
        p_X8_readPoint_j65 V g x0 (0 : Int32) x0 v2
      else
        p_X8_readPoint_j60 V g (p_X8_readPoint_j65 V g) x0 x0 v2)
    else
      p_X8_readPoint_j60 V g (p_X8_readPoint_j65 V g) x0 x0 v2)
  else
    p_X8_readPoint_j60 V g (p_X8_readPoint_j65 V g) x0 x0 v2)
def p_X8_readPoint_j25 (V : Nat → Nat) (g : GH) (K30 : Nat → Int32 → Nat → GH → Option GH) (x0 : Nat) (t0 : Nat) (f : GH) : Option GH :=
  K30 x0 (1 : Int32) t0 f
def p_X8_readPoint (V : Nat → Nat) (g f : GH) (a0 : Nat) : Option GH :=
  h_me f a0 10 <|
  (h_gi f a0 10 18).bind fun v1 =>
  (if v1 = (0 : Int32) then
    (h_gi f a0 10 17).bind fun v22 =>
    (if v22 = (2 : Int32) then
      p_X8_readPoint_j25 V g (p_X8_readPoint_j30 V g) a0 a0 f
    else
      (p_X8_isSymbol V g f a0 (45 : Int32)).bind fun v24 =>
      (if v24 = (0 : Int32) then
        p_X8_readPoint_j30 V g a0 (0 : Int32) a0 f
      else
        p_X8_readPoint_j25 V g (p_X8_readPoint_j30 V g) a0 a0 f))
  else
    p_X8_readPoint_j25 V g (p_X8_readPoint_j30 V g) a0 a0 f)
def p_X8_readPoints_l9 (V : Nat → Nat) (g : GH) (K29 : Nat → Int32 → GH → Option GH) : Nat → Nat → Int32 → GH → Option GH
  | 0, _, _, _ => none
  | N + 1, x0, x1, f =>
    (p_X8_isSymbol V g f x0 (44 : Int32)).bind fun v3 =>
    (if v3 = (0 : Int32) then
      K29 x0 x1 f
    else
      (p_X8_advance V g f x0).bind fun v5 =>
      (p_X8_readPoint V g v5 x0).bind fun v6 =>
      p_X8_readPoints_l9 V g K29 N x0 x1 v6)
def p_X8_readPoints (V : Nat → Nat) (g f : GH) (a0 : Nat) (a1 : Int32) : Option GH :=
  h_me f a0 10 <|
  (p_X8_startCoast V g f a0 a1).bind fun v1 =>
  (p_X8_readPoint V g v1 a0).bind fun v2 =>
  p_X8_readPoints_l9 V g (fun x0 x1 f =>
    (h_gi f x0 10 18).bind fun v7 =>
    (if v7 = (0 : Int32) then
      (h_gr f x0 10 22).bind fun v10 =>
      (h_li f v10 0 (1 : Int32)).bind fun v11 =>
      (if v11 < ((2 : Int32) + x1) then
        (p_X8_check V g f x0 (0 : Int32) (1 : Int32)).bind fun v13 =>
        some v13
      else
        (p_X8_check V g f x0 (1 : Int32) (1 : Int32)).bind fun v14 =>
        some v14)
    else
      (p_X8_check V g f x0 (1 : Int32) (1 : Int32)).bind fun v9 =>
      some v9)) FU a0 a1 v2
def p_X8_isCoastHere (V : Nat → Nat) (g f : GH) (a0 : Nat) : Option Int32 :=
  h_me f a0 10 <|
  (p_X8_isWord V g f a0 (V 27)).bind fun v1 =>
  (if v1 = (0 : Int32) then
    (p_X8_isWord V g f a0 (V 26)).bind fun v3 =>
    (if v3 = (0 : Int32) then
      some (0 : Int32)
    else
      some (1 : Int32))
  else
    some (1 : Int32))
def p_X8_readCoast (V : Nat → Nat) (g f : GH) (a0 : Nat) : Option GH :=
  h_me f a0 10 <|
  (p_X8_isCoastHere V g f a0).bind fun v1 =>
  (p_X8_check V g f a0 v1 (1 : Int32)).bind fun v2 =>
  (p_X8_isWord V g v2 a0 (V 26)).bind fun v3 =>
  (if v3 = (0 : Int32) then
    (p_X8_advance V g v2 a0).bind fun v5 =>
    (p_X8_readPoints V g v5 a0 (0 : Int32)).bind fun v6 =>
    some v6
  else
    (p_X8_advance V g v2 a0).bind fun v7 =>
    (p_X8_readPoints V g v7 a0 (1 : Int32)).bind fun v8 =>
    some v8)
def p_X8_readMetric (V : Nat → Nat) (g f : GH) (a0 : Nat) : Option (Int32 × GH) :=
  h_me f a0 10 <|
  (p_X8_isWord V g f a0 (V 24)).bind fun v1 =>
  (if v1 = (0 : Int32) then
    (p_X8_isWord V g f a0 (V 25)).bind fun v6 =>
    (if v6 = (0 : Int32) then
      (p_X8_check V g f a0 (0 : Int32) (1 : Int32)).bind fun v8 =>
      (p_X8_advance V g v8 a0).bind fun v9 =>
      (h_bz v1).bind fun _ =>
      some (v1, v9)
    else
      (p_X8_check V g f a0 (1 : Int32) (1 : Int32)).bind fun v11 =>
      (p_X8_advance V g v11 a0).bind fun v12 =>
      (h_bz v1).bind fun _ =>
      some (v1, v12))
  else
    (p_X8_check V g f a0 (1 : Int32) (1 : Int32)).bind fun v3 =>
    (p_X8_advance V g v3 a0).bind fun v4 =>
    (h_bz v1).bind fun _ =>
    some (v1, v4))
def p_X8_readMap_j86 (V : Nat → Nat) (g : GH) (K39 : Nat → GH → Option GH) (x0 : Nat) (t0 : Int32) (t1 : Nat) (f : GH) : Option GH :=
  (p_X8_check V g f t1 t0 (3 : Int32)).bind fun v16 =>
  (h_gi v16 x0 10 18).bind fun v17 =>
  (if v17 = (0 : Int32) then
    (p_X8_readCoast V g v16 x0).bind fun v22 =>
    (p_X8_expect V g v22 x0 (59 : Int32)).bind fun v23 =>
    (h_gi v23 x0 10 18).bind fun v24 =>
    (if v24 = (0 : Int32) then
      (p_X8_layTold V g v23 x0).bind fun v26 =>
      K39 x0 v26
    else
      K39 x0 v23)
  else
    (h_gi v16 x0 10 18).bind fun v19 =>
    (if v19 = (0 : Int32) then
      (p_X8_layTold V g v16 x0).bind fun v21 =>
      K39 x0 v21
    else
      K39 x0 v16))
def p_X8_readMap_j81 (V : Nat → Nat) (g : GH) (K86 : Nat → Int32 → Nat → GH → Option GH) (x0 : Nat) (t0 : Nat) (f : GH) : Option GH :=
  K86 x0 (1 : Int32) t0 f
def p_X8_readMap_l39 (V : Nat → Nat) (g : GH) (K121 : GH → Option GH) : Nat → Nat → GH → Option GH
  | 0, _, _ => none
  | N + 1, x0, f =>
    (h_gi f x0 10 18).bind fun v9 =>
    (if v9 = (0 : Int32) then
      (h_gi f x0 10 17).bind fun v11 =>
      (if v11 = (0 : Int32) then
        K121 f
      else
        (p_X8_isCoastHere V g f x0).bind fun v13 =>
        (p_X8_check V g f x0 v13 (1 : Int32)).bind fun v14 =>
        (h_gi v14 x0 10 18).bind fun v15 =>
        (if v15 = (0 : Int32) then
          (h_gr v14 x0 10 5).bind fun v28 =>
          (h_li v14 v28 0 (1 : Int32)).bind fun v29 =>
          (if (6 : Int32) ≤ v29 then
            p_X8_readMap_j86 V g (p_X8_readMap_l39 V g K121 N) x0 (0 : Int32) x0 v14
          else
            p_X8_readMap_j81 V g (p_X8_readMap_j86 V g (p_X8_readMap_l39 V g K121 N)) x0 x0 v14)
        else
          p_X8_readMap_j81 V g (p_X8_readMap_j86 V g (p_X8_readMap_l39 V g K121 N)) x0 x0 v14))
    else
      K121 f)
def p_X8_readMap (V : Nat → Nat) (g f : GH) (a0 : Nat) : Option GH :=
  h_me f a0 10 <|
  (p_X8_isWord V g f a0 (V 23)).bind fun v1 =>
  (p_X8_check V g f a0 v1 (1 : Int32)).bind fun v2 =>
  (p_X8_advance V g v2 a0).bind fun v3 =>
  (p_X8_readMetric V g v3 a0).bind fun v4 =>
  (p_X8_expect V g v4.2 a0 (59 : Int32)).bind fun v5 =>
  (h_gr v5 a0 10 5).bind fun v6 =>
  (h_si v5 v6 0 (1 : Int32) (0 : Int32)).bind fun f7 =>
  (p_X8_setMetric V g f7 a0 v4.1).bind fun v8 =>
  p_X8_readMap_l39 V g (fun f =>
    some f) FU a0 v8
def p_X8_isLength (V : Nat → Nat) (g f : GH) (a0 : Nat) (a1 : Int32) : Option Int32 :=
  h_me f a0 10 <|
  (h_gi f a0 10 13).bind fun v1 =>
  (p_X8_inRange V g f a1 (0 : Int32) v1).bind fun v2 =>
  (h_bz v2).bind fun _ =>
  some v2
def p_X8_loadMap (V : Nat → Nat) (g f : GH) (a0 : Nat) (a1 : Int32) : Option (Int32 × GH) :=
  h_me f a0 10 <|
  (p_X8_isLength V g f a0 a1).bind fun v1 =>
  (p_X8_lacks V g f a0 v1).bind fun v2 =>
  (if v2.1 = (0 : Int32) then
    (p_X8_startText V g v2.2 a0 a1).bind fun v4 =>
    (h_gr v4 a0 10 1).bind fun v5 =>
    (h_pt v4 a0 10 5 (.ref v5)).bind fun f6 =>
    (p_X8_readMap V g f6 a0).bind fun v7 =>
    (p_X8_restartLedgers V g v7 a0).bind fun v8 =>
    (h_gr v8 a0 10 0).bind fun v9 =>
    (h_pt v8 a0 10 5 (.ref v9)).bind fun f10 =>
    (p_X8_isFaulty V g f10 a0).bind fun v11 =>
    (if v11.1 = (0 : Int32) then
      (h_gr v11.2 a0 10 1).bind fun v13 =>
      (h_gr v11.2 a0 10 0).bind fun v14 =>
      (p_X8_copy V g v11.2 v13 (0 : Int32) v14 (0 : Int32)).bind fun v15 =>
      (h_pt v15 a0 10 6 (.int (0 : Int32))).bind fun f16 =>
      (h_pt f16 a0 10 9 (.int (0 : Int32))).bind fun f17 =>
      (h_gr f17 a0 10 5).bind fun v18 =>
      (h_li f17 v18 0 (1 : Int32)).bind fun v19 =>
      some (v19, f17)
    else
      some ((-1 : Int32), v11.2))
  else
    some ((0 : Int32), v2.2))
def p_X8_doAdd (V : Nat → Nat) (g f : GH) (a0 : Nat) : Option (Int32 × GH) :=
  h_me f a0 10 <|
  (h_gr f a0 10 5).bind fun v1 =>
  (h_li f v1 0 (1 : Int32)).bind fun v2 =>
  (if v2 = (6 : Int32) then
    some ((2 : Int32), f)
  else
    (h_gr f a0 10 5).bind fun v4 =>
    (h_li f v4 0 (3 : Int32)).bind fun v5 =>
    (h_gr f a0 10 22).bind fun v6 =>
    (h_li f v6 0 (1 : Int32)).bind fun v7 =>
    (h_si f v4 0 (3 : Int32) (v5 + v7)).bind fun f8 =>
    (p_X8_layTold V g f8 a0).bind fun v9 =>
    some ((0 : Int32), v9))
def p_X8_addCoast_j59 (V : Nat → Nat) (g : GH) (x0 : Nat) (t0 : Int32) (t1 : Nat) (f : GH) : Option (Int32 × GH) :=
  (p_X8_check V g f t1 t0 (1 : Int32)).bind fun v9 =>
  (p_X8_isFaulty V g v9 x0).bind fun v10 =>
  (if v10.1 = (0 : Int32) then
    (p_X8_keep V g v10.2 x0).bind fun v12 =>
    (p_X8_doAdd V g v12 x0).bind fun v13 =>
    (p_X8_fails V g v13.2 x0 v13.1).bind fun v14 =>
    (if v14.1 = (0 : Int32) then
      (h_gr v14.2 x0 10 5).bind fun v16 =>
      (h_li v14.2 v16 0 (1 : Int32)).bind fun v17 =>
      some (v17 - (1 : Int32), v14.2)
    else
      some ((0 : Int32), v14.2))
  else
    some ((-1 : Int32), v10.2))
def p_X8_addCoast_j54 (V : Nat → Nat) (g : GH) (K59 : Nat → Int32 → Nat → GH → Option (Int32 × GH)) (x0 : Nat) (t0 : Nat) (f : GH) : Option (Int32 × GH) :=
  K59 x0 (1 : Int32) t0 f
def p_X8_addCoast_j22 (V : Nat → Nat) (g : GH) (x0 : Nat) (x1 : Int32) (t0 : Int32) (t1 : Int32) (t2 : Nat) (f : GH) : Option (Int32 × GH) :=
  (p_X8_lacksBoth V g f t2 t1 t0).bind fun v4 =>
  (if v4.1 = (0 : Int32) then
    (p_X8_startText V g v4.2 x0 x1).bind fun v6 =>
    (p_X8_readCoast V g v6 x0).bind fun v7 =>
    (h_gi v7 x0 10 18).bind fun v8 =>
    (if v8 = (0 : Int32) then
      (h_gi v7 x0 10 17).bind fun v19 =>
      (if v19 = (0 : Int32) then
        p_X8_addCoast_j54 V g (p_X8_addCoast_j59 V g) x0 x0 v7
      else
        p_X8_addCoast_j59 V g x0 (0 : Int32) x0 v7)
    else
      p_X8_addCoast_j54 V g (p_X8_addCoast_j59 V g) x0 x0 v7)
  else
    some ((0 : Int32), v4.2))
def p_X8_addCoast (V : Nat → Nat) (g f : GH) (a0 : Nat) (a1 : Int32) : Option (Int32 × GH) :=
  h_me f a0 10 <|
  (p_X8_isLength V g f a0 a1).bind fun v1 =>
  (h_gr f a0 10 5).bind fun v2 =>
  (h_li f v2 0 (1 : Int32)).bind fun v3 =>
  (if (6 : Int32) ≤ v3 then
    p_X8_addCoast_j22 V g a0 a1 (0 : Int32) v1 a0 f
  else
    p_X8_addCoast_j22 V g a0 a1 (1 : Int32) v1 a0 f)
def p_X8_orderHere_l2 (V : Nat → Nat) (g f : GH) (K24 : Int32 → Option Int32) (K42 : Option Int32) : Nat → Nat → Int32 → Option Int32
  | 0, _, _ => none
  | N + 1, x0, x1 =>
    (h_gr f x0 10 24).bind fun v1 =>
    (h_al f v1 7).bind fun v2 =>
    (if v2 ≤ x1 then
      K42
    else
      (h_gr f x0 10 24).bind fun v4 =>
      (h_lq f v4 7 x1).bind fun v5 =>
      (p_X8_isWord V g f x0 v5).bind fun v6 =>
      (if v6 = (0 : Int32) then
        p_X8_orderHere_l2 V g f K24 K42 N x0 (x1 + (1 : Int32))
      else
        K24 x1))
def p_X8_orderHere (V : Nat → Nat) (g f : GH) (a0 : Nat) : Option Int32 :=
  h_me f a0 10 <|
  p_X8_orderHere_l2 V g f (fun x1 =>
    (if x1 ≤ (9 : Int32) then
      some x1
    else
      some (0 : Int32))) (some (-1 : Int32)) FU a0 (0 : Int32)
def p_X8_readNumbers_j135 (V : Nat → Nat) (g : GH) (x0 : Nat) (x1 : Int32) (x4 : Int32) (x5 : Int32) (t0 : Int32) (t1 : Int32) (t2 : Nat) (f : GH) : Option GH :=
  (h_si f t2 0 t1 t0).bind fun f7 =>
  (h_gr f7 x0 10 23).bind fun v8 =>
  (if x5 = (0 : Int32) then
    (h_si f7 v8 0 (x1 + (4 : Int32)) (0 : Int32)).bind fun f10 =>
    some f10
  else
    (p_X8_readSigned V g f7 x0 x4).bind fun v11 =>
    (h_si v11.2 v8 0 (x1 + (4 : Int32)) v11.1).bind fun f12 =>
    some f12)
def p_X8_readNumbers_j111 (V : Nat → Nat) (g : GH) (x0 : Nat) (x1 : Int32) (x4 : Int32) (t0 : Int32) (f : GH) : Option GH :=
  (h_gr f x0 10 23).bind fun v6 =>
  (if t0 = (0 : Int32) then
    p_X8_readNumbers_j135 V g x0 x1 x4 t0 (0 : Int32) (x1 + (3 : Int32)) v6 f
  else
    (p_X8_readSigned V g f x0 x4).bind fun v14 =>
    p_X8_readNumbers_j135 V g x0 x1 x4 t0 v14.1 (x1 + (3 : Int32)) v6 v14.2)
def p_X8_readNumbers_j106 (V : Nat → Nat) (g : GH) (K111 : Nat → Int32 → Int32 → Int32 → GH → Option GH) (x0 : Nat) (x1 : Int32) (x4 : Int32) (f : GH) : Option GH :=
  K111 x0 x1 x4 (1 : Int32) f
def p_X8_readNumbers_j88 (V : Nat → Nat) (g : GH) (x0 : Nat) (x1 : Int32) (x2 : Int32) (t0 : Int32) (f : GH) : Option GH :=
  (if x2 = (3 : Int32) then
    p_X8_readNumbers_j106 V g (p_X8_readNumbers_j111 V g) x0 x1 t0 f
  else
    (if x2 = (4 : Int32) then
      p_X8_readNumbers_j106 V g (p_X8_readNumbers_j111 V g) x0 x1 t0 f
    else
      (if x2 = (6 : Int32) then
        p_X8_readNumbers_j106 V g (p_X8_readNumbers_j111 V g) x0 x1 t0 f
      else
        p_X8_readNumbers_j111 V g x0 x1 t0 (0 : Int32) f)))
def p_X8_readNumbers_j72 (V : Nat → Nat) (g : GH) (x0 : Nat) (x1 : Int32) (x2 : Int32) (t0 : Int32) (t1 : Int32) (t2 : Nat) (f : GH) : Option GH :=
  (h_si f t2 0 t1 t0).bind fun f5 =>
  (if x2 = (6 : Int32) then
    p_X8_readNumbers_j88 V g x0 x1 x2 (2000 : Int32) f5
  else
    p_X8_readNumbers_j88 V g x0 x1 x2 (1000 : Int32) f5)
def p_X8_readNumbers_j34 (V : Nat → Nat) (g : GH) (x0 : Nat) (x1 : Int32) (x2 : Int32) (t0 : Int32) (f : GH) : Option GH :=
  (h_gr f x0 10 23).bind fun v4 =>
  (if t0 = (0 : Int32) then
    (if x2 = (1 : Int32) then
      (p_X8_readSigned V g f x0 (50 : Int32)).bind fun v21 =>
      p_X8_readNumbers_j72 V g x0 x1 x2 v21.1 (x1 + (2 : Int32)) v4 v21.2
    else
      p_X8_readNumbers_j72 V g x0 x1 x2 (0 : Int32) (x1 + (2 : Int32)) v4 f)
  else
    (p_X8_readNumber V g f x0 (0 : Int32) (128 : Int32)).bind fun v22 =>
    p_X8_readNumbers_j72 V g x0 x1 x2 v22.1 (x1 + (2 : Int32)) v4 v22.2)
def p_X8_readNumbers_j29 (V : Nat → Nat) (g : GH) (K34 : Nat → Int32 → Int32 → Int32 → GH → Option GH) (x0 : Nat) (x1 : Int32) (x2 : Int32) (f : GH) : Option GH :=
  K34 x0 x1 x2 (1 : Int32) f
def p_X8_readNumbers (V : Nat → Nat) (g f : GH) (a0 : Nat) (a1 : Int32) (a2 : Int32) : Option GH :=
  h_me f a0 10 <|
  (h_gr f a0 10 23).bind fun v1 =>
  (p_X8_readNumber V g f a0 (0 : Int32) (5 : Int32)).bind fun v2 =>
  (h_si v2.2 v1 0 (a1 + (1 : Int32)) v2.1).bind fun f3 =>
  (if a2 = (3 : Int32) then
    p_X8_readNumbers_j29 V g (p_X8_readNumbers_j34 V g) a0 a1 a2 f3
  else
    (if a2 = (4 : Int32) then
      p_X8_readNumbers_j29 V g (p_X8_readNumbers_j34 V g) a0 a1 a2 f3
    else
      (if a2 = (5 : Int32) then
        p_X8_readNumbers_j29 V g (p_X8_readNumbers_j34 V g) a0 a1 a2 f3
      else
        p_X8_readNumbers_j34 V g a0 a1 a2 (0 : Int32) f3)))
def p_X8_readOrder_j139 (V : Nat → Nat) (g : GH) (x0 : Nat) (f : GH) : Option GH :=
  (p_X8_expect V g f x0 (59 : Int32)).bind fun v10 =>
  (h_gi v10 x0 10 25).bind fun v11 =>
  (h_pt v10 x0 10 25 (.int (v11 + (1 : Int32)))).bind fun f12 =>
  some f12
def p_X8_readOrder_j42 (V : Nat → Nat) (g : GH) (x0 : Nat) (x1 : Int32) (t0 : Int32) (t1 : Nat) (f : GH) : Option GH :=
  (p_X8_check V g f t1 t0 (3 : Int32)).bind fun v4 =>
  (h_gi v4 x0 10 18).bind fun v5 =>
  (if v5 = (0 : Int32) then
    (h_gi v4 x0 10 25).bind fun v7 =>
    (h_gr v4 x0 10 23).bind fun v8 =>
    (h_si v4 v8 0 ((73 : Int32) * v7) x1).bind fun f9 =>
    (if x1 = (0 : Int32) then
      (p_X8_readCoast V g f9 x0).bind fun v22 =>
      (h_gr v22 x0 10 22).bind fun v23 =>
      (h_gr v22 x0 10 23).bind fun v24 =>
      (h_gr v22 x0 10 22).bind fun v25 =>
      (h_al v22 v25 0).bind fun v26 =>
      (h_cp v22 0 v23 (0 : Int32) v24 (((73 : Int32) * v7) + (5 : Int32)) v26).bind fun f27 =>
      p_X8_readOrder_j139 V g x0 f27
    else
      (p_X8_advance V g f9 x0).bind fun v14 =>
      (if x1 = (9 : Int32) then
        (h_gr v14 x0 10 23).bind fun v17 =>
        (p_X8_readMetric V g v14 x0).bind fun v18 =>
        (if v18.1 = (0 : Int32) then
          (h_si v18.2 v17 0 (((73 : Int32) * v7) + (1 : Int32)) (0 : Int32)).bind fun f20 =>
          p_X8_readOrder_j139 V g x0 f20
        else
          (h_si v18.2 v17 0 (((73 : Int32) * v7) + (1 : Int32)) (1 : Int32)).bind fun f21 =>
          p_X8_readOrder_j139 V g x0 f21)
      else
        (p_X8_readNumbers V g v14 x0 ((73 : Int32) * v7) x1).bind fun v16 =>
        p_X8_readOrder_j139 V g x0 v16))
  else
    some v4)
def p_X8_readOrder_j37 (V : Nat → Nat) (g : GH) (K42 : Nat → Int32 → Int32 → Nat → GH → Option GH) (x0 : Nat) (x1 : Int32) (t0 : Nat) (f : GH) : Option GH :=
  K42 x0 x1 (1 : Int32) t0 f
def p_X8_readOrder_j16 (V : Nat → Nat) (g : GH) (x0 : Nat) (x1 : Int32) (t0 : Int32) (t1 : Nat) (f : GH) : Option GH :=
  (p_X8_check V g f t1 t0 (1 : Int32)).bind fun v2 =>
  (h_gi v2 x0 10 18).bind fun v3 =>
  (if v3 = (0 : Int32) then
    (h_gi v2 x0 10 25).bind fun v29 =>
    (if (20 : Int32) ≤ v29 then
      p_X8_readOrder_j42 V g x0 x1 (0 : Int32) x0 v2
    else
      p_X8_readOrder_j37 V g (p_X8_readOrder_j42 V g) x0 x1 x0 v2)
  else
    p_X8_readOrder_j37 V g (p_X8_readOrder_j42 V g) x0 x1 x0 v2)
def p_X8_readOrder (V : Nat → Nat) (g f : GH) (a0 : Nat) : Option GH :=
  h_me f a0 10 <|
  (p_X8_orderHere V g f a0).bind fun v1 =>
  (if v1 = (-1 : Int32) then
    p_X8_readOrder_j16 V g a0 v1 (0 : Int32) a0 f
  else
    p_X8_readOrder_j16 V g a0 v1 (1 : Int32) a0 f)
def p_X8_does (V : Nat → Nat) (g f : GH) (a0 : Nat) (a1 : Int32) : Option (Int32 × GH) :=
  h_me f a0 10 <|
  (h_gr f a0 10 23).bind fun v1 =>
  (h_li f v1 0 (a1 + (1 : Int32))).bind fun v2 =>
  (h_gr f a0 10 23).bind fun v3 =>
  (h_li f v3 0 (a1 + (2 : Int32))).bind fun v4 =>
  (h_gr f a0 10 23).bind fun v5 =>
  (h_li f v5 0 a1).bind fun v6 =>
  (if v6 = (0 : Int32) then
    (h_gr f a0 10 23).bind fun v8 =>
    (h_gr f a0 10 22).bind fun v9 =>
    (h_gr f a0 10 22).bind fun v10 =>
    (h_al f v10 0).bind fun v11 =>
    (h_cp f 0 v8 (a1 + (5 : Int32)) v9 (0 : Int32) v11).bind fun f12 =>
    (p_X8_doAdd V g f12 a0).bind fun v13 =>
    some (v13.1, v13.2)
  else
  (if v6 = (1 : Int32) then
    (p_X8_doFold V g f a0 v2 v4).bind fun v14 =>
    some (v14.1, v14.2)
  else
  (if v6 = (2 : Int32) then
    (p_X8_doUnfold V g f a0 v2).bind fun v15 =>
    some (v15.1, v15.2)
  else
  (if v6 = (3 : Int32) then
    (h_gr f a0 10 23).bind fun v16 =>
    (h_li f v16 0 (a1 + (3 : Int32))).bind fun v17 =>
    (h_gr f a0 10 23).bind fun v18 =>
    (h_li f v18 0 (a1 + (4 : Int32))).bind fun v19 =>
    (p_X8_doMove V g f a0 v2 v4 v17 v19).bind fun v20 =>
    some (v20.1, v20.2)
  else
  (if v6 = (4 : Int32) then
    (h_gr f a0 10 23).bind fun v21 =>
    (h_li f v21 0 (a1 + (3 : Int32))).bind fun v22 =>
    (h_gr f a0 10 23).bind fun v23 =>
    (h_li f v23 0 (a1 + (4 : Int32))).bind fun v24 =>
    (p_X8_doInsert V g f a0 v2 v4 v22 v24).bind fun v25 =>
    some (v25.1, v25.2)
  else
  (if v6 = (5 : Int32) then
    (p_X8_doCut V g f a0 v2 v4).bind fun v26 =>
    some (v26.1, v26.2)
  else
  (if v6 = (6 : Int32) then
    (h_gr f a0 10 23).bind fun v27 =>
    (h_li f v27 0 (a1 + (3 : Int32))).bind fun v28 =>
    (h_gr f a0 10 23).bind fun v29 =>
    (h_li f v29 0 (a1 + (4 : Int32))).bind fun v30 =>
    (p_X8_doShift V g f a0 v2 v28 v30).bind fun v31 =>
    some (v31.1, v31.2)
  else
  (if v6 = (7 : Int32) then
    (p_X8_doReverse V g f a0 v2).bind fun v32 =>
    some (v32.1, v32.2)
  else
  (if v6 = (8 : Int32) then
    (p_X8_doRemove V g f a0 v2).bind fun v33 =>
    some (v33.1, v33.2)
  else
    (if v2 = (1 : Int32) then
      (p_X8_setMetric V g f a0 (1 : Int32)).bind fun v36 =>
      some ((0 : Int32), v36)
    else
      (p_X8_setMetric V g f a0 (0 : Int32)).bind fun v35 =>
      some ((0 : Int32), v35)))))))))))
def p_X8_runScript_l24 (V : Nat → Nat) (g : GH) (K45 : Nat → GH → Option (Int32 × GH)) : Nat → Nat → GH → Option (Int32 × GH)
  | 0, _, _ => none
  | N + 1, x0, f =>
    (h_gi f x0 10 18).bind fun v6 =>
    (if v6 = (0 : Int32) then
      (h_gi f x0 10 17).bind fun v8 =>
      (if v8 = (0 : Int32) then
        K45 x0 f
      else
        (p_X8_readOrder V g f x0).bind fun v10 =>
        p_X8_runScript_l24 V g K45 N x0 v10)
    else
      K45 x0 f)
def p_X8_runScript_l64 (V : Nat → Nat) (g : GH) (K89 : Int32 → GH → Option (Int32 × GH)) : Nat → Nat → Int32 → GH → Option (Int32 × GH)
  | 0, _, _, _ => none
  | N + 1, x0, x2, f =>
    (h_gi f x0 10 25).bind fun v15 =>
    (if v15 ≤ x2 then
      K89 x2 f
    else
      (p_X8_does V g f x0 ((73 : Int32) * x2)).bind fun v17 =>
      (if v17.1 = (0 : Int32) then
        p_X8_runScript_l64 V g K89 N x0 (x2 + (1 : Int32)) v17.2
      else
        K89 x2 v17.2))
def p_X8_runScript (V : Nat → Nat) (g f : GH) (a0 : Nat) (a1 : Int32) : Option (Int32 × GH) :=
  h_me f a0 10 <|
  (p_X8_isLength V g f a0 a1).bind fun v1 =>
  (p_X8_lacks V g f a0 v1).bind fun v2 =>
  (if v2.1 = (0 : Int32) then
    (h_pt v2.2 a0 10 25 (.int (0 : Int32))).bind fun f4 =>
    (p_X8_startText V g f4 a0 a1).bind fun v5 =>
    p_X8_runScript_l24 V g (fun x0 f =>
      (p_X8_isFaulty V g f x0).bind fun v11 =>
      (if v11.1 = (0 : Int32) then
        (p_X8_keep V g v11.2 x0).bind fun v13 =>
        (p_X8_record V g v13 x0).bind fun v14 =>
        p_X8_runScript_l64 V g (fun x2 f =>
          some (x2, f)) FU x0 (0 : Int32) v14
      else
        some ((-1 : Int32), v11.2))) FU a0 v5
  else
    some ((0 : Int32), v2.2))

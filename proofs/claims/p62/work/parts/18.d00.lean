def p_X2_init (V : Nat → Nat) (g f : GH) (n : Nat) (a0 : Nat) (a1 : Int32) : Option (GH × Nat) :=
  h_me f a0 5 <|
  (h_nv f n 0 a1 200).bind fun f1 =>
  (h_pt f1 a0 5 0 (.ref n)).bind fun f2 =>
  (h_nv f2 (n + 1) 0 a1 200).bind fun f3 =>
  (h_pt f3 a0 5 1 (.ref (n + 1))).bind fun f4 =>
  some (f4, n + 2)
def p_X1_init_s3 (V : Nat → Nat) (g : GH) (x0 : Nat) (f : GH) (n : Nat) : Option (GH × Nat) :=
  (h_gr f x0 4 0).bind fun v23 =>
  (some (h_up f n (.inr (5, [.null, .null, .int 0, .int 0])))).bind fun f24 =>
  (p_X2_init V g f24 (n + 1) n (129 : Int32)).bind fun v25 =>
  (h_sq v25.1 v23 5 5 (5 : Int32) n).bind fun f26 =>
  some (f26, v25.2)
def p_X1_init_s2 (V : Nat → Nat) (g : GH) (x0 : Nat) (f : GH) (n : Nat) : Option (GH × Nat) :=
  (h_gr f x0 4 0).bind fun v15 =>
  (some (h_up f n (.inr (5, [.null, .null, .int 0, .int 0])))).bind fun f16 =>
  (p_X2_init V g f16 (n + 1) n (129 : Int32)).bind fun v17 =>
  (h_sq v17.1 v15 5 5 (3 : Int32) n).bind fun f18 =>
  (h_gr f18 x0 4 0).bind fun v19 =>
  (some (h_up f18 v17.2 (.inr (5, [.null, .null, .int 0, .int 0])))).bind fun f20 =>
  (p_X2_init V g f20 (v17.2 + 1) v17.2 (129 : Int32)).bind fun v21 =>
  (h_sq v21.1 v19 5 5 (4 : Int32) v17.2).bind fun f22 =>
  p_X1_init_s3 V g x0 f22 v21.2
def p_X1_init_s1 (V : Nat → Nat) (g : GH) (x0 : Nat) (f : GH) (n : Nat) : Option (GH × Nat) :=
  (h_gr f x0 4 0).bind fun v7 =>
  (some (h_up f n (.inr (5, [.null, .null, .int 0, .int 0])))).bind fun f8 =>
  (p_X2_init V g f8 (n + 1) n (129 : Int32)).bind fun v9 =>
  (h_sq v9.1 v7 5 5 (1 : Int32) n).bind fun f10 =>
  (h_gr f10 x0 4 0).bind fun v11 =>
  (some (h_up f10 v9.2 (.inr (5, [.null, .null, .int 0, .int 0])))).bind fun f12 =>
  (p_X2_init V g f12 (v9.2 + 1) v9.2 (129 : Int32)).bind fun v13 =>
  (h_sq v13.1 v11 5 5 (2 : Int32) v9.2).bind fun f14 =>
  p_X1_init_s2 V g x0 f14 v13.2
def p_X1_init (V : Nat → Nat) (g f : GH) (n : Nat) (a0 : Nat) : Option (GH × Nat) :=
  h_me f a0 4 <|
  (some (h_up f n (.inl (5, 6, .inr (.inr (.inr (.inr (fun _ => none)))))))).bind fun f1 =>
  (h_pt f1 a0 4 0 (.ref n)).bind fun f2 =>
  (h_gr f2 a0 4 0).bind fun v3 =>
  (some (h_up f2 (n + 1) (.inr (5, [.null, .null, .int 0, .int 0])))).bind fun f4 =>
  (p_X2_init V g f4 (n + 2) (n + 1) (129 : Int32)).bind fun v5 =>
  (h_sq v5.1 v3 5 5 (0 : Int32) (n + 1)).bind fun f6 =>
  p_X1_init_s1 V g a0 f6 v5.2
def p_X2_copyFrom (V : Nat → Nat) (g f : GH) (a0 : Nat) (a1 : Nat) : Option GH :=
  h_me f a0 5 <|
  (h_gr f a1 5 0).bind fun v1 =>
  (h_gr f a0 5 0).bind fun v2 =>
  (h_gi f a1 5 2).bind fun v3 =>
  (h_cp f 0 v1 (0 : Int32) v2 (0 : Int32) v3).bind fun f4 =>
  (h_gr f4 a1 5 1).bind fun v5 =>
  (h_gr f4 a0 5 1).bind fun v6 =>
  (h_gi f4 a1 5 2).bind fun v7 =>
  (h_cp f4 0 v5 (0 : Int32) v6 (0 : Int32) v7).bind fun f8 =>
  (h_gi f8 a1 5 2).bind fun v9 =>
  (h_pt f8 a0 5 2 (.int v9)).bind fun f10 =>
  (h_gi f10 a1 5 3).bind fun v11 =>
  (h_bz v11).bind fun _ =>
  (h_pt f10 a0 5 3 (.int v11)).bind fun f13 =>
  some f13
def p_X1_copyFrom_l2 (V : Nat → Nat) (g : GH) (K31 : Nat → Nat → GH → Option GH) : Nat → Nat → Nat → Int32 → GH → Option GH
  | 0, _, _, _, _ => none
  | N + 1, x0, x1, x2, f =>
    (h_gi f x1 4 1).bind fun v1 =>
    (if v1 ≤ x2 then
      K31 x0 x1 f
    else
      (h_gr f x0 4 0).bind fun v3 =>
      (h_lq f v3 5 x2).bind fun v4 =>
      (h_gr f x1 4 0).bind fun v5 =>
      (h_lq f v5 5 x2).bind fun v6 =>
      (p_X2_copyFrom V g f v4 v6).bind fun v7 =>
      p_X1_copyFrom_l2 V g K31 N x0 x1 (x2 + (1 : Int32)) v7)
def p_X1_copyFrom (V : Nat → Nat) (g f : GH) (a0 : Nat) (a1 : Nat) : Option GH :=
  h_me f a0 4 <|
  p_X1_copyFrom_l2 V g (fun x0 x1 f =>
    (h_gi f x1 4 1).bind fun v8 =>
    (h_pt f x0 4 1 (.int v8)).bind fun f9 =>
    (h_gi f9 x1 4 2).bind fun v10 =>
    (h_bz v10).bind fun _ =>
    (h_pt f9 x0 4 2 (.int v10)).bind fun f12 =>
    (h_gi f12 x1 4 3).bind fun v13 =>
    (h_pt f12 x0 4 3 (.int v13)).bind fun f14 =>
    (h_gi f14 x1 4 4).bind fun v15 =>
    (h_pt f14 x0 4 4 (.int v15)).bind fun f16 =>
    (h_gi f16 x1 4 5).bind fun v17 =>
    (h_pt f16 x0 4 5 (.int v17)).bind fun f18 =>
    some f18) FU a0 a1 (0 : Int32) f
def p_X2_insert (V : Nat → Nat) (g f : GH) (a0 : Nat) (a1 : Int32) (a2 : Int32) (a3 : Int32) : Option GH :=
  h_me f a0 5 <|
  (h_gr f a0 5 0).bind fun v1 =>
  (h_gr f a0 5 0).bind fun v2 =>
  (h_gi f a0 5 2).bind fun v3 =>
  (h_cp f 0 v1 a1 v2 (a1 + (1 : Int32)) (v3 - a1)).bind fun f4 =>
  (h_gr f4 a0 5 1).bind fun v5 =>
  (h_gr f4 a0 5 1).bind fun v6 =>
  (h_gi f4 a0 5 2).bind fun v7 =>
  (h_cp f4 0 v5 a1 v6 (a1 + (1 : Int32)) (v7 - a1)).bind fun f8 =>
  (h_gr f8 a0 5 0).bind fun v9 =>
  (h_si f8 v9 0 a1 a2).bind fun f10 =>
  (h_gr f10 a0 5 1).bind fun v11 =>
  (h_si f10 v11 0 a1 a3).bind fun f12 =>
  (h_gi f12 a0 5 2).bind fun v13 =>
  (h_pt f12 a0 5 2 (.int (v13 + (1 : Int32)))).bind fun f14 =>
  some f14
def p_X1_place_l18 (V : Nat → Nat) (g : GH) (K51 : Nat → GH → Option GH) : Nat → Nat → Nat → Nat → Int32 → GH → Option GH
  | 0, _, _, _, _, _ => none
  | N + 1, x0, x1, x3, x4, f =>
    (h_al (gA g) x1 0).bind fun v6 =>
    (if v6 ≤ (x4 + (1 : Int32)) then
      K51 x0 f
    else
      (h_gi f x3 5 2).bind fun v8 =>
      (h_li (gA g) x1 0 x4).bind fun v9 =>
      (h_li (gA g) x1 0 (x4 + (1 : Int32))).bind fun v10 =>
      (p_X2_insert V g f x3 v8 v9 v10).bind fun v11 =>
      p_X1_place_l18 V g K51 N x0 x1 x3 (x4 + (2 : Int32)) v11)
def p_X1_place (V : Nat → Nat) (g f : GH) (a0 : Nat) (a1 : Nat) (a2 : Int32) : Option GH :=
  h_me f a0 4 <|
  (h_gr f a0 4 0).bind fun v1 =>
  (h_gi f a0 4 1).bind fun v2 =>
  (h_lq f v1 5 v2).bind fun v3 =>
  (h_bz a2).bind fun _ =>
  (h_pt f v3 5 3 (.int a2)).bind fun f5 =>
  p_X1_place_l18 V g (fun x0 f =>
    (h_gi f x0 4 1).bind fun v12 =>
    (h_pt f x0 4 1 (.int (v12 + (1 : Int32)))).bind fun f13 =>
    some f13) FU a0 a1 v3 (0 : Int32) f5
def p_X1_pointTotal_l4 (V : Nat → Nat) (g f : GH) (K30 : Int32 → Option Int32) : Nat → Nat → Int32 → Int32 → Option Int32
  | 0, _, _, _ => none
  | N + 1, x0, x1, x2 =>
    (h_gi f x0 4 1).bind fun v1 =>
    (if v1 ≤ x2 then
      K30 x1
    else
      (h_gr f x0 4 0).bind fun v3 =>
      (h_lq f v3 5 x2).bind fun v4 =>
      (h_gi f v4 5 2).bind fun v5 =>
      p_X1_pointTotal_l4 V g f K30 N x0 (x1 + v5) (x2 + (1 : Int32)))
def p_X1_pointTotal (V : Nat → Nat) (g f : GH) (a0 : Nat) : Option Int32 :=
  h_me f a0 4 <|
  p_X1_pointTotal_l4 V g f (fun x1 =>
    some x1) FU a0 (0 : Int32) (0 : Int32)
def p_X1_startLedgers (V : Nat → Nat) (g f : GH) (a0 : Nat) : Option GH :=
  h_me f a0 4 <|
  (p_X1_pointTotal V g f a0).bind fun v1 =>
  (h_pt f a0 4 3 (.int v1)).bind fun f2 =>
  (h_pt f2 a0 4 4 (.int (0 : Int32))).bind fun f3 =>
  (h_pt f3 a0 4 5 (.int (0 : Int32))).bind fun f4 =>
  some f4
def p_X1_hasCoast (V : Nat → Nat) (g f : GH) (a0 : Nat) (a1 : Int32) : Option Int32 :=
  h_me f a0 4 <|
  (if a1 < (0 : Int32) then
    some (0 : Int32)
  else
    (h_gi f a0 4 1).bind fun v2 =>
    (if v2 ≤ a1 then
      some (0 : Int32)
    else
      some (1 : Int32)))
def p_J9_max_7cf53 (V : Nat → Nat) (g f : GH) (a0 : Int32) (a1 : Int32) : Option Int32 :=
  (if a0 < a1 then
    some a1
  else
    some a0)
def p_J9_min_7cf53 (V : Nat → Nat) (g f : GH) (a0 : Int32) (a1 : Int32) : Option Int32 :=
  (if a1 < a0 then
    some a1
  else
    some a0)
def p_X2_segmentEnd (V : Nat → Nat) (g f : GH) (a0 : Nat) (a1 : Int32) : Option Int32 :=
  h_me f a0 5 <|
  (h_gi f a0 5 2).bind fun v1 =>
  (if v1 ≤ (a1 + (1 : Int32)) then
    some (0 : Int32)
  else
    some (a1 + (1 : Int32)))
def p_X2_side (V : Nat → Nat) (g f : GH) (a0 : Nat) (a1 : Int32) (a2 : Int32) (a3 : Int32) : Option Int32 :=
  h_me f a0 5 <|
  (p_X2_segmentEnd V g f a0 a1).bind fun v1 =>
  (h_gr f a0 5 0).bind fun v2 =>
  (h_li f v2 0 v1).bind fun v3 =>
  (h_gr f a0 5 0).bind fun v4 =>
  (h_li f v4 0 a1).bind fun v5 =>
  (h_gr f a0 5 1).bind fun v6 =>
  (h_li f v6 0 a1).bind fun v7 =>
  (h_gr f a0 5 1).bind fun v8 =>
  (h_li f v8 0 v1).bind fun v9 =>
  (h_gr f a0 5 1).bind fun v10 =>
  (h_li f v10 0 a1).bind fun v11 =>
  (h_gr f a0 5 0).bind fun v12 =>
  (h_li f v12 0 a1).bind fun v13 =>
  some (((v3 - v5) * (a3 - v7)) - ((v9 - v11) * (a2 - v13)))
def p_X2_liesOn (V : Nat → Nat) (g f : GH) (a0 : Nat) (a1 : Int32) (a2 : Int32) (a3 : Int32) : Option Int32 :=
  h_me f a0 5 <|
  (p_X2_segmentEnd V g f a0 a1).bind fun v1 =>
  (p_X2_side V g f a0 a1 a2 a3).bind fun v2 =>
  (if v2 = (0 : Int32) then
    (h_gr f a0 5 0).bind fun v4 =>
    (h_li f v4 0 a1).bind fun v5 =>
    (h_gr f a0 5 0).bind fun v6 =>
    (h_li f v6 0 v1).bind fun v7 =>
    (p_J9_min_7cf53 V g f v5 v7).bind fun v8 =>
    (if a2 < v8 then
      some (0 : Int32)
    else
      (h_gr f a0 5 0).bind fun v10 =>
      (h_li f v10 0 a1).bind fun v11 =>
      (h_gr f a0 5 0).bind fun v12 =>
      (h_li f v12 0 v1).bind fun v13 =>
      (p_J9_max_7cf53 V g f v11 v13).bind fun v14 =>
      (if v14 < a2 then
        some (0 : Int32)
      else
        (h_gr f a0 5 1).bind fun v16 =>
        (h_li f v16 0 a1).bind fun v17 =>
        (h_gr f a0 5 1).bind fun v18 =>
        (h_li f v18 0 v1).bind fun v19 =>
        (p_J9_min_7cf53 V g f v17 v19).bind fun v20 =>
        (if a3 < v20 then
          some (0 : Int32)
        else
          (h_gr f a0 5 1).bind fun v22 =>
          (h_li f v22 0 a1).bind fun v23 =>
          (h_gr f a0 5 1).bind fun v24 =>
          (h_li f v24 0 v1).bind fun v25 =>
          (p_J9_max_7cf53 V g f v23 v25).bind fun v26 =>
          (if v26 < a3 then
            some (0 : Int32)
          else
            some (1 : Int32)))))
  else
    some (0 : Int32))
def p_X2_rayCrosses_j36 (V : Nat → Nat) (g f : GH) (x0 : Nat) (x1 : Int32) (x2 : Int32) (x3 : Int32) (x4 : Int32) (t0 : Int32) : Option Int32 :=
  (if x4 = t0 then
    some (0 : Int32)
  else
    (p_X2_side V g f x0 x1 x2 x3).bind fun v7 =>
    (if t0 = (0 : Int32) then
      (if (0 : Int32) ≤ v7 then
        some (0 : Int32)
      else
        some (1 : Int32))
    else
      (if v7 ≤ (0 : Int32) then
        some (0 : Int32)
      else
        some (1 : Int32))))
def p_X2_rayCrosses_j15 (V : Nat → Nat) (g f : GH) (x0 : Nat) (x1 : Int32) (x2 : Int32) (x3 : Int32) (t0 : Int32) : Option Int32 :=
  (h_gr f x0 5 1).bind fun v3 =>
  (p_X2_segmentEnd V g f x0 x1).bind fun v4 =>
  (h_li f v3 0 v4).bind fun v5 =>
  (if v5 ≤ x3 then
    p_X2_rayCrosses_j36 V g f x0 x1 x2 x3 t0 (0 : Int32)
  else
    p_X2_rayCrosses_j36 V g f x0 x1 x2 x3 t0 (1 : Int32))
def p_X2_rayCrosses (V : Nat → Nat) (g f : GH) (a0 : Nat) (a1 : Int32) (a2 : Int32) (a3 : Int32) : Option Int32 :=
  h_me f a0 5 <|
  (h_gr f a0 5 1).bind fun v1 =>
  (h_li f v1 0 a1).bind fun v2 =>
  (if v2 ≤ a3 then
    p_X2_rayCrosses_j15 V g f a0 a1 a2 a3 (0 : Int32)
  else
    p_X2_rayCrosses_j15 V g f a0 a1 a2 a3 (1 : Int32))
def p_X2_segments (V : Nat → Nat) (g f : GH) (a0 : Nat) : Option Int32 :=
  h_me f a0 5 <|
  (h_gi f a0 5 3).bind fun v1 =>
  (if v1 = (0 : Int32) then
    (h_gi f a0 5 2).bind fun v3 =>
    some (v3 - (1 : Int32))
  else
    (h_gi f a0 5 2).bind fun v4 =>
    some v4)
def p_X2_covers_l5 (V : Nat → Nat) (g f : GH) (K25 : Option Int32) (K54 : Int32 → Option Int32) : Nat → Nat → Int32 → Int32 → Int32 → Int32 → Option Int32
  | 0, _, _, _, _, _ => none
  | N + 1, x0, x1, x2, x3, x4 =>
    (p_X2_segments V g f x0).bind fun v1 =>
    (if v1 ≤ x4 then
      K54 x3
    else
      (p_X2_liesOn V g f x0 x4 x1 x2).bind fun v3 =>
      (if v3 = (0 : Int32) then
        (p_X2_rayCrosses V g f x0 x4 x1 x2).bind fun v5 =>
        (if v5 = (0 : Int32) then
          p_X2_covers_l5 V g f K25 K54 N x0 x1 x2 x3 (x4 + (1 : Int32))
        else
          (if x3 = (0 : Int32) then
            p_X2_covers_l5 V g f K25 K54 N x0 x1 x2 (1 : Int32) (x4 + (1 : Int32))
          else
            p_X2_covers_l5 V g f K25 K54 N x0 x1 x2 (0 : Int32) (x4 + (1 : Int32))))
      else
        K25))
def p_X2_covers (V : Nat → Nat) (g f : GH) (a0 : Nat) (a1 : Int32) (a2 : Int32) : Option Int32 :=
  h_me f a0 5 <|
  p_X2_covers_l5 V g f (some (1 : Int32)) (fun x3 =>
    (h_bz x3).bind fun _ =>
    some x3) FU a0 a1 a2 (0 : Int32) (0 : Int32)
def p_X2_coversAll_l2 (V : Nat → Nat) (g f : GH) (K29 : Option Int32) (K37 : Option Int32) : Nat → Nat → Nat → Int32 → Option Int32
  | 0, _, _, _ => none
  | N + 1, x0, x1, x2 =>
    (h_gi f x1 5 2).bind fun v1 =>
    (if v1 ≤ x2 then
      K37
    else
      (h_gr f x1 5 0).bind fun v3 =>
      (h_li f v3 0 x2).bind fun v4 =>
      (h_gr f x1 5 1).bind fun v5 =>
      (h_li f v5 0 x2).bind fun v6 =>
      (p_X2_covers V g f x0 v4 v6).bind fun v7 =>
      (if v7 = (0 : Int32) then
        K29
      else
        p_X2_coversAll_l2 V g f K29 K37 N x0 x1 (x2 + (1 : Int32))))
def p_X2_coversAll (V : Nat → Nat) (g f : GH) (a0 : Nat) (a1 : Nat) : Option Int32 :=
  h_me f a0 5 <|
  p_X2_coversAll_l2 V g f (some (0 : Int32)) (some (1 : Int32)) FU a0 a1 (0 : Int32)
def p_X1_surrounds (V : Nat → Nat) (g f : GH) (a0 : Nat) (a1 : Int32) (a2 : Int32) : Option Int32 :=
  h_me f a0 4 <|
  (if a1 = a2 then
    some (0 : Int32)
  else
    (h_gr f a0 4 0).bind fun v2 =>
    (h_lq f v2 5 a1).bind fun v3 =>
    (h_gi f v3 5 3).bind fun v4 =>
    (if v4 = (0 : Int32) then
      some (0 : Int32)
    else
      (h_gr f a0 4 0).bind fun v6 =>
      (h_lq f v6 5 a1).bind fun v7 =>
      (h_gr f a0 4 0).bind fun v8 =>
      (h_lq f v8 5 a2).bind fun v9 =>
      (p_X2_coversAll V g f v7 v9).bind fun v10 =>
      (if v10 = (0 : Int32) then
        some (0 : Int32)
      else
        some (1 : Int32))))
def p_Jx29ce0_ordinal_8abf5 (V : Nat → Nat) (g f : GH) (a0 : Nat) : Option Int32 :=
  h_me (gO g) a0 50 <|
  (h_gi (gO g) a0 50 0).bind fun v1 =>
  some v1
def p_X7_isCoordinate (V : Nat → Nat) (g f : GH) (a0 : Int32) : Option Int32 :=
  (if a0 < (-1000 : Int32) then
    some (0 : Int32)
  else
    (if (1000 : Int32) < a0 then
      some (0 : Int32)
    else
      some (1 : Int32)))
def p_X2_canSlide_l2 (V : Nat → Nat) (g f : GH) (K38 : Option Int32) (K46 : Option Int32) : Nat → Nat → Int32 → Int32 → Int32 → Option Int32
  | 0, _, _, _, _ => none
  | N + 1, x0, x1, x2, x3 =>
    (h_gi f x0 5 2).bind fun v1 =>
    (if v1 ≤ x3 then
      K46
    else
      (h_gr f x0 5 0).bind fun v3 =>
      (h_li f v3 0 x3).bind fun v4 =>
      (p_X7_isCoordinate V g f (v4 + x1)).bind fun v5 =>
      (if v5 = (0 : Int32) then
        K38
      else
        (h_gr f x0 5 1).bind fun v7 =>
        (h_li f v7 0 x3).bind fun v8 =>
        (p_X7_isCoordinate V g f (v8 + x2)).bind fun v9 =>
        (if v9 = (0 : Int32) then
          K38
        else
          p_X2_canSlide_l2 V g f K38 K46 N x0 x1 x2 (x3 + (1 : Int32)))))
def p_X2_canSlide (V : Nat → Nat) (g f : GH) (a0 : Nat) (a1 : Int32) (a2 : Int32) : Option Int32 :=
  h_me f a0 5 <|
  p_X2_canSlide_l2 V g f (some (0 : Int32)) (some (1 : Int32)) FU a0 a1 a2 (0 : Int32)
def p_X2_neededPoints (V : Nat → Nat) (g f : GH) (a0 : Nat) : Option Int32 :=
  h_me f a0 5 <|
  (h_gi f a0 5 3).bind fun v1 =>
  (if v1 = (0 : Int32) then
    some (2 : Int32)
  else
    some (3 : Int32))
def p_X2_pointsAfterUnfold (V : Nat → Nat) (g f : GH) (a0 : Nat) : Option Int32 :=
  h_me f a0 5 <|
  (h_gi f a0 5 2).bind fun v1 =>
  some ((v1 + (1 : Int32)) >>> ((1 : Int32) &&& 31))
def p_X2_displacement (V : Nat → Nat) (g f : GH) (a0 : Nat) (a1 : Int32) (a2 : Int32) : Option Int32 :=
  h_me f a0 5 <|
  (if (a1 &&& (1 : Int32)) = (0 : Int32) then
    some a2
  else
    some (-a2))
def p_J9_abs_0f7a4 (V : Nat → Nat) (g f : GH) (a0 : Int32) : Option Int32 :=
  (if (0 : Int32) ≤ a0 then
    some a0
  else
    some (-a0))
def p_X2_isFlat (V : Nat → Nat) (g f : GH) (a0 : Nat) (a1 : Int32) (a2 : Int32) : Option Int32 :=
  h_me f a0 5 <|
  (h_gr f a0 5 0).bind fun v1 =>
  (h_li f v1 0 a1).bind fun v2 =>
  (h_gr f a0 5 0).bind fun v3 =>
  (h_li f v3 0 a2).bind fun v4 =>
  (p_J9_abs_0f7a4 V g f (v2 - v4)).bind fun v5 =>
  (h_gr f a0 5 1).bind fun v6 =>
  (h_li f v6 0 a1).bind fun v7 =>
  (h_gr f a0 5 1).bind fun v8 =>
  (h_li f v8 0 a2).bind fun v9 =>
  (p_J9_abs_0f7a4 V g f (v7 - v9)).bind fun v10 =>
  (if v5 < v10 then
    some (0 : Int32)
  else
    some (1 : Int32))
def p_X2_midpointX (V : Nat → Nat) (g f : GH) (a0 : Nat) (a1 : Int32) (a2 : Int32) : Option Int32 :=
  h_me f a0 5 <|
  (p_X2_segmentEnd V g f a0 a1).bind fun v1 =>
  (h_gr f a0 5 0).bind fun v2 =>
  (h_li f v2 0 a1).bind fun v3 =>
  (h_gr f a0 5 0).bind fun v4 =>
  (h_li f v4 0 v1).bind fun v5 =>
  (p_X2_isFlat V g f a0 a1 v1).bind fun v6 =>
  (if v6 = (0 : Int32) then
    (p_X2_displacement V g f a0 a1 a2).bind fun v8 =>
    some (((v3 + v5) >>> ((1 : Int32) &&& 31)) + v8)
  else
    some ((v3 + v5) >>> ((1 : Int32) &&& 31)))
def p_X2_midpointY (V : Nat → Nat) (g f : GH) (a0 : Nat) (a1 : Int32) (a2 : Int32) : Option Int32 :=
  h_me f a0 5 <|
  (p_X2_segmentEnd V g f a0 a1).bind fun v1 =>
  (h_gr f a0 5 1).bind fun v2 =>
  (h_li f v2 0 a1).bind fun v3 =>
  (h_gr f a0 5 1).bind fun v4 =>
  (h_li f v4 0 v1).bind fun v5 =>
  (p_X2_isFlat V g f a0 a1 v1).bind fun v6 =>
  (if v6 = (0 : Int32) then
    some ((v3 + v5) >>> ((1 : Int32) &&& 31))
  else
    (p_X2_displacement V g f a0 a1 a2).bind fun v8 =>
    some (((v3 + v5) >>> ((1 : Int32) &&& 31)) + v8))
def p_X2_whyNotFold_l19 (V : Nat → Nat) (g f : GH) (K51 : Option Int32) (K59 : Option Int32) : Nat → Nat → Int32 → Int32 → Option Int32
  | 0, _, _, _ => none
  | N + 1, x0, x1, x2 =>
    (p_X2_segments V g f x0).bind fun v4 =>
    (if v4 ≤ x2 then
      K59
    else
      (p_X2_midpointX V g f x0 x2 x1).bind fun v6 =>
      (p_X7_isCoordinate V g f v6).bind fun v7 =>
      (if v7 = (0 : Int32) then
        K51
      else
        (p_X2_midpointY V g f x0 x2 x1).bind fun v9 =>
        (p_X7_isCoordinate V g f v9).bind fun v10 =>
        (if v10 = (0 : Int32) then
          K51
        else
          p_X2_whyNotFold_l19 V g f K51 K59 N x0 x1 (x2 + (1 : Int32)))))
def p_X2_whyNotFold (V : Nat → Nat) (g f : GH) (a0 : Nat) (a1 : Int32) : Option Int32 :=
  h_me f a0 5 <|
  (h_gi f a0 5 2).bind fun v1 =>
  (p_X2_segments V g f a0).bind fun v2 =>
  (if (v1 + v2) ≤ (129 : Int32) then
    p_X2_whyNotFold_l19 V g f (some (2 : Int32)) (some (0 : Int32)) FU a0 a1 (0 : Int32)
  else
    some (1 : Int32))
def p_X1_allowsChange (V : Nat → Nat) (g f : GH) (a0 : Nat) (a1 : Nat) (a2 : Nat) : Option Int32 :=
  h_me f a0 4 <|
  (h_gr f a2 6 0).bind fun v1 =>
  (p_Jx29ce0_ordinal_8abf5 V g f v1).bind fun v2 =>
  (h_li (gA g) (V 13) 0 v2).bind fun v3 =>
  (if v3 = (1 : Int32) then
    (h_gi f a2 6 3).bind fun v5 =>
    (p_X2_whyNotFold V g f a1 v5).bind fun v6 =>
    (if v6 = (0 : Int32) then
      some (1 : Int32)
    else
      some (0 : Int32))
  else
  (if v3 = (2 : Int32) then
    (p_X2_pointsAfterUnfold V g f a1).bind fun v8 =>
    (p_X2_neededPoints V g f a1).bind fun v9 =>
    (if v8 < v9 then
      some (0 : Int32)
    else
      some (1 : Int32))
  else
  (if v3 = (3 : Int32) then
    (h_gi f a1 5 2).bind fun v11 =>
    (if (129 : Int32) ≤ v11 then
      some (0 : Int32)
    else
      some (1 : Int32))
  else
  (if v3 = (4 : Int32) then
    (h_gi f a1 5 2).bind fun v13 =>
    (p_X2_neededPoints V g f a1).bind fun v14 =>
    (if v13 ≤ v14 then
      some (0 : Int32)
    else
      some (1 : Int32))
  else
  (if v3 = (5 : Int32) then
    (h_gi f a2 6 3).bind fun v16 =>
    (h_gi f a2 6 4).bind fun v17 =>
    (p_X2_canSlide V g f a1 v16 v17).bind fun v18 =>
    (h_bz v18).bind fun _ =>
    some v18
  else
    some (1 : Int32))))))
def p_X6_allows (V : Nat → Nat) (g f : GH) (a0 : Nat) (a1 : Int32) : Option Int32 :=
  h_me (gO g) a0 50 <|
  (h_gi (gO g) a0 50 5).bind fun v1 =>
  (if a1 < (-v1) then
    some (0 : Int32)
  else
    (h_gi (gO g) a0 50 5).bind fun v3 =>
    (if v3 < a1 then
      some (0 : Int32)
    else
      some (1 : Int32)))
def p_X1_refusalOf_j106 (V : Nat → Nat) (g f : GH) (x0 : Nat) (x1 : Nat) (x2 : Nat) (x3 : Nat) : Option Int32 :=
  (h_gi f x1 6 3).bind fun v12 =>
  (p_X6_allows V g f x2 v12).bind fun v13 =>
  (if v13 = (0 : Int32) then
    some (2 : Int32)
  else
    (h_gi f x1 6 4).bind fun v15 =>
    (p_X6_allows V g f x2 v15).bind fun v16 =>
    (if v16 = (0 : Int32) then
      some (2 : Int32)
    else
      (p_X1_allowsChange V g f x0 x3 x1).bind fun v18 =>
      (if v18 = (0 : Int32) then
        some (3 : Int32)
      else
        some (0 : Int32))))
def p_X1_refusalOf_j79 (V : Nat → Nat) (g f : GH) (x0 : Nat) (x1 : Nat) (x2 : Nat) (x3 : Nat) (t0 : Int32) : Option Int32 :=
  (h_gi (gO g) x2 50 3).bind fun v11 =>
  (if v11 = (0 : Int32) then
    p_X1_refusalOf_j106 V g f x0 x1 x2 x3
  else
    (h_gi f x1 6 2).bind fun v21 =>
    (if v21 < (0 : Int32) then
      some (1 : Int32)
    else
      (h_gi f x1 6 2).bind fun v23 =>
      (if v23 < t0 then
        p_X1_refusalOf_j106 V g f x0 x1 x2 x3
      else
        some (1 : Int32))))
def p_X1_refusalOf (V : Nat → Nat) (g f : GH) (a0 : Nat) (a1 : Nat) : Option Int32 :=
  h_me f a0 4 <|
  (h_gr f a1 6 0).bind fun v1 =>
  (h_gi (gO g) v1 50 2).bind fun v2 =>
  (if v2 = (0 : Int32) then
    (if (some v1) = (some (V 11)) then
      some (0 : Int32)
    else
      (h_gi f a1 6 1).bind fun v5 =>
      (p_X1_hasCoast V g f a0 v5).bind fun v6 =>
      (if v6 = (0 : Int32) then
        some (1 : Int32)
      else
        (h_gr f a0 4 0).bind fun v8 =>
        (h_gi f a1 6 1).bind fun v9 =>
        (h_lq f v8 5 v9).bind fun v10 =>
        (if (some v1) = (some (V 6)) then
          (h_gi f v10 5 2).bind fun v27 =>
          p_X1_refusalOf_j79 V g f a0 a1 v1 v10 (v27 + (1 : Int32))
        else
          (h_gi f v10 5 2).bind fun v26 =>
          p_X1_refusalOf_j79 V g f a0 a1 v1 v10 v26)))
  else
    (h_gi f a0 4 1).bind fun v28 =>
    (if (6 : Int32) ≤ v28 then
      some (3 : Int32)
    else
      some (0 : Int32)))
def p_X1_add (V : Nat → Nat) (g f : GH) (a0 : Nat) (a1 : Nat) : Option (Int32 × GH) :=
  h_me f a0 4 <|
  (h_gr f a0 4 0).bind fun v1 =>
  (h_gi f a0 4 1).bind fun v2 =>
  (h_lq f v1 5 v2).bind fun v3 =>
  (p_X2_copyFrom V g f v3 a1).bind fun v4 =>
  (h_gi v4 a0 4 4).bind fun v5 =>
  (h_gi v4 a1 5 2).bind fun v6 =>
  (h_pt v4 a0 4 4 (.int (v5 + v6))).bind fun f7 =>
  (h_gi f7 a0 4 1).bind fun v8 =>
  (h_pt f7 a0 4 1 (.int (v8 + (1 : Int32)))).bind fun f9 =>
  (h_gi f9 a0 4 1).bind fun v10 =>
  some (v10 - (1 : Int32), f9)
def p_X2_distanceTo (V : Nat → Nat) (g f : GH) (a0 : Nat) (a1 : Int32) (a2 : Int32) (a3 : Int32) (a4 : Int32) : Option Int32 :=
  h_me f a0 5 <|
  (h_gr f a0 5 0).bind fun v1 =>
  (h_li f v1 0 a1).bind fun v2 =>
  (p_J9_abs_0f7a4 V g f (v2 - a2)).bind fun v3 =>
  (h_gr f a0 5 1).bind fun v4 =>
  (h_li f v4 0 a1).bind fun v5 =>
  (p_J9_abs_0f7a4 V g f (v5 - a3)).bind fun v6 =>
  (if a4 = (0 : Int32) then
    some (v3 + v6)
  else
    (p_J9_max_7cf53 V g f v3 v6).bind fun v8 =>
    some v8)
def p_X1_move (V : Nat → Nat) (g f : GH) (a0 : Nat) (a1 : Nat) (a2 : Nat) : Option (Int32 × GH) :=
  h_me f a0 4 <|
  (h_gi f a2 6 2).bind fun v1 =>
  (h_gi f a2 6 3).bind fun v2 =>
  (h_gi f a2 6 4).bind fun v3 =>
  (h_gi f a0 4 2).bind fun v4 =>
  (p_X2_distanceTo V g f a1 v1 v2 v3 v4).bind fun v5 =>
  (h_gr f a1 5 0).bind fun v6 =>
  (h_gi f a2 6 3).bind fun v7 =>
  (h_si f v6 0 v1 v7).bind fun f8 =>
  (h_gr f8 a1 5 1).bind fun v9 =>
  (h_gi f8 a2 6 4).bind fun v10 =>
  (h_si f8 v9 0 v1 v10).bind fun f11 =>
  some (v5, f11)
def p_X1_remove_l9 (V : Nat → Nat) (g : GH) (K39 : Nat → Nat → GH → Option (Int32 × GH)) : Nat → Nat → Nat → Int32 → GH → Option (Int32 × GH)
  | 0, _, _, _, _ => none
  | N + 1, x0, x2, x3, f =>
    (h_gi f x0 4 1).bind fun v3 =>
    (if v3 ≤ (x3 + (1 : Int32)) then
      K39 x0 x2 f
    else
      (h_gr f x0 4 0).bind fun v5 =>
      (h_gr f x0 4 0).bind fun v6 =>
      (h_lq f v6 5 (x3 + (1 : Int32))).bind fun v7 =>
      (h_sq f v5 5 5 x3 v7).bind fun f8 =>
      p_X1_remove_l9 V g K39 N x0 x2 (x3 + (1 : Int32)) f8)
def p_X1_remove (V : Nat → Nat) (g f : GH) (a0 : Nat) (a1 : Int32) : Option (Int32 × GH) :=
  h_me f a0 4 <|
  (h_gr f a0 4 0).bind fun v1 =>
  (h_lq f v1 5 a1).bind fun v2 =>
  p_X1_remove_l9 V g (fun x0 x2 f =>
    (h_gr f x0 4 0).bind fun v9 =>
    (h_gi f x0 4 1).bind fun v10 =>
    (h_sq f v9 5 5 (v10 - (1 : Int32)) x2).bind fun f11 =>
    (h_gi f11 x0 4 1).bind fun v12 =>
    (h_pt f11 x0 4 1 (.int (v12 - (1 : Int32)))).bind fun f13 =>
    (h_gi f13 x0 4 5).bind fun v14 =>
    (h_gi f13 x2 5 2).bind fun v15 =>
    (h_pt f13 x0 4 5 (.int (v14 + v15))).bind fun f16 =>
    (h_gi f16 x2 5 2).bind fun v17 =>
    some (v17, f16)) FU a0 v2 a1 f
def p_X2_drop (V : Nat → Nat) (g f : GH) (a0 : Nat) (a1 : Int32) : Option GH :=
  h_me f a0 5 <|
  (h_gr f a0 5 0).bind fun v1 =>
  (h_gr f a0 5 0).bind fun v2 =>
  (h_gi f a0 5 2).bind fun v3 =>
  (h_cp f 0 v1 (a1 + (1 : Int32)) v2 a1 ((v3 - a1) - (1 : Int32))).bind fun f4 =>
  (h_gr f4 a0 5 1).bind fun v5 =>
  (h_gr f4 a0 5 1).bind fun v6 =>
  (h_gi f4 a0 5 2).bind fun v7 =>
  (h_cp f4 0 v5 (a1 + (1 : Int32)) v6 a1 ((v7 - a1) - (1 : Int32))).bind fun f8 =>
  (h_gi f8 a0 5 2).bind fun v9 =>
  (h_pt f8 a0 5 2 (.int (v9 - (1 : Int32)))).bind fun f10 =>
  some f10
def p_X2_dropOddPoints_l7 (V : Nat → Nat) (g : GH) (K46 : Nat → Int32 → GH → Option GH) : Nat → Nat → Int32 → Int32 → GH → Option GH
  | 0, _, _, _, _ => none
  | N + 1, x0, x1, x2, f =>
    (if x1 ≤ x2 then
      K46 x0 x1 f
    else
      (h_gr f x0 5 0).bind fun v3 =>
      (h_gr f x0 5 0).bind fun v4 =>
      (h_li f v4 0 ((2 : Int32) * x2)).bind fun v5 =>
      (h_si f v3 0 x2 v5).bind fun f6 =>
      (h_gr f6 x0 5 1).bind fun v7 =>
      (h_gr f6 x0 5 1).bind fun v8 =>
      (h_li f6 v8 0 ((2 : Int32) * x2)).bind fun v9 =>
      (h_si f6 v7 0 x2 v9).bind fun f10 =>
      p_X2_dropOddPoints_l7 V g K46 N x0 x1 (x2 + (1 : Int32)) f10)
def p_X2_dropOddPoints (V : Nat → Nat) (g f : GH) (a0 : Nat) : Option GH :=
  h_me f a0 5 <|
  (p_X2_pointsAfterUnfold V g f a0).bind fun v1 =>
  p_X2_dropOddPoints_l7 V g (fun x0 x1 f =>
    (h_pt f x0 5 2 (.int x1)).bind fun f11 =>
    some f11) FU a0 v1 (0 : Int32) f
def p_X2_insertMidpoints_l17 (V : Nat → Nat) (g : GH) (K104 : Nat → Int32 → GH → Option GH) : Nat → Nat → Int32 → Int32 → Int32 → GH → Option GH
  | 0, _, _, _, _, _ => none
  | N + 1, x0, x1, x2, x3, f =>
    (if x3 < (0 : Int32) then
      K104 x0 x2 f
    else
      (p_X2_midpointX V g f x0 x3 x1).bind fun v5 =>
      (p_X2_midpointY V g f x0 x3 x1).bind fun v6 =>
      (h_gr f x0 5 0).bind fun v7 =>
      (h_gr f x0 5 0).bind fun v8 =>
      (h_li f v8 0 x3).bind fun v9 =>
      (h_si f v7 0 ((2 : Int32) * x3) v9).bind fun f10 =>
      (h_gr f10 x0 5 1).bind fun v11 =>
      (h_gr f10 x0 5 1).bind fun v12 =>
      (h_li f10 v12 0 x3).bind fun v13 =>
      (h_si f10 v11 0 ((2 : Int32) * x3) v13).bind fun f14 =>
      (if x2 ≤ (((2 : Int32) * x3) + (1 : Int32)) then
        p_X2_insertMidpoints_l17 V g K104 N x0 x1 x2 (x3 + (-1 : Int32)) f14
      else
        (h_gr f14 x0 5 0).bind fun v16 =>
        (h_si f14 v16 0 (((2 : Int32) * x3) + (1 : Int32)) v5).bind fun f17 =>
        (h_gr f17 x0 5 1).bind fun v18 =>
        (h_si f17 v18 0 (((2 : Int32) * x3) + (1 : Int32)) v6).bind fun f19 =>
        p_X2_insertMidpoints_l17 V g K104 N x0 x1 x2 (x3 + (-1 : Int32)) f19))
def p_X2_insertMidpoints (V : Nat → Nat) (g f : GH) (a0 : Nat) (a1 : Int32) : Option GH :=
  h_me f a0 5 <|
  (h_gi f a0 5 2).bind fun v1 =>
  (p_X2_segments V g f a0).bind fun v2 =>
  (h_gi f a0 5 2).bind fun v3 =>
  p_X2_insertMidpoints_l17 V g (fun x0 x2 f =>
    (h_pt f x0 5 2 (.int x2)).bind fun f20 =>
    some f20) FU a0 a1 (v1 + v2) (v3 - (1 : Int32)) f
def p_X2_slide_l2 (V : Nat → Nat) (g : GH) (K36 : GH → Option GH) : Nat → Nat → Int32 → Int32 → Int32 → GH → Option GH
  | 0, _, _, _, _, _ => none
  | N + 1, x0, x1, x2, x3, f =>
    (h_gi f x0 5 2).bind fun v1 =>
    (if v1 ≤ x3 then
      K36 f
    else
      (h_gr f x0 5 0).bind fun v3 =>
      (h_li f v3 0 x3).bind fun v4 =>
      (h_si f v3 0 x3 (v4 + x1)).bind fun f5 =>
      (h_gr f5 x0 5 1).bind fun v6 =>
      (h_li f5 v6 0 x3).bind fun v7 =>
      (h_si f5 v6 0 x3 (v7 + x2)).bind fun f8 =>
      p_X2_slide_l2 V g K36 N x0 x1 x2 (x3 + (1 : Int32)) f8)
def p_X2_slide (V : Nat → Nat) (g f : GH) (a0 : Nat) (a1 : Int32) (a2 : Int32) : Option GH :=
  h_me f a0 5 <|
  p_X2_slide_l2 V g (fun f =>
    some f) FU a0 a1 a2 (0 : Int32) f
def p_X2_turnAround_l9 (V : Nat → Nat) (g : GH) (K77 : GH → Option GH) : Nat → Nat → Int32 → Int32 → GH → Option GH
  | 0, _, _, _, _ => none
  | N + 1, x0, x1, x2, f =>
    (if x2 ≤ x1 then
      K77 f
    else
      (h_gr f x0 5 0).bind fun v3 =>
      (h_li f v3 0 x1).bind fun v4 =>
      (h_gr f x0 5 1).bind fun v5 =>
      (h_li f v5 0 x1).bind fun v6 =>
      (h_gr f x0 5 0).bind fun v7 =>
      (h_gr f x0 5 0).bind fun v8 =>
      (h_li f v8 0 x2).bind fun v9 =>
      (h_si f v7 0 x1 v9).bind fun f10 =>
      (h_gr f10 x0 5 1).bind fun v11 =>
      (h_gr f10 x0 5 1).bind fun v12 =>
      (h_li f10 v12 0 x2).bind fun v13 =>
      (h_si f10 v11 0 x1 v13).bind fun f14 =>
      (h_gr f14 x0 5 0).bind fun v15 =>
      (h_si f14 v15 0 x2 v4).bind fun f16 =>
      (h_gr f16 x0 5 1).bind fun v17 =>
      (h_si f16 v17 0 x2 v6).bind fun f18 =>
      p_X2_turnAround_l9 V g K77 N x0 (x1 + (1 : Int32)) (x2 + (-1 : Int32)) f18)
def p_X2_turnAround (V : Nat → Nat) (g f : GH) (a0 : Nat) : Option GH :=
  h_me f a0 5 <|
  (h_gi f a0 5 2).bind fun v1 =>
  p_X2_turnAround_l9 V g (fun f =>
    some f) FU a0 (0 : Int32) (v1 - (1 : Int32)) f
def p_X1_reshape (V : Nat → Nat) (g f : GH) (a0 : Nat) (a1 : Nat) (a2 : Nat) : Option GH :=
  h_me f a0 4 <|
  (h_gr f a2 6 0).bind fun v1 =>
  (p_Jx29ce0_ordinal_8abf5 V g f v1).bind fun v2 =>
  (h_li (gA g) (V 13) 0 v2).bind fun v3 =>
  (if v3 = (1 : Int32) then
    (h_gi f a2 6 3).bind fun v5 =>
    (p_X2_insertMidpoints V g f a1 v5).bind fun v6 =>
    some v6
  else
  (if v3 = (2 : Int32) then
    (p_X2_dropOddPoints V g f a1).bind fun v7 =>
    some v7
  else
  (if v3 = (3 : Int32) then
    (h_gi f a2 6 2).bind fun v8 =>
    (h_gi f a2 6 3).bind fun v9 =>
    (h_gi f a2 6 4).bind fun v10 =>
    (p_X2_insert V g f a1 v8 v9 v10).bind fun v11 =>
    some v11
  else
  (if v3 = (4 : Int32) then
    (h_gi f a2 6 2).bind fun v12 =>
    (p_X2_drop V g f a1 v12).bind fun v13 =>
    some v13
  else
  (if v3 = (5 : Int32) then
    (h_gi f a2 6 3).bind fun v14 =>
    (h_gi f a2 6 4).bind fun v15 =>
    (p_X2_slide V g f a1 v14 v15).bind fun v16 =>
    some v16
  else
  (if v3 = (6 : Int32) then
    some f
  else
  (if v3 = (7 : Int32) then
    some f
  else
  (if v3 = (8 : Int32) then
    some f
  else
  (if v3 = (9 : Int32) then
    some f
  else
  (if v3 = (10 : Int32) then
    some f
  else
  (if v3 = (11 : Int32) then
    (p_X2_turnAround V g f a1).bind fun v17 =>
    some v17
  else
    some f)))))))))))
def p_X1_apply (V : Nat → Nat) (g f : GH) (a0 : Nat) (a1 : Nat) : Option (Int32 × GH) :=
  h_me f a0 4 <|
  (h_gr f a1 6 0).bind fun v1 =>
  (p_Jx29ce0_ordinal_8abf5 V g f v1).bind fun v2 =>
  (h_li (gA g) (V 13) 0 v2).bind fun v3 =>
  (if v3 = (6 : Int32) then
    (h_gr f a1 6 6).bind fun v5 =>
    (p_X1_add V g f a0 v5).bind fun v6 =>
    some (v6.1, v6.2)
  else
  (if v3 = (7 : Int32) then
    (h_gr f a1 6 6).bind fun v7 =>
    (p_X1_add V g f a0 v7).bind fun v8 =>
    some (v8.1, v8.2)
  else
  (if v3 = (8 : Int32) then
    (h_gi f a0 4 2).bind fun v9 =>
    (if v9 = (0 : Int32) then
      (h_gi f a1 6 5).bind fun v11 =>
      (h_bz v11).bind fun _ =>
      (h_pt f a0 4 2 (.int v11)).bind fun f13 =>
      some ((0 : Int32), f13)
    else
      (h_gi f a1 6 5).bind fun v14 =>
      (h_bz v14).bind fun _ =>
      (h_pt f a0 4 2 (.int v14)).bind fun f16 =>
      some ((1 : Int32), f16))
  else
  (if v3 = (9 : Int32) then
    (h_gi f a1 6 1).bind fun v17 =>
    (p_X1_remove V g f a0 v17).bind fun v18 =>
    some (v18.1, v18.2)
  else
  (if v3 = (10 : Int32) then
    (h_gr f a0 4 0).bind fun v19 =>
    (h_gi f a1 6 1).bind fun v20 =>
    (h_lq f v19 5 v20).bind fun v21 =>
    (p_X1_move V g f a0 v21 a1).bind fun v22 =>
    some (v22.1, v22.2)
  else
    (h_gr f a0 4 0).bind fun v23 =>
    (h_gi f a1 6 1).bind fun v24 =>
    (h_lq f v23 5 v24).bind fun v25 =>
    (h_gi f v25 5 2).bind fun v26 =>
    (p_X1_reshape V g f a0 v25 a1).bind fun v27 =>
    (h_gi v27 a0 4 4).bind fun v28 =>
    (h_gi v27 v25 5 2).bind fun v29 =>
    (p_J9_max_7cf53 V g v27 (0 : Int32) (v29 - v26)).bind fun v30 =>
    (h_pt v27 a0 4 4 (.int (v28 + v30))).bind fun f31 =>
    (h_gi f31 a0 4 5).bind fun v32 =>
    (h_gi f31 v25 5 2).bind fun v33 =>
    (p_J9_max_7cf53 V g f31 (0 : Int32) (v26 - v33)).bind fun v34 =>
    (h_pt f31 a0 4 5 (.int (v32 + v34))).bind fun f35 =>
    (h_gi f35 v25 5 2).bind fun v36 =>
    some (v36, f35))))))
def p_X2_distance (V : Nat → Nat) (g f : GH) (a0 : Nat) (a1 : Int32) (a2 : Int32) (a3 : Int32) : Option Int32 :=
  h_me f a0 5 <|
  (h_gr f a0 5 0).bind fun v1 =>
  (h_li f v1 0 a2).bind fun v2 =>
  (h_gr f a0 5 1).bind fun v3 =>
  (h_li f v3 0 a2).bind fun v4 =>
  (p_X2_distanceTo V g f a0 a1 v2 v4 a3).bind fun v5 =>
  some v5
def p_X2_nearestTo_l6 (V : Nat → Nat) (g f : GH) (K46 : Int32 → Option Int32) : Nat → Nat → Int32 → Int32 → Int32 → Int32 → Int32 → Option Int32
  | 0, _, _, _, _, _, _ => none
  | N + 1, x0, x1, x2, x3, x4, x5 =>
    (h_gi f x0 5 2).bind fun v1 =>
    (if v1 ≤ x5 then
      K46 x4
    else
      (p_X2_distanceTo V g f x0 x5 x1 x2 x3).bind fun v3 =>
      (p_X2_distanceTo V g f x0 x4 x1 x2 x3).bind fun v4 =>
      (if v4 ≤ v3 then
        p_X2_nearestTo_l6 V g f K46 N x0 x1 x2 x3 x4 (x5 + (1 : Int32))
      else
        p_X2_nearestTo_l6 V g f K46 N x0 x1 x2 x3 x5 (x5 + (1 : Int32))))
def p_X2_nearestTo (V : Nat → Nat) (g f : GH) (a0 : Nat) (a1 : Int32) (a2 : Int32) (a3 : Int32) : Option Int32 :=
  h_me f a0 5 <|
  p_X2_nearestTo_l6 V g f (fun x4 =>
    some x4) FU a0 a1 a2 a3 (0 : Int32) (1 : Int32)
def p_X2_sticks_j33 (V : Nat → Nat) (g f : GH) (x2 : Int32) (t0 : Int32) : Option Int32 :=
  (if t0 = (0 : Int32) then
    some (x2 + (1 : Int32))
  else
    some x2)
def p_X2_sticks_j32 (V : Nat → Nat) (g f : GH) (K33 : Int32 → Int32 → Option Int32) (x2 : Int32) : Option Int32 :=
  K33 x2 (0 : Int32)
def p_X2_sticks (V : Nat → Nat) (g f : GH) (a0 : Nat) (a1 : Int32) : Option Int32 :=
  h_me f a0 5 <|
  (h_gi f a0 5 2).bind fun v1 =>
  (h_gi f a0 5 3).bind fun v2 =>
  (if v2 = (0 : Int32) then
    (h_gi f a0 5 2).bind fun v5 =>
    (if (((v1 - (1 : Int32)) >>> (a1 &&& 31)) <<< (a1 &&& 31)) = (v5 - (1 : Int32)) then
      p_X2_sticks_j33 V g f ((v1 - (1 : Int32)) >>> (a1 &&& 31)) (1 : Int32)
    else
      p_X2_sticks_j32 V g f (p_X2_sticks_j33 V g f) ((v1 - (1 : Int32)) >>> (a1 &&& 31)))
  else
    p_X2_sticks_j32 V g f (p_X2_sticks_j33 V g f) ((v1 - (1 : Int32)) >>> (a1 &&& 31)))
def p_X2_stickFrom (V : Nat → Nat) (g f : GH) (a0 : Nat) (a1 : Int32) (a2 : Int32) : Option Int32 :=
  h_me f a0 5 <|
  some (a2 <<< (a1 &&& 31))
def p_X2_stickTo (V : Nat → Nat) (g f : GH) (a0 : Nat) (a1 : Int32) (a2 : Int32) : Option Int32 :=
  h_me f a0 5 <|
  (h_gi f a0 5 2).bind fun v1 =>
  (if v1 ≤ ((a2 + (1 : Int32)) <<< (a1 &&& 31)) then
    (h_gi f a0 5 3).bind fun v3 =>
    (if v3 = (0 : Int32) then
      (h_gi f a0 5 2).bind fun v5 =>
      some (v5 - (1 : Int32))
    else
      some (0 : Int32))
  else
    some ((a2 + (1 : Int32)) <<< (a1 &&& 31)))
def p_X2_stickSpan (V : Nat → Nat) (g f : GH) (a0 : Nat) (a1 : Int32) (a2 : Int32) (a3 : Int32) : Option Int32 :=
  h_me f a0 5 <|
  (p_X2_stickFrom V g f a0 a1 a2).bind fun v1 =>
  (p_X2_stickTo V g f a0 a1 a2).bind fun v2 =>
  (p_X2_distance V g f a0 v1 v2 a3).bind fun v3 =>
  some v3
def p_X2_measure_l12 (V : Nat → Nat) (g f : GH) (K36 : Int32 → Option Int32) : Nat → Nat → Int32 → Int32 → Int32 → Int32 → Int32 → Option Int32
  | 0, _, _, _, _, _, _ => none
  | N + 1, x0, x1, x2, x3, x4, x5 =>
    (if x4 ≤ x5 then
      K36 x3
    else
      (p_X2_stickSpan V g f x0 x1 x5 x2).bind fun v3 =>
      p_X2_measure_l12 V g f K36 N x0 x1 x2 (x3 + v3) x4 (x5 + (1 : Int32)))
def p_X2_measure (V : Nat → Nat) (g f : GH) (a0 : Nat) (a1 : Int32) (a2 : Int32) : Option Int32 :=
  h_me f a0 5 <|
  (p_X2_sticks V g f a0 a1).bind fun v1 =>
  p_X2_measure_l12 V g f (fun x3 =>
    some x3) FU a0 a1 a2 (0 : Int32) v1 (0 : Int32)
def p_X2_gain (V : Nat → Nat) (g f : GH) (a0 : Nat) (a1 : Int32) (a2 : Int32) : Option Int32 :=
  h_me f a0 5 <|
  (p_X2_measure V g f a0 a1 a2).bind fun v1 =>
  (p_X2_measure V g f a0 (a1 + (1 : Int32)) a2).bind fun v2 =>
  some (v1 - v2)
def p_X2_coarsestReaching_l3 (V : Nat → Nat) (g f : GH) (K17 : Int32 → Option Int32) (K25 : Option Int32) : Nat → Nat → Int32 → Int32 → Int32 → Option Int32
  | 0, _, _, _, _ => none
  | N + 1, x0, x1, x2, x3 =>
    (if x3 < (0 : Int32) then
      K25
    else
      (p_X2_measure V g f x0 x3 x2).bind fun v2 =>
      (if v2 < x1 then
        p_X2_coarsestReaching_l3 V g f K17 K25 N x0 x1 x2 (x3 + (-1 : Int32))
      else
        K17 x3))
def p_X2_coarsestReaching (V : Nat → Nat) (g f : GH) (a0 : Nat) (a1 : Int32) (a2 : Int32) : Option Int32 :=
  h_me f a0 5 <|
  p_X2_coarsestReaching_l3 V g f (fun x3 =>
    some x3) (some (-1 : Int32)) FU a0 a1 a2 (7 : Int32)
def p_X2_measureWithout_j124 (V : Nat → Nat) (g f : GH) (x0 : Nat) (x2 : Int32) (x3 : Int32) (x4 : Int32) (x5 : Int32) (x6 : Int32) (x7 : Int32) : Option Int32 :=
  (if x3 = (0 : Int32) then
    (if x4 = (0 : Int32) then
      (p_X2_distance V g f x0 x5 x6 x2).bind fun v10 =>
      some (x7 + v10)
    else
      some x7)
  else
    some x7)
def p_X2_measureWithout_j106 (V : Nat → Nat) (g f : GH) (x0 : Nat) (x1 : Int32) (x2 : Int32) (x3 : Int32) (x4 : Int32) (x5 : Int32) (x6 : Int32) (x7 : Int32) : Option Int32 :=
  (if x4 = (0 : Int32) then
    (p_X2_distance V g f x0 x1 x6 x2).bind fun v12 =>
    p_X2_measureWithout_j124 V g f x0 x2 x3 x4 x5 x6 (x7 - v12)
  else
    p_X2_measureWithout_j124 V g f x0 x2 x3 x4 x5 x6 x7)
def p_X2_measureWithout_j72 (V : Nat → Nat) (g f : GH) (x0 : Nat) (x1 : Int32) (x2 : Int32) (x3 : Int32) (x4 : Int32) (t0 : Int32) : Option Int32 :=
  (p_X2_segmentEnd V g f x0 x1).bind fun v6 =>
  (p_X2_measure V g f x0 (0 : Int32) x2).bind fun v7 =>
  (if x3 = (0 : Int32) then
    (p_X2_distance V g f x0 t0 x1 x2).bind fun v14 =>
    p_X2_measureWithout_j106 V g f x0 x1 x2 x3 x4 t0 v6 (v7 - v14)
  else
    p_X2_measureWithout_j106 V g f x0 x1 x2 x3 x4 t0 v6 v7)
def p_X2_measureWithout_j54 (V : Nat → Nat) (g f : GH) (x0 : Nat) (x1 : Int32) (x2 : Int32) (x3 : Int32) (t0 : Int32) : Option Int32 :=
  (if x1 = (0 : Int32) then
    (h_gi f x0 5 2).bind fun v16 =>
    p_X2_measureWithout_j72 V g f x0 x1 x2 x3 t0 (v16 - (1 : Int32))
  else
    p_X2_measureWithout_j72 V g f x0 x1 x2 x3 t0 (x1 - (1 : Int32)))
def p_X2_measureWithout_j53 (V : Nat → Nat) (g f : GH) (K54 : Nat → Int32 → Int32 → Int32 → Int32 → Option Int32) (x0 : Nat) (x1 : Int32) (x2 : Int32) (x3 : Int32) : Option Int32 :=
  K54 x0 x1 x2 x3 (0 : Int32)
def p_X2_measureWithout_j31 (V : Nat → Nat) (g f : GH) (x0 : Nat) (x1 : Int32) (x2 : Int32) (t0 : Int32) : Option Int32 :=
  (h_gi f x0 5 3).bind fun v5 =>
  (if v5 = (0 : Int32) then
    (h_gi f x0 5 2).bind fun v18 =>
    (if x1 = (v18 - (1 : Int32)) then
      p_X2_measureWithout_j54 V g f x0 x1 x2 t0 (1 : Int32)
    else
      p_X2_measureWithout_j53 V g f (p_X2_measureWithout_j54 V g f) x0 x1 x2 t0)
  else
    p_X2_measureWithout_j53 V g f (p_X2_measureWithout_j54 V g f) x0 x1 x2 t0)
def p_X2_measureWithout_j30 (V : Nat → Nat) (g f : GH) (K31 : Nat → Int32 → Int32 → Int32 → Option Int32) (x0 : Nat) (x1 : Int32) (x2 : Int32) : Option Int32 :=
  K31 x0 x1 x2 (0 : Int32)
def p_X2_measureWithout (V : Nat → Nat) (g f : GH) (a0 : Nat) (a1 : Int32) (a2 : Int32) : Option Int32 :=
  h_me f a0 5 <|
  (h_gi f a0 5 2).bind fun v1 =>
  (p_X2_neededPoints V g f a0).bind fun v2 =>
  (if v2 ≤ (v1 - (1 : Int32)) then
    (h_gi f a0 5 3).bind fun v4 =>
    (if v4 = (0 : Int32) then
      (if a1 = (0 : Int32) then
        p_X2_measureWithout_j31 V g f a0 a1 a2 (1 : Int32)
      else
        p_X2_measureWithout_j30 V g f (p_X2_measureWithout_j31 V g f) a0 a1 a2)
    else
      p_X2_measureWithout_j30 V g f (p_X2_measureWithout_j31 V g f) a0 a1 a2)
  else
    some (-1 : Int32))
def p_X2_signedArea_l4 (V : Nat → Nat) (g f : GH) (K54 : Int32 → Option Int32) : Nat → Nat → Int32 → Int32 → Option Int32
  | 0, _, _, _ => none
  | N + 1, x0, x1, x2 =>
    (p_X2_segments V g f x0).bind fun v1 =>
    (if v1 ≤ x2 then
      K54 x1
    else
      (p_X2_segmentEnd V g f x0 x2).bind fun v3 =>
      (h_gr f x0 5 0).bind fun v4 =>
      (h_li f v4 0 x2).bind fun v5 =>
      (h_gr f x0 5 1).bind fun v6 =>
      (h_li f v6 0 v3).bind fun v7 =>
      (h_gr f x0 5 0).bind fun v8 =>
      (h_li f v8 0 v3).bind fun v9 =>
      (h_gr f x0 5 1).bind fun v10 =>
      (h_li f v10 0 x2).bind fun v11 =>
      p_X2_signedArea_l4 V g f K54 N x0 (x1 + ((v5 * v7) - (v9 * v11))) (x2 + (1 : Int32)))
def p_X2_signedArea (V : Nat → Nat) (g f : GH) (a0 : Nat) : Option Int32 :=
  h_me f a0 5 <|
  p_X2_signedArea_l4 V g f (fun x1 =>
    some x1) FU a0 (0 : Int32) (0 : Int32)
def p_X3_init (V : Nat → Nat) (g f : GH) (n : Nat) (a0 : Nat) : Option (GH × Nat) :=
  h_me f a0 6 <|
  (h_pt f a0 6 0 (.ref (V 11))).bind fun f1 =>
  (some (h_up f1 n (.inr (5, [.null, .null, .int 0, .int 0])))).bind fun f2 =>
  (p_X2_init V g f2 (n + 1) n (33 : Int32)).bind fun v3 =>
  (h_pt v3.1 a0 6 6 (.ref n)).bind fun f4 =>
  some (f4, v3.2)
def p_X3_set (V : Nat → Nat) (g f : GH) (a0 : Nat) (a1 : Nat) (a2 : Int32) (a3 : Int32) (a4 : Int32) (a5 : Int32) : Option GH :=
  h_me f a0 6 <|
  (h_pt f a0 6 0 (.ref a1)).bind fun f1 =>
  (h_pt f1 a0 6 1 (.int a2)).bind fun f2 =>
  (h_pt f2 a0 6 2 (.int a3)).bind fun f3 =>
  (h_pt f3 a0 6 3 (.int a4)).bind fun f4 =>
  (h_pt f4 a0 6 4 (.int a5)).bind fun f5 =>
  some f5
def p_X4_init (V : Nat → Nat) (g f : GH) (a0 : Nat) (a1 : Nat) : Option GH :=
  h_me f a0 7 <|
  (h_pt f a0 7 2 (.int (-1 : Int32))).bind fun f1 =>
  (h_pt f1 a0 7 0 (.ref a1)).bind fun f2 =>
  some f2
def p_X5_endOfRun_l5 (V : Nat → Nat) (g f : GH) (K39 : Int32 → Option Int32) : Nat → Nat → Int32 → Int32 → Int32 → Option Int32
  | 0, _, _, _, _ => none
  | N + 1, x0, x1, x2, x3 =>
    (h_gi f x0 8 2).bind fun v2 =>
    (if v2 ≤ x3 then
      K39 x3
    else
      (h_gr f x0 8 0).bind fun v4 =>
      (h_li f v4 1 x3).bind fun v5 =>
      (if v5 < x1 then
        K39 x3
      else
        (h_gr f x0 8 0).bind fun v7 =>
        (h_li f v7 1 x3).bind fun v8 =>
        (if x2 < v8 then
          K39 x3
        else
          p_X5_endOfRun_l5 V g f K39 N x0 x1 x2 (x3 + (1 : Int32)))))
def p_X5_endOfRun (V : Nat → Nat) (g f : GH) (a0 : Nat) (a1 : Int32) (a2 : Int32) : Option Int32 :=
  h_me f a0 8 <|
  (h_gi f a0 8 4).bind fun v1 =>
  p_X5_endOfRun_l5 V g f (fun x3 =>
    some x3) FU a0 a1 a2 v1
def p_X5_kindOfSign (V : Nat → Nat) (g f : GH) (a0 : Int32) : Option Int32 :=
  (if a0 = (59 : Int32) then
    some (3 : Int32)
  else
    (if a0 = (44 : Int32) then
      some (4 : Int32)
    else
      (if a0 = (45 : Int32) then
        some (5 : Int32)
      else
        some (6 : Int32))))
def p_X5_advance_l0 (V : Nat → Nat) (g : GH) (K52 : Nat → GH → Option GH) : Nat → Nat → GH → Option GH
  | 0, _, _ => none
  | N + 1, x0, f =>
    (h_gi f x0 8 5).bind fun v1 =>
    (h_gi f x0 8 2).bind fun v2 =>
    (if v2 ≤ v1 then
      K52 x0 f
    else
      (h_gr f x0 8 0).bind fun v4 =>
      (h_gi f x0 8 5).bind fun v5 =>
      (h_li f v4 1 v5).bind fun v6 =>
      (if v6 = (32 : Int32) then
        (h_gi f x0 8 5).bind fun v8 =>
        (h_pt f x0 8 5 (.int (v8 + (1 : Int32)))).bind fun f9 =>
        p_X5_advance_l0 V g K52 N x0 f9
      else
        (h_gr f x0 8 0).bind fun v10 =>
        (h_gi f x0 8 5).bind fun v11 =>
        (h_li f v10 1 v11).bind fun v12 =>
        (if v12 = (10 : Int32) then
          (h_gi f x0 8 5).bind fun v14 =>
          (h_pt f x0 8 5 (.int (v14 + (1 : Int32)))).bind fun f15 =>
          p_X5_advance_l0 V g K52 N x0 f15
        else
          K52 x0 f)))
def p_X5_advance_j175 (V : Nat → Nat) (g : GH) (x0 : Nat) (f : GH) : Option GH :=
  (h_gr f x0 8 0).bind fun v27 =>
  (h_gi f x0 8 5).bind fun v28 =>
  (h_li f v27 1 v28).bind fun v29 =>
  (p_X5_kindOfSign V g f v29).bind fun v30 =>
  (h_pt f x0 8 3 (.int v30)).bind fun f31 =>
  (h_gi f31 x0 8 5).bind fun v32 =>
  (h_pt f31 x0 8 5 (.int (v32 + (1 : Int32)))).bind fun f33 =>
  some f33
def p_X5_advance_j127 (V : Nat → Nat) (g : GH) (x0 : Nat) (f : GH) : Option GH :=
  (h_gr f x0 8 0).bind fun v24 =>
  (h_gi f x0 8 5).bind fun v25 =>
  (h_li f v24 1 v25).bind fun v26 =>
  (if v26 < (48 : Int32) then
    p_X5_advance_j175 V g x0 f
  else
    (h_gr f x0 8 0).bind fun v35 =>
    (h_gi f x0 8 5).bind fun v36 =>
    (h_li f v35 1 v36).bind fun v37 =>
    (if (57 : Int32) < v37 then
      p_X5_advance_j175 V g x0 f
    else
      (h_pt f x0 8 3 (.int (2 : Int32))).bind fun f39 =>
      (p_X5_endOfRun V g f39 x0 (48 : Int32) (57 : Int32)).bind fun v40 =>
      (h_pt f39 x0 8 5 (.int v40)).bind fun f41 =>
      some f41))
def p_X5_advance (V : Nat → Nat) (g f : GH) (a0 : Nat) : Option GH :=
  h_me f a0 8 <|
  p_X5_advance_l0 V g (fun x0 f =>
    (h_gi f x0 8 5).bind fun v16 =>
    (h_pt f x0 8 4 (.int v16)).bind fun f17 =>
    (h_gi f17 x0 8 5).bind fun v18 =>
    (h_gi f17 x0 8 2).bind fun v19 =>
    (if v18 < v19 then
      (h_gr f17 x0 8 0).bind fun v21 =>
      (h_gi f17 x0 8 5).bind fun v22 =>
      (h_li f17 v21 1 v22).bind fun v23 =>
      (if v23 < (97 : Int32) then
        p_X5_advance_j127 V g x0 f17
      else
        (h_gr f17 x0 8 0).bind fun v43 =>
        (h_gi f17 x0 8 5).bind fun v44 =>
        (h_li f17 v43 1 v44).bind fun v45 =>
        (if (122 : Int32) < v45 then
          p_X5_advance_j127 V g x0 f17
        else
          (h_pt f17 x0 8 3 (.int (1 : Int32))).bind fun f47 =>
          (p_X5_endOfRun V g f47 x0 (97 : Int32) (122 : Int32)).bind fun v48 =>
          (h_pt f47 x0 8 5 (.int v48)).bind fun f49 =>
          some f49))
    else
      (h_pt f17 x0 8 3 (.int (0 : Int32))).bind fun f50 =>
      some f50)) FU a0 f
def p_X5_begin (V : Nat → Nat) (g f : GH) (a0 : Nat) (a1 : Int32) : Option GH :=
  h_me f a0 8 <|
  (h_pt f a0 8 2 (.int a1)).bind fun f1 =>
  (h_pt f1 a0 8 5 (.int (0 : Int32))).bind fun f2 =>
  (p_X5_advance V g f2 a0).bind fun v3 =>
  some v3
def p_X4_begin (V : Nat → Nat) (g f : GH) (a0 : Nat) (a1 : Int32) : Option GH :=
  h_me f a0 7 <|
  (h_pt f a0 7 1 (.int (0 : Int32))).bind fun f1 =>
  (h_pt f1 a0 7 2 (.int (-1 : Int32))).bind fun f2 =>
  (h_gr f2 a0 7 0).bind fun v3 =>
  (p_X5_begin V g f2 v3 a1).bind fun v4 =>
  some v4
def p_X4_fail (V : Nat → Nat) (g f : GH) (a0 : Nat) (a1 : Int32) : Option (Int32 × GH) :=
  h_me f a0 7 <|
  (h_pt f a0 7 1 (.int a1)).bind fun f1 =>
  (h_gr f1 a0 7 0).bind fun v2 =>
  (h_gi f1 v2 8 4).bind fun v3 =>
  (h_pt f1 a0 7 2 (.int v3)).bind fun f4 =>
  some ((0 : Int32), f4)
def p_X5_value_l7 (V : Nat → Nat) (g f : GH) (K42 : Int32 → Option Int32) : Nat → Nat → Int32 → Int32 → Option Int32
  | 0, _, _, _ => none
  | N + 1, x0, x1, x2 =>
    (h_gi f x0 8 5).bind fun v2 =>
    (if v2 ≤ x2 then
      K42 x1
    else
      (if (1000000 : Int32) < x1 then
        K42 x1
      else
        (h_gr f x0 8 0).bind fun v5 =>
        (h_li f v5 1 x2).bind fun v6 =>
        p_X5_value_l7 V g f K42 N x0 ((((10 : Int32) * x1) + v6) - (48 : Int32)) (x2 + (1 : Int32))))
def p_X5_value (V : Nat → Nat) (g f : GH) (a0 : Nat) : Option Int32 :=
  h_me f a0 8 <|
  (h_gi f a0 8 4).bind fun v1 =>
  p_X5_value_l7 V g f (fun x1 =>
    some x1) FU a0 (0 : Int32) v1
def p_X4_readInteger_j72 (V : Nat → Nat) (g : GH) (x0 : Nat) (x1 : Int32) (x2 : Int32) (t0 : Int32) (t1 : Nat) (f : GH) : Option (Int32 × GH) :=
  (h_pt f t1 7 3 (.int t0)).bind fun f4 =>
  (h_gi f4 x0 7 3).bind fun v5 =>
  (if v5 < x1 then
    (p_X4_fail V g f4 x0 (2 : Int32)).bind fun v7 =>
    (h_bz v7.1).bind fun _ =>
    some (v7.1, v7.2)
  else
    (h_gi f4 x0 7 3).bind fun v9 =>
    (if v9 ≤ x2 then
      (h_gr f4 x0 7 0).bind fun v11 =>
      (p_X5_advance V g f4 v11).bind fun v12 =>
      some ((1 : Int32), v12)
    else
      (p_X4_fail V g f4 x0 (2 : Int32)).bind fun v13 =>
      (h_bz v13.1).bind fun _ =>
      some (v13.1, v13.2)))
def p_X4_readInteger_j32 (V : Nat → Nat) (g : GH) (x0 : Nat) (x1 : Int32) (x2 : Int32) (x3 : Int32) (f : GH) : Option (Int32 × GH) :=
  (h_gr f x0 7 0).bind fun v1 =>
  (h_gi f v1 8 3).bind fun v2 =>
  (if v2 = (2 : Int32) then
    (if x3 = (0 : Int32) then
      (h_gr f x0 7 0).bind fun v16 =>
      (p_X5_value V g f v16).bind fun v17 =>
      p_X4_readInteger_j72 V g x0 x1 x2 v17 x0 f
    else
      (h_gr f x0 7 0).bind fun v18 =>
      (p_X5_value V g f v18).bind fun v19 =>
      p_X4_readInteger_j72 V g x0 x1 x2 (-v19) x0 f)
  else
    (p_X4_fail V g f x0 (1 : Int32)).bind fun v20 =>
    (h_bz v20.1).bind fun _ =>
    some (v20.1, v20.2))
def p_X4_readInteger_j20 (V : Nat → Nat) (g : GH) (x0 : Nat) (x1 : Int32) (x2 : Int32) (t0 : Int32) (f : GH) : Option (Int32 × GH) :=
  (if t0 = (0 : Int32) then
    p_X4_readInteger_j32 V g x0 x1 x2 t0 f
  else
    (h_gr f x0 7 0).bind fun v23 =>
    (p_X5_advance V g f v23).bind fun v24 =>
    p_X4_readInteger_j32 V g x0 x1 x2 t0 v24)
def p_X4_readInteger_j19 (V : Nat → Nat) (g : GH) (K20 : Nat → Int32 → Int32 → Int32 → GH → Option (Int32 × GH)) (x0 : Nat) (x1 : Int32) (x2 : Int32) (f : GH) : Option (Int32 × GH) :=
  K20 x0 x1 x2 (0 : Int32) f
def p_X4_readInteger (V : Nat → Nat) (g f : GH) (a0 : Nat) (a1 : Int32) (a2 : Int32) : Option (Int32 × GH) :=
  h_me f a0 7 <|
  (if (0 : Int32) ≤ a1 then
    p_X4_readInteger_j19 V g (p_X4_readInteger_j20 V g) a0 a1 a2 f
  else
    (h_gr f a0 7 0).bind fun v26 =>
    (h_gi f v26 8 3).bind fun v27 =>
    (if v27 = (5 : Int32) then
      p_X4_readInteger_j20 V g a0 a1 a2 (1 : Int32) f
    else
      p_X4_readInteger_j19 V g (p_X4_readInteger_j20 V g) a0 a1 a2 f))
def p_X4_refusePoint (V : Nat → Nat) (g f : GH) (a0 : Nat) : Option (Int32 × GH) :=
  h_me f a0 7 <|
  (h_gr f a0 7 0).bind fun v1 =>
  (h_gi f v1 8 3).bind fun v2 =>
  (if v2 = (5 : Int32) then
    (p_X4_fail V g f a0 (3 : Int32)).bind fun v16 =>
    (h_bz v16.1).bind fun _ =>
    some (v16.1, v16.2)
  else
    (h_gr f a0 7 0).bind fun v4 =>
    (h_gi f v4 8 3).bind fun v5 =>
    (if v5 = (2 : Int32) then
      (h_gr f a0 7 0).bind fun v7 =>
      (p_X5_value V g f v7).bind fun v8 =>
      (if v8 ≤ (1000 : Int32) then
        (p_X4_fail V g f a0 (3 : Int32)).bind fun v10 =>
        (h_bz v10.1).bind fun _ =>
        some (v10.1, v10.2)
      else
        (p_X4_fail V g f a0 (2 : Int32)).bind fun v12 =>
        (h_bz v12.1).bind fun _ =>
        some (v12.1, v12.2))
    else
      (p_X4_fail V g f a0 (1 : Int32)).bind fun v14 =>
      (h_bz v14.1).bind fun _ =>
      some (v14.1, v14.2)))
def p_J0_isLatin1_aae02 (V : Nat → Nat) (g f : GH) (a0 : Nat) : Option Int32 :=
  h_me (gO g) a0 51 <|
  (h_gi (gO g) a0 51 1).bind fun v1 =>
  (if v1 = (0 : Int32) then
    some (1 : Int32)
  else
    some (0 : Int32))
def p_J3_checkIndex_8e157 (V : Nat → Nat) (g f : GH) (a0 : Int32) (a1 : Int32) (a2 : Option Nat) : Option Int32 :=
  (if a0 < (0 : Int32) then
    none
  else
    (if a0 < a1 then
      some a0
    else
      none))
def p_J0_checkIndex_df160 (V : Nat → Nat) (g f : GH) (a0 : Int32) (a1 : Int32) : Option Unit :=
  (p_J3_checkIndex_8e157 V g f a0 a1 (if V 19 = 0 then none else some (V 19 - 1))).bind fun v1 =>
  some ()
def p_J1_charAt_3b067 (V : Nat → Nat) (g f : GH) (a0 : Nat) (a1 : Int32) : Option Int32 :=
  (h_al (gA g) a0 1).bind fun v1 =>
  (p_J0_checkIndex_df160 V g f a1 v1).bind fun v2 =>
  (h_li (gA g) a0 1 a1).bind fun v3 =>
  (h_cz (((v3 &&& (255 : Int32)).toUInt32 % 65536).toInt32)).bind fun _ =>
  some (((v3 &&& (255 : Int32)).toUInt32 % 65536).toInt32)
def p_J0_charAt_5068e (V : Nat → Nat) (g f : GH) (a0 : Nat) (a1 : Int32) : Option Int32 :=
  h_me (gO g) a0 51 <|
  (p_J0_isLatin1_aae02 V g f a0).bind fun v1 =>
  (if v1 = (0 : Int32) then
    none
  else
    (h_gr (gO g) a0 51 0).bind fun v3 =>
    (p_J1_charAt_3b067 V g f v3 a1).bind fun v4 =>
    (h_cz v4).bind fun _ =>
    some v4)
def p_J0_coder_7d493 (V : Nat → Nat) (g f : GH) (a0 : Nat) : Option Int32 :=
  h_me (gO g) a0 51 <|
  (h_gi (gO g) a0 51 1).bind fun v1 =>
  (h_yz v1).bind fun _ =>
  some v1
def p_J0_length_8abf5 (V : Nat → Nat) (g f : GH) (a0 : Nat) : Option Int32 :=
  h_me (gO g) a0 51 <|
  (h_gr (gO g) a0 51 0).bind fun v1 =>
  (h_al (gA g) v1 1).bind fun v2 =>
  (p_J0_coder_7d493 V g f a0).bind fun v3 =>
  some (v2 >>> (v3 &&& 31))
def p_X5_isWord_l28 (V : Nat → Nat) (g f : GH) (K55 : Option Int32) (K63 : Option Int32) : Nat → Nat → Nat → Int32 → Option Int32
  | 0, _, _, _ => none
  | N + 1, x0, x1, x2 =>
    (p_J0_length_8abf5 V g f x1).bind fun v7 =>
    (if v7 ≤ x2 then
      K63
    else
      (h_gr f x0 8 0).bind fun v9 =>
      (h_gi f x0 8 4).bind fun v10 =>
      (h_li f v9 1 (v10 + x2)).bind fun v11 =>
      (p_J0_charAt_5068e V g f x1 x2).bind fun v12 =>
      (if v11 = v12 then
        p_X5_isWord_l28 V g f K55 K63 N x0 x1 (x2 + (1 : Int32))
      else
        K55))
def p_X5_isWord (V : Nat → Nat) (g f : GH) (a0 : Nat) (a1 : Nat) : Option Int32 :=
  h_me f a0 8 <|
  (h_gi f a0 8 3).bind fun v1 =>
  (if v1 = (1 : Int32) then
    (h_gi f a0 8 5).bind fun v3 =>
    (h_gi f a0 8 4).bind fun v4 =>
    (p_J0_length_8abf5 V g f a1).bind fun v5 =>
    (if (v3 - v4) = v5 then
      p_X5_isWord_l28 V g f (some (0 : Int32)) (some (1 : Int32)) FU a0 a1 (0 : Int32)
    else
      some (0 : Int32))
  else
    some (0 : Int32))
def p_X4_takeWord (V : Nat → Nat) (g f : GH) (a0 : Nat) (a1 : Nat) : Option (Int32 × GH) :=
  h_me f a0 7 <|
  (h_gr f a0 7 0).bind fun v1 =>
  (p_X5_isWord V g f v1 a1).bind fun v2 =>
  (if v2 = (0 : Int32) then
    (p_X4_fail V g f a0 (1 : Int32)).bind fun v6 =>
    (h_bz v6.1).bind fun _ =>
    some (v6.1, v6.2)
  else
    (h_gr f a0 7 0).bind fun v4 =>
    (p_X5_advance V g f v4).bind fun v5 =>
    some ((1 : Int32), v5))
def p_X4_readCoast_l43 (V : Nat → Nat) (g : GH) (K62 : GH → Option (Int32 × GH)) (K82 : GH → Option (Int32 × GH)) (K108 : Nat → Nat → GH → Option (Int32 × GH)) (K146 : Nat → GH → Option (Int32 × GH)) : Nat → Nat → Nat → Int32 → GH → Option (Int32 × GH)
  | 0, _, _, _, _ => none
  | N + 1, x0, x1, x2, f =>
    (if (33 : Int32) ≤ x2 then
      K146 x0 f
    else
      (p_X4_readInteger V g f x0 (-1000 : Int32) (1000 : Int32)).bind fun v10 =>
      (if v10.1 = (0 : Int32) then
        K62 v10.2
      else
        (h_gi v10.2 x0 7 3).bind fun v12 =>
        (p_X4_readInteger V g v10.2 x0 (-1000 : Int32) (1000 : Int32)).bind fun v13 =>
        (if v13.1 = (0 : Int32) then
          K82 v13.2
        else
          (h_gi v13.2 x1 5 2).bind fun v15 =>
          (h_gi v13.2 x0 7 3).bind fun v16 =>
          (p_X2_insert V g v13.2 x1 v15 v12 v16).bind fun v17 =>
          (h_gr v17 x0 7 0).bind fun v18 =>
          (h_gi v17 v18 8 3).bind fun v19 =>
          (if v19 = (4 : Int32) then
            (h_gr v17 x0 7 0).bind fun v21 =>
            (p_X5_advance V g v17 v21).bind fun v22 =>
            p_X4_readCoast_l43 V g K62 K82 K108 K146 N x0 x1 (x2 + (1 : Int32)) v22
          else
            K108 x0 x1 v17))))
def p_X4_readCoast_j33 (V : Nat → Nat) (g : GH) (x0 : Nat) (x1 : Nat) (t0 : Nat) (t1 : Nat) (f : GH) : Option (Int32 × GH) :=
  (p_X4_takeWord V g f t1 t0).bind fun v7 =>
  (if v7.1 = (0 : Int32) then
    some ((0 : Int32), v7.2)
  else
    p_X4_readCoast_l43 V g (fun f =>
      some ((0 : Int32), f)) (fun f =>
      some ((0 : Int32), f)) (fun x0 x1 f =>
      (h_gi f x1 5 2).bind fun v23 =>
      (p_X2_neededPoints V g f x1).bind fun v24 =>
      (if v24 ≤ v23 then
        some ((1 : Int32), f)
      else
        (p_X4_fail V g f x0 (1 : Int32)).bind fun v26 =>
        (if v26.1 = (0 : Int32) then
          some ((0 : Int32), v26.2)
        else
          some ((1 : Int32), v26.2)))) (fun x0 f =>
      (p_X4_refusePoint V g f x0).bind fun v28 =>
      (h_bz v28.1).bind fun _ =>
      some (v28.1, v28.2)) FU x0 x1 (0 : Int32) v7.2)
def p_X4_readCoast (V : Nat → Nat) (g f : GH) (a0 : Nat) (a1 : Nat) : Option (Int32 × GH) :=
  h_me f a0 7 <|
  (h_gr f a0 7 0).bind fun v1 =>
  (p_X5_isWord V g f v1 (V 26)).bind fun v2 =>
  (h_bz v2).bind fun _ =>
  (h_pt f a1 5 3 (.int v2)).bind fun f4 =>
  (h_pt f4 a1 5 2 (.int (0 : Int32))).bind fun f5 =>
  (h_gi f5 a1 5 3).bind fun v6 =>
  (if v6 = (0 : Int32) then
    p_X4_readCoast_j33 V g a0 a1 (V 27) a0 f5
  else
    p_X4_readCoast_j33 V g a0 a1 (V 26) a0 f5)
def p_X4_readMetric (V : Nat → Nat) (g f : GH) (a0 : Nat) : Option (Int32 × GH) :=
  h_me f a0 7 <|
  (h_gr f a0 7 0).bind fun v1 =>
  (p_X5_isWord V g f v1 (V 24)).bind fun v2 =>
  (h_bz v2).bind fun _ =>
  (h_pt f a0 7 4 (.int v2)).bind fun f4 =>
  (h_gi f4 a0 7 4).bind fun v5 =>
  (if v5 = (0 : Int32) then
    (p_X4_takeWord V g f4 a0 (V 25)).bind fun v7 =>
    (h_bz v7.1).bind fun _ =>
    some (v7.1, v7.2)
  else
    (p_X4_takeWord V g f4 a0 (V 24)).bind fun v9 =>
    (h_bz v9.1).bind fun _ =>
    some (v9.1, v9.2))
def p_X4_take (V : Nat → Nat) (g f : GH) (a0 : Nat) (a1 : Int32) : Option (Int32 × GH) :=
  h_me f a0 7 <|
  (h_gr f a0 7 0).bind fun v1 =>
  (h_gi f v1 8 3).bind fun v2 =>
  (if v2 = a1 then
    (h_gr f a0 7 0).bind fun v4 =>
    (p_X5_advance V g f v4).bind fun v5 =>
    some ((1 : Int32), v5)
  else
    (p_X4_fail V g f a0 (1 : Int32)).bind fun v6 =>
    (h_bz v6.1).bind fun _ =>
    some (v6.1, v6.2))
def p_X4_verbHere_l2 (V : Nat → Nat) (g f : GH) (K28 : Int32 → Option (Option Nat)) (K40 : Option (Option Nat)) : Nat → Nat → Int32 → Option (Option Nat)
  | 0, _, _ => none
  | N + 1, x0, x1 =>
    (h_al (gA g) (V 12) 8).bind fun v1 =>
    (if v1 ≤ x1 then
      K40
    else
      (h_gr f x0 7 0).bind fun v3 =>
      (h_lq (gA g) (V 12) 8 x1).bind fun v4 =>
      (h_gr (gO g) v4 50 1).bind fun v5 =>
      (p_X5_isWord V g f v3 v5).bind fun v6 =>
      (if v6 = (0 : Int32) then
        p_X4_verbHere_l2 V g f K28 K40 N x0 (x1 + (1 : Int32))
      else
        K28 x1))
def p_X4_verbHere (V : Nat → Nat) (g f : GH) (a0 : Nat) : Option (Option Nat) :=
  h_me f a0 7 <|
  p_X4_verbHere_l2 V g f (fun x1 =>
    (h_lq (gA g) (V 12) 8 x1).bind fun v8 =>
    some (some v8)) (some none) FU a0 (0 : Int32)
def p_X4_readMap_l46 (V : Nat → Nat) (g : GH) (K62 : GH → Option (Int32 × GH)) (K85 : GH → Option (Int32 × GH)) (K103 : Nat → GH → Option (Int32 × GH)) : Nat → Nat → Nat → Int32 → GH → Option (Int32 × GH)
  | 0, _, _, _, _ => none
  | N + 1, x0, x2, x3, f =>
    (if (6 : Int32) ≤ x3 then
      K103 x0 f
    else
      (h_gr f x0 7 0).bind fun v13 =>
      (h_gi f v13 8 3).bind fun v14 =>
      (if v14 = (0 : Int32) then
        K62 f
      else
        (h_gr f x2 4 0).bind fun v16 =>
        (h_lq f v16 5 x3).bind fun v17 =>
        (p_X4_readCoast V g f x0 v17).bind fun v18 =>
        (if v18.1 = (0 : Int32) then
          K85 v18.2
        else
          (p_X4_take V g v18.2 x0 (3 : Int32)).bind fun v20 =>
          (if v20.1 = (0 : Int32) then
            K85 v20.2
          else
            (h_gi v20.2 x2 4 1).bind fun v22 =>
            (h_pt v20.2 x2 4 1 (.int (v22 + (1 : Int32)))).bind fun f23 =>
            p_X4_readMap_l46 V g K62 K85 K103 N x0 x2 (x3 + (1 : Int32)) f23))))
def p_X4_readMap (V : Nat → Nat) (g f : GH) (a0 : Nat) (a1 : Int32) (a2 : Nat) : Option (Int32 × GH) :=
  h_me f a0 7 <|
  (p_X4_begin V g f a0 a1).bind fun v1 =>
  (p_X4_takeWord V g v1 a0 (V 23)).bind fun v2 =>
  (if v2.1 = (0 : Int32) then
    some ((0 : Int32), v2.2)
  else
    (p_X4_readMetric V g v2.2 a0).bind fun v4 =>
    (if v4.1 = (0 : Int32) then
      some ((0 : Int32), v4.2)
    else
      (p_X4_take V g v4.2 a0 (3 : Int32)).bind fun v6 =>
      (if v6.1 = (0 : Int32) then
        some ((0 : Int32), v6.2)
      else
        (h_gi v6.2 a0 7 4).bind fun v8 =>
        (h_bz v8).bind fun _ =>
        (h_pt v6.2 a2 4 2 (.int v8)).bind fun f10 =>
        (h_pt f10 a2 4 1 (.int (0 : Int32))).bind fun f11 =>
        p_X4_readMap_l46 V g (fun f =>
          some ((1 : Int32), f)) (fun f =>
          some ((0 : Int32), f)) (fun x0 f =>
          (h_gr f x0 7 0).bind fun v24 =>
          (h_gi f v24 8 3).bind fun v25 =>
          (if v25 = (0 : Int32) then
            some ((1 : Int32), f)
          else
            (p_X4_verbHere V g f x0).bind fun v27 =>
            (match v27 with
            | none =>
              (p_X4_fail V g f x0 (1 : Int32)).bind fun v35 =>
              (h_bz v35.1).bind fun _ =>
              some (v35.1, v35.2)
            | some v28 =>
              (h_gi (gO g) v28 50 2).bind fun v29 =>
              (if v29 = (0 : Int32) then
                (p_X4_fail V g f x0 (1 : Int32)).bind fun v31 =>
                (h_bz v31.1).bind fun _ =>
                some (v31.1, v31.2)
              else
                (p_X4_fail V g f x0 (3 : Int32)).bind fun v33 =>
                (h_bz v33.1).bind fun _ =>
                some (v33.1, v33.2))))) FU a0 a2 (0 : Int32) f11)))
def p_X4_readLoneCoast (V : Nat → Nat) (g f : GH) (a0 : Nat) (a1 : Int32) (a2 : Nat) : Option (Int32 × GH) :=
  h_me f a0 7 <|
  (p_X4_begin V g f a0 a1).bind fun v1 =>
  (p_X4_readCoast V g v1 a0 a2).bind fun v2 =>
  (if v2.1 = (0 : Int32) then
    some ((0 : Int32), v2.2)
  else
    (p_X4_take V g v2.2 a0 (0 : Int32)).bind fun v4 =>
    (if v4.1 = (0 : Int32) then
      some ((0 : Int32), v4.2)
    else
      some ((1 : Int32), v4.2)))
def p_X5_init (V : Nat → Nat) (g f : GH) (n : Nat) (a0 : Nat) : Option (GH × Nat) :=
  h_me f a0 8 <|
  (some (h_up f n (.inl (1, 700, .inl (fun _ => 0))))).bind fun f1 =>
  (h_pt f1 a0 8 0 (.ref n)).bind fun f2 =>
  some (f2, n + 1)
def p_X5_append_l3 (V : Nat → Nat) (g : GH) (K46 : GH → Option GH) : Nat → Nat → Int32 → Int32 → GH → Option GH
  | 0, _, _, _, _ => none
  | N + 1, x0, x1, x2, f =>
    (if x2 < (0 : Int32) then
      K46 f
    else
      (h_gi f x0 8 1).bind fun v2 =>
      (if (700 : Int32) ≤ v2 then
        K46 f
      else
        (h_gr f x0 8 0).bind fun v4 =>
        (h_gi f x0 8 1).bind fun v5 =>
        (h_sb f v4 1 v5 ((x1 >>> (x2 &&& 31)).toInt8.toInt32)).bind fun f6 =>
        (h_gi f6 x0 8 1).bind fun v7 =>
        (h_pt f6 x0 8 1 (.int (v7 + (1 : Int32)))).bind fun f8 =>
        p_X5_append_l3 V g K46 N x0 x1 (x2 + (-8 : Int32)) f8))
def p_X5_append (V : Nat → Nat) (g f : GH) (a0 : Nat) (a1 : Int32) : Option GH :=
  h_me f a0 8 <|
  p_X5_append_l3 V g (fun f =>
    some f) FU a0 a1 (24 : Int32) f
def p_J5_init_d00df (V : Nat → Nat) (g f : GH) (n : Nat) (a0 : Nat) (a1 : Int32) : Option (GH × Nat) :=
  h_me f a0 1 <|
  (h_nv f n 1 a1 200).bind fun f1 =>
  (h_pt f1 a0 1 0 (.ref n)).bind fun f2 =>
  (h_pt f2 a0 1 1 (.int (0 : Int32))).bind fun f3 =>
  some (f3, n + 1)
def p_J4_init_da8c8 (V : Nat → Nat) (g f : GH) (n : Nat) (a0 : Nat) : Option (GH × Nat) :=
  h_me f a0 1 <|
  (p_J5_init_d00df V g f n a0 (16 : Int32)).bind fun v1 =>
  some (v1.1, v1.2)
def p_X7_init_s17 (V : Nat → Nat) (g : GH) (x0 : Nat) (f : GH) (n : Nat) : Option (GH × Nat) :=
  (h_gr f x0 9 0).bind fun v144 =>
  (p_X1_place V g f v144 (V 15) (1 : Int32)).bind fun v145 =>
  (h_gr v145 x0 9 0).bind fun v146 =>
  (p_X1_place V g v145 v146 (V 16) (1 : Int32)).bind fun v147 =>
  (h_gr v147 x0 9 0).bind fun v148 =>
  (p_X1_startLedgers V g v147 v148).bind fun v149 =>
  some (v149, n)
def p_X7_init_s16 (V : Nat → Nat) (g : GH) (x0 : Nat) (f : GH) (n : Nat) : Option (GH × Nat) :=
  (h_gr f x0 9 9).bind fun v138 =>
  (some (h_up f n (.inr (6, [.null, .int 0, .int 0, .int 0, .int 0, .int 0, .null])))).bind fun f139 =>
  (p_X3_init V g f139 (n + 1) n).bind fun v140 =>
  (h_sq v140.1 v138 6 6 (19 : Int32) n).bind fun f141 =>
  (h_gr f141 x0 9 0).bind fun v142 =>
  (p_X1_place V g f141 v142 (V 14) (0 : Int32)).bind fun v143 =>
  p_X7_init_s17 V g x0 v143 v140.2
def p_X7_init_s15 (V : Nat → Nat) (g : GH) (x0 : Nat) (f : GH) (n : Nat) : Option (GH × Nat) :=
  (h_gr f x0 9 9).bind fun v130 =>
  (some (h_up f n (.inr (6, [.null, .int 0, .int 0, .int 0, .int 0, .int 0, .null])))).bind fun f131 =>
  (p_X3_init V g f131 (n + 1) n).bind fun v132 =>
  (h_sq v132.1 v130 6 6 (17 : Int32) n).bind fun f133 =>
  (h_gr f133 x0 9 9).bind fun v134 =>
  (some (h_up f133 v132.2 (.inr (6, [.null, .int 0, .int 0, .int 0, .int 0, .int 0, .null])))).bind fun f135 =>
  (p_X3_init V g f135 (v132.2 + 1) v132.2).bind fun v136 =>
  (h_sq v136.1 v134 6 6 (18 : Int32) v132.2).bind fun f137 =>
  p_X7_init_s16 V g x0 f137 v136.2
def p_X7_init_s14 (V : Nat → Nat) (g : GH) (x0 : Nat) (f : GH) (n : Nat) : Option (GH × Nat) :=
  (h_gr f x0 9 9).bind fun v122 =>
  (some (h_up f n (.inr (6, [.null, .int 0, .int 0, .int 0, .int 0, .int 0, .null])))).bind fun f123 =>
  (p_X3_init V g f123 (n + 1) n).bind fun v124 =>
  (h_sq v124.1 v122 6 6 (15 : Int32) n).bind fun f125 =>
  (h_gr f125 x0 9 9).bind fun v126 =>
  (some (h_up f125 v124.2 (.inr (6, [.null, .int 0, .int 0, .int 0, .int 0, .int 0, .null])))).bind fun f127 =>
  (p_X3_init V g f127 (v124.2 + 1) v124.2).bind fun v128 =>
  (h_sq v128.1 v126 6 6 (16 : Int32) v124.2).bind fun f129 =>
  p_X7_init_s15 V g x0 f129 v128.2
def p_X7_init_s13 (V : Nat → Nat) (g : GH) (x0 : Nat) (f : GH) (n : Nat) : Option (GH × Nat) :=
  (h_gr f x0 9 9).bind fun v114 =>
  (some (h_up f n (.inr (6, [.null, .int 0, .int 0, .int 0, .int 0, .int 0, .null])))).bind fun f115 =>
  (p_X3_init V g f115 (n + 1) n).bind fun v116 =>
  (h_sq v116.1 v114 6 6 (13 : Int32) n).bind fun f117 =>
  (h_gr f117 x0 9 9).bind fun v118 =>
  (some (h_up f117 v116.2 (.inr (6, [.null, .int 0, .int 0, .int 0, .int 0, .int 0, .null])))).bind fun f119 =>
  (p_X3_init V g f119 (v116.2 + 1) v116.2).bind fun v120 =>
  (h_sq v120.1 v118 6 6 (14 : Int32) v116.2).bind fun f121 =>
  p_X7_init_s14 V g x0 f121 v120.2
def p_X7_init_s12 (V : Nat → Nat) (g : GH) (x0 : Nat) (f : GH) (n : Nat) : Option (GH × Nat) :=
  (h_gr f x0 9 9).bind fun v106 =>
  (some (h_up f n (.inr (6, [.null, .int 0, .int 0, .int 0, .int 0, .int 0, .null])))).bind fun f107 =>
  (p_X3_init V g f107 (n + 1) n).bind fun v108 =>
  (h_sq v108.1 v106 6 6 (11 : Int32) n).bind fun f109 =>
  (h_gr f109 x0 9 9).bind fun v110 =>
  (some (h_up f109 v108.2 (.inr (6, [.null, .int 0, .int 0, .int 0, .int 0, .int 0, .null])))).bind fun f111 =>
  (p_X3_init V g f111 (v108.2 + 1) v108.2).bind fun v112 =>
  (h_sq v112.1 v110 6 6 (12 : Int32) v108.2).bind fun f113 =>
  p_X7_init_s13 V g x0 f113 v112.2
def p_X7_init_s11 (V : Nat → Nat) (g : GH) (x0 : Nat) (f : GH) (n : Nat) : Option (GH × Nat) :=
  (h_gr f x0 9 9).bind fun v98 =>
  (some (h_up f n (.inr (6, [.null, .int 0, .int 0, .int 0, .int 0, .int 0, .null])))).bind fun f99 =>
  (p_X3_init V g f99 (n + 1) n).bind fun v100 =>
  (h_sq v100.1 v98 6 6 (9 : Int32) n).bind fun f101 =>
  (h_gr f101 x0 9 9).bind fun v102 =>
  (some (h_up f101 v100.2 (.inr (6, [.null, .int 0, .int 0, .int 0, .int 0, .int 0, .null])))).bind fun f103 =>
  (p_X3_init V g f103 (v100.2 + 1) v100.2).bind fun v104 =>
  (h_sq v104.1 v102 6 6 (10 : Int32) v100.2).bind fun f105 =>
  p_X7_init_s12 V g x0 f105 v104.2
def p_X7_init_s10 (V : Nat → Nat) (g : GH) (x0 : Nat) (f : GH) (n : Nat) : Option (GH × Nat) :=
  (h_gr f x0 9 9).bind fun v90 =>
  (some (h_up f n (.inr (6, [.null, .int 0, .int 0, .int 0, .int 0, .int 0, .null])))).bind fun f91 =>
  (p_X3_init V g f91 (n + 1) n).bind fun v92 =>
  (h_sq v92.1 v90 6 6 (7 : Int32) n).bind fun f93 =>
  (h_gr f93 x0 9 9).bind fun v94 =>
  (some (h_up f93 v92.2 (.inr (6, [.null, .int 0, .int 0, .int 0, .int 0, .int 0, .null])))).bind fun f95 =>
  (p_X3_init V g f95 (v92.2 + 1) v92.2).bind fun v96 =>
  (h_sq v96.1 v94 6 6 (8 : Int32) v92.2).bind fun f97 =>
  p_X7_init_s11 V g x0 f97 v96.2
def p_X7_init_s9 (V : Nat → Nat) (g : GH) (x0 : Nat) (f : GH) (n : Nat) : Option (GH × Nat) :=
  (h_gr f x0 9 9).bind fun v82 =>
  (some (h_up f n (.inr (6, [.null, .int 0, .int 0, .int 0, .int 0, .int 0, .null])))).bind fun f83 =>
  (p_X3_init V g f83 (n + 1) n).bind fun v84 =>
  (h_sq v84.1 v82 6 6 (5 : Int32) n).bind fun f85 =>
  (h_gr f85 x0 9 9).bind fun v86 =>
  (some (h_up f85 v84.2 (.inr (6, [.null, .int 0, .int 0, .int 0, .int 0, .int 0, .null])))).bind fun f87 =>
  (p_X3_init V g f87 (v84.2 + 1) v84.2).bind fun v88 =>
  (h_sq v88.1 v86 6 6 (6 : Int32) v84.2).bind fun f89 =>
  p_X7_init_s10 V g x0 f89 v88.2
def p_X7_init_s8 (V : Nat → Nat) (g : GH) (x0 : Nat) (f : GH) (n : Nat) : Option (GH × Nat) :=
  (h_gr f x0 9 9).bind fun v74 =>
  (some (h_up f n (.inr (6, [.null, .int 0, .int 0, .int 0, .int 0, .int 0, .null])))).bind fun f75 =>
  (p_X3_init V g f75 (n + 1) n).bind fun v76 =>
  (h_sq v76.1 v74 6 6 (3 : Int32) n).bind fun f77 =>
  (h_gr f77 x0 9 9).bind fun v78 =>
  (some (h_up f77 v76.2 (.inr (6, [.null, .int 0, .int 0, .int 0, .int 0, .int 0, .null])))).bind fun f79 =>
  (p_X3_init V g f79 (v76.2 + 1) v76.2).bind fun v80 =>
  (h_sq v80.1 v78 6 6 (4 : Int32) v76.2).bind fun f81 =>
  p_X7_init_s9 V g x0 f81 v80.2
def p_X7_init_s7 (V : Nat → Nat) (g : GH) (x0 : Nat) (f : GH) (n : Nat) : Option (GH × Nat) :=
  (h_gr f x0 9 9).bind fun v66 =>
  (some (h_up f n (.inr (6, [.null, .int 0, .int 0, .int 0, .int 0, .int 0, .null])))).bind fun f67 =>
  (p_X3_init V g f67 (n + 1) n).bind fun v68 =>
  (h_sq v68.1 v66 6 6 (1 : Int32) n).bind fun f69 =>
  (h_gr f69 x0 9 9).bind fun v70 =>
  (some (h_up f69 v68.2 (.inr (6, [.null, .int 0, .int 0, .int 0, .int 0, .int 0, .null])))).bind fun f71 =>
  (p_X3_init V g f71 (v68.2 + 1) v68.2).bind fun v72 =>
  (h_sq v72.1 v70 6 6 (2 : Int32) v68.2).bind fun f73 =>
  p_X7_init_s8 V g x0 f73 v72.2
def p_X7_init_s6 (V : Nat → Nat) (g : GH) (x0 : Nat) (f : GH) (n : Nat) : Option (GH × Nat) :=
  (h_gr f x0 9 4).bind fun v58 =>
  (some (h_up f n (.inr (4, [.null, .int 0, .int 0, .int 0, .int 0, .int 0])))).bind fun f59 =>
  (p_X1_init V g f59 (n + 1) n).bind fun v60 =>
  (h_sq v60.1 v58 4 4 (7 : Int32) n).bind fun f61 =>
  (h_gr f61 x0 9 9).bind fun v62 =>
  (some (h_up f61 v60.2 (.inr (6, [.null, .int 0, .int 0, .int 0, .int 0, .int 0, .null])))).bind fun f63 =>
  (p_X3_init V g f63 (v60.2 + 1) v60.2).bind fun v64 =>
  (h_sq v64.1 v62 6 6 (0 : Int32) v60.2).bind fun f65 =>
  p_X7_init_s7 V g x0 f65 v64.2
def p_X7_init_s5 (V : Nat → Nat) (g : GH) (x0 : Nat) (f : GH) (n : Nat) : Option (GH × Nat) :=
  (h_gr f x0 9 4).bind fun v50 =>
  (some (h_up f n (.inr (4, [.null, .int 0, .int 0, .int 0, .int 0, .int 0])))).bind fun f51 =>
  (p_X1_init V g f51 (n + 1) n).bind fun v52 =>
  (h_sq v52.1 v50 4 4 (5 : Int32) n).bind fun f53 =>
  (h_gr f53 x0 9 4).bind fun v54 =>
  (some (h_up f53 v52.2 (.inr (4, [.null, .int 0, .int 0, .int 0, .int 0, .int 0])))).bind fun f55 =>
  (p_X1_init V g f55 (v52.2 + 1) v52.2).bind fun v56 =>
  (h_sq v56.1 v54 4 4 (6 : Int32) v52.2).bind fun f57 =>
  p_X7_init_s6 V g x0 f57 v56.2
def p_X7_init_s4 (V : Nat → Nat) (g : GH) (x0 : Nat) (f : GH) (n : Nat) : Option (GH × Nat) :=
  (h_gr f x0 9 4).bind fun v42 =>
  (some (h_up f n (.inr (4, [.null, .int 0, .int 0, .int 0, .int 0, .int 0])))).bind fun f43 =>
  (p_X1_init V g f43 (n + 1) n).bind fun v44 =>
  (h_sq v44.1 v42 4 4 (3 : Int32) n).bind fun f45 =>
  (h_gr f45 x0 9 4).bind fun v46 =>
  (some (h_up f45 v44.2 (.inr (4, [.null, .int 0, .int 0, .int 0, .int 0, .int 0])))).bind fun f47 =>
  (p_X1_init V g f47 (v44.2 + 1) v44.2).bind fun v48 =>
  (h_sq v48.1 v46 4 4 (4 : Int32) v44.2).bind fun f49 =>
  p_X7_init_s5 V g x0 f49 v48.2
def p_X7_init_s3 (V : Nat → Nat) (g : GH) (x0 : Nat) (f : GH) (n : Nat) : Option (GH × Nat) :=
  (h_gr f x0 9 4).bind fun v34 =>
  (some (h_up f n (.inr (4, [.null, .int 0, .int 0, .int 0, .int 0, .int 0])))).bind fun f35 =>
  (p_X1_init V g f35 (n + 1) n).bind fun v36 =>
  (h_sq v36.1 v34 4 4 (1 : Int32) n).bind fun f37 =>
  (h_gr f37 x0 9 4).bind fun v38 =>
  (some (h_up f37 v36.2 (.inr (4, [.null, .int 0, .int 0, .int 0, .int 0, .int 0])))).bind fun f39 =>
  (p_X1_init V g f39 (v36.2 + 1) v36.2).bind fun v40 =>
  (h_sq v40.1 v38 4 4 (2 : Int32) v36.2).bind fun f41 =>
  p_X7_init_s4 V g x0 f41 v40.2
def p_X7_init_s2 (V : Nat → Nat) (g : GH) (x0 : Nat) (f : GH) (n : Nat) : Option (GH × Nat) :=
  (some (h_up f n (.inr (1, [.null, .int 0, .int 0, .int 0])))).bind fun f27 =>
  (p_J4_init_da8c8 V g f27 (n + 1) n).bind fun v28 =>
  (h_pt v28.1 x0 9 12 (.ref n)).bind fun f29 =>
  (h_gr f29 x0 9 4).bind fun v30 =>
  (some (h_up f29 v28.2 (.inr (4, [.null, .int 0, .int 0, .int 0, .int 0, .int 0])))).bind fun f31 =>
  (p_X1_init V g f31 (v28.2 + 1) v28.2).bind fun v32 =>
  (h_sq v32.1 v30 4 4 (0 : Int32) v28.2).bind fun f33 =>
  p_X7_init_s3 V g x0 f33 v32.2
def p_X7_init_s1 (V : Nat → Nat) (g : GH) (x0 : Nat) (f : GH) (n : Nat) : Option (GH × Nat) :=
  (some (h_up f n (.inr (7, [.null, .int 0, .int 0, .int 0, .int 0])))).bind fun f15 =>
  (h_gr f15 x0 9 7).bind fun v16 =>
  (p_X4_init V g f15 n v16).bind fun v17 =>
  (h_pt v17 x0 9 8 (.ref n)).bind fun f18 =>
  (some (h_up f18 (n + 1) (.inl (6, 20, .inr (.inr (.inr (.inr (fun _ => none)))))))).bind fun f19 =>
  (h_pt f19 x0 9 9 (.ref (n + 1))).bind fun f20 =>
  (some (h_up f20 (n + 2) (.inr (6, [.null, .int 0, .int 0, .int 0, .int 0, .int 0, .null])))).bind fun f21 =>
  (p_X3_init V g f21 (n + 3) (n + 2)).bind fun v22 =>
  (h_pt v22.1 x0 9 10 (.ref (n + 2))).bind fun f23 =>
  (some (h_up f23 v22.2 (.inr (5, [.null, .null, .int 0, .int 0])))).bind fun f24 =>
  (p_X2_init V g f24 (v22.2 + 1) v22.2 (129 : Int32)).bind fun v25 =>
  (h_pt v25.1 x0 9 11 (.ref v22.2)).bind fun f26 =>
  p_X7_init_s2 V g x0 f26 v25.2
def p_X7_init (V : Nat → Nat) (g f : GH) (n : Nat) (a0 : Nat) : Option (GH × Nat) :=
  h_me f a0 9 <|
  (some (h_up f n (.inr (4, [.null, .int 0, .int 0, .int 0, .int 0, .int 0])))).bind fun f1 =>
  (p_X1_init V g f1 (n + 1) n).bind fun v2 =>
  (h_pt v2.1 a0 9 0 (.ref n)).bind fun f3 =>
  (some (h_up f3 v2.2 (.inr (4, [.null, .int 0, .int 0, .int 0, .int 0, .int 0])))).bind fun f4 =>
  (p_X1_init V g f4 (v2.2 + 1) v2.2).bind fun v5 =>
  (h_pt v5.1 a0 9 1 (.ref v2.2)).bind fun f6 =>
  (some (h_up f6 v5.2 (.inr (4, [.null, .int 0, .int 0, .int 0, .int 0, .int 0])))).bind fun f7 =>
  (p_X1_init V g f7 (v5.2 + 1) v5.2).bind fun v8 =>
  (h_pt v8.1 a0 9 2 (.ref v5.2)).bind fun f9 =>
  (some (h_up f9 v8.2 (.inl (4, 8, .inr (.inr (.inr (.inr (fun _ => none)))))))).bind fun f10 =>
  (h_pt f10 a0 9 4 (.ref v8.2)).bind fun f11 =>
  (some (h_up f11 (v8.2 + 1) (.inr (8, [.null, .int 0, .int 0, .int 0, .int 0, .int 0])))).bind fun f12 =>
  (p_X5_init V g f12 (v8.2 + 2) (v8.2 + 1)).bind fun v13 =>
  (h_pt v13.1 a0 9 7 (.ref (v8.2 + 1))).bind fun f14 =>
  p_X7_init_s1 V g a0 f14 v13.2
def p_X7_appendText (V : Nat → Nat) (g f : GH) (a0 : Nat) (a1 : Int32) (a2 : Int32) (a3 : Int32) (a4 : Int32) (a5 : Int32) : Option (Int32 × GH) :=
  h_me f a0 9 <|
  (h_gr f a0 9 7).bind fun v1 =>
  (h_gi f v1 8 1).bind fun v2 =>
  (if (v2 + (20 : Int32)) ≤ (700 : Int32) then
    (h_gr f a0 9 7).bind fun v4 =>
    (p_X5_append V g f v4 a1).bind fun v5 =>
    (h_gr v5 a0 9 7).bind fun v6 =>
    (p_X5_append V g v5 v6 a2).bind fun v7 =>
    (h_gr v7 a0 9 7).bind fun v8 =>
    (p_X5_append V g v7 v8 a3).bind fun v9 =>
    (h_gr v9 a0 9 7).bind fun v10 =>
    (p_X5_append V g v9 v10 a4).bind fun v11 =>
    (h_gr v11 a0 9 7).bind fun v12 =>
    (p_X5_append V g v11 v12 a5).bind fun v13 =>
    (h_gr v13 a0 9 7).bind fun v14 =>
    (h_gi v13 v14 8 1).bind fun v15 =>
    some (v15, v13)
  else
    some ((-1 : Int32), f))
def p_X7_requireWithin (V : Nat → Nat) (g f : GH) (a0 : Int32) (a1 : Int32) (a2 : Int32) : Option (Nat ⊕ Unit) :=
  (if a0 < a1 then
    some (.inl 1)
  else
    (if a0 ≤ a2 then
      some (.inr ())
    else
      some (.inl 1)))
def p_X7_requireText (V : Nat → Nat) (g f : GH) (a0 : Nat) (a1 : Int32) : Option (Nat ⊕ Unit) :=
  h_me f a0 9 <|
  (h_gr f a0 9 7).bind fun v1 =>
  (h_gi f v1 8 1).bind fun v2 =>
  x_b (p_X7_requireWithin V g f a1 (0 : Int32) v2) (fun z => z) fun v3 =>
  some (.inr ())
def p_X7_loadMap (V : Nat → Nat) (g f : GH) (a0 : Nat) (a1 : Int32) : Option ((Nat × GH) ⊕ (Int32 × GH)) :=
  h_me f a0 9 <|
  x_b (p_X7_requireText V g f a0 a1) (fun z => (z, f)) fun v1 =>
  (h_gr f a0 9 8).bind fun v2 =>
  (h_gr f a0 9 1).bind fun v3 =>
  (p_X4_readMap V g f v2 a1 v3).bind fun v4 =>
  (h_gr v4.2 a0 9 7).bind fun v5 =>
  (h_pt v4.2 v5 8 1 (.int (0 : Int32))).bind fun f6 =>
  (if v4.1 = (0 : Int32) then
    some (.inr ((-1 : Int32), f6))
  else
    (h_gr f6 a0 9 1).bind fun v8 =>
    (p_X1_startLedgers V g f6 v8).bind fun v9 =>
    (h_gr v9 a0 9 0).bind fun v10 =>
    (h_gr v9 a0 9 1).bind fun v11 =>
    (p_X1_copyFrom V g v9 v10 v11).bind fun v12 =>
    (h_pt v12 a0 9 5 (.int (0 : Int32))).bind fun f13 =>
    (h_pt f13 a0 9 3 (.int (0 : Int32))).bind fun f14 =>
    (h_gr f14 a0 9 0).bind fun v15 =>
    (h_gi f14 v15 4 1).bind fun v16 =>
    some (.inr (v16, f14)))
def p_X7_errorCode (V : Nat → Nat) (g f : GH) (a0 : Nat) : Option Int32 :=
  h_me f a0 9 <|
  (h_gr f a0 9 8).bind fun v1 =>
  (h_gi f v1 7 1).bind fun v2 =>
  some v2
def p_X7_coastCount (V : Nat → Nat) (g f : GH) (a0 : Nat) : Option Int32 :=
  h_me f a0 9 <|
  (h_gr f a0 9 0).bind fun v1 =>
  (h_gi f v1 4 1).bind fun v2 =>
  some v2
def p_X7_usesKingMetric (V : Nat → Nat) (g f : GH) (a0 : Nat) : Option Int32 :=
  h_me f a0 9 <|
  (h_gr f a0 9 0).bind fun v1 =>
  (h_gi f v1 4 2).bind fun v2 =>
  (h_bz v2).bind fun _ =>
  some v2
def p_X7_coastAt (V : Nat → Nat) (g f : GH) (a0 : Nat) (a1 : Int32) : Option (Nat ⊕ Nat) :=
  h_me f a0 9 <|
  (h_gr f a0 9 0).bind fun v1 =>
  (p_X1_hasCoast V g f v1 a1).bind fun v2 =>
  (if v2 = (0 : Int32) then
    some (.inl 0)
  else
    (h_gr f a0 9 0).bind fun v4 =>
    (h_gr f v4 4 0).bind fun v5 =>
    (h_lq f v5 5 a1).bind fun v6 =>
    some (.inr v6))
def p_X7_isIsland (V : Nat → Nat) (g f : GH) (a0 : Nat) (a1 : Int32) : Option (Nat ⊕ Int32) :=
  h_me f a0 9 <|
  x_b (p_X7_coastAt V g f a0 a1) (fun z => z) fun v1 =>
  (h_gi f v1 5 3).bind fun v2 =>
  (h_bz v2).bind fun _ =>
  some (.inr v2)
def p_X7_pointCount (V : Nat → Nat) (g f : GH) (a0 : Nat) (a1 : Int32) : Option (Nat ⊕ Int32) :=
  h_me f a0 9 <|
  x_b (p_X7_coastAt V g f a0 a1) (fun z => z) fun v1 =>
  (h_gi f v1 5 2).bind fun v2 =>
  some (.inr v2)
def p_X7_coastWithPoint (V : Nat → Nat) (g f : GH) (a0 : Nat) (a1 : Int32) (a2 : Int32) : Option (Nat ⊕ Nat) :=
  h_me f a0 9 <|
  x_b (p_X7_coastAt V g f a0 a1) (fun z => z) fun v1 =>
  (if a2 < (0 : Int32) then
    some (.inl 0)
  else
    (h_gi f v1 5 2).bind fun v3 =>
    (if a2 < v3 then
      some (.inr v1)
    else
      some (.inl 0)))
def p_X7_pointX (V : Nat → Nat) (g f : GH) (a0 : Nat) (a1 : Int32) (a2 : Int32) : Option (Nat ⊕ Int32) :=
  h_me f a0 9 <|
  x_b (p_X7_coastWithPoint V g f a0 a1 a2) (fun z => z) fun v1 =>
  (h_gr f v1 5 0).bind fun v2 =>
  (h_li f v2 0 a2).bind fun v3 =>
  some (.inr v3)
def p_X7_pointY (V : Nat → Nat) (g f : GH) (a0 : Nat) (a1 : Int32) (a2 : Int32) : Option (Nat ⊕ Int32) :=
  h_me f a0 9 <|
  x_b (p_X7_coastWithPoint V g f a0 a1 a2) (fun z => z) fun v1 =>
  (h_gr f v1 5 1).bind fun v2 =>
  (h_li f v2 0 a2).bind fun v3 =>
  some (.inr v3)
def p_X7_pointDistance (V : Nat → Nat) (g f : GH) (a0 : Nat) (a1 : Int32) (a2 : Int32) (a3 : Int32) : Option (Nat ⊕ Int32) :=
  h_me f a0 9 <|
  x_b (p_X7_coastWithPoint V g f a0 a1 a2) (fun z => z) fun v1 =>
  x_b (p_X7_coastWithPoint V g f a0 a1 a3) (fun z => z) fun v2 =>
  (h_gr f a0 9 0).bind fun v3 =>
  (h_gi f v3 4 2).bind fun v4 =>
  (p_X2_distance V g f v2 a2 a3 v4).bind fun v5 =>
  some (.inr v5)
def p_X7_nearestPoint (V : Nat → Nat) (g f : GH) (a0 : Nat) (a1 : Int32) (a2 : Int32) (a3 : Int32) : Option (Nat ⊕ Int32) :=
  h_me f a0 9 <|
  x_b (p_X7_coastAt V g f a0 a1) (fun z => z) fun v1 =>
  x_b (p_X7_requireWithin V g f a2 (-1000 : Int32) (1000 : Int32)) (fun z => z) fun v2 =>
  x_b (p_X7_requireWithin V g f a3 (-1000 : Int32) (1000 : Int32)) (fun z => z) fun v3 =>
  (h_gr f a0 9 0).bind fun v4 =>
  (h_gi f v4 4 2).bind fun v5 =>
  (p_X2_nearestTo V g f v1 a2 a3 v5).bind fun v6 =>
  some (.inr v6)
def p_X7_lengthAt (V : Nat → Nat) (g f : GH) (a0 : Nat) (a1 : Int32) (a2 : Int32) : Option (Nat ⊕ Int32) :=
  h_me f a0 9 <|
  x_b (p_X7_coastAt V g f a0 a1) (fun z => z) fun v1 =>
  x_b (p_X7_requireWithin V g f a2 (0 : Int32) (7 : Int32)) (fun z => z) fun v2 =>
  (h_gr f a0 9 0).bind fun v3 =>
  (h_gi f v3 4 2).bind fun v4 =>
  (p_X2_measure V g f v1 a2 v4).bind fun v5 =>
  some (.inr v5)
def p_X7_stickCount (V : Nat → Nat) (g f : GH) (a0 : Nat) (a1 : Int32) (a2 : Int32) : Option (Nat ⊕ Int32) :=
  h_me f a0 9 <|
  x_b (p_X7_coastAt V g f a0 a1) (fun z => z) fun v1 =>
  x_b (p_X7_requireWithin V g f a2 (0 : Int32) (7 : Int32)) (fun z => z) fun v2 =>
  (p_X2_sticks V g f v1 a2).bind fun v3 =>
  some (.inr v3)
def p_X7_requireStick (V : Nat → Nat) (g f : GH) (a0 : Nat) (a1 : Int32) (a2 : Int32) : Option (Nat ⊕ Unit) :=
  x_b (p_X7_requireWithin V g f a1 (0 : Int32) (7 : Int32)) (fun z => z) fun v1 =>
  (p_X2_sticks V g f a0 a1).bind fun v2 =>
  x_b (p_X7_requireWithin V g f a2 (0 : Int32) (v2 - (1 : Int32))) (fun z => z) fun v3 =>
  some (.inr ())
def p_X7_stickStart (V : Nat → Nat) (g f : GH) (a0 : Nat) (a1 : Int32) (a2 : Int32) (a3 : Int32) : Option (Nat ⊕ Int32) :=
  h_me f a0 9 <|
  x_b (p_X7_coastAt V g f a0 a1) (fun z => z) fun v1 =>
  x_b (p_X7_requireStick V g f v1 a2 a3) (fun z => z) fun v2 =>
  (p_X2_stickFrom V g f v1 a2 a3).bind fun v3 =>
  some (.inr v3)
def p_X7_stickLength (V : Nat → Nat) (g f : GH) (a0 : Nat) (a1 : Int32) (a2 : Int32) (a3 : Int32) : Option (Nat ⊕ Int32) :=
  h_me f a0 9 <|
  x_b (p_X7_coastAt V g f a0 a1) (fun z => z) fun v1 =>
  x_b (p_X7_requireStick V g f v1 a2 a3) (fun z => z) fun v2 =>
  (h_gr f a0 9 0).bind fun v3 =>
  (h_gi f v3 4 2).bind fun v4 =>
  (p_X2_stickSpan V g f v1 a2 a3 v4).bind fun v5 =>
  some (.inr v5)
def p_X7_longestStick_l29 (V : Nat → Nat) (g f : GH) (K73 : Int32 → Option (Nat ⊕ Int32)) : Nat → Nat → Int32 → Nat → Int32 → Int32 → Int32 → Int32 → Option (Nat ⊕ Int32)
  | 0, _, _, _, _, _, _, _ => none
  | N + 1, x0, x2, x3, x4, x5, x6, x7 =>
    (if x6 ≤ x7 then
      K73 x4
    else
      (h_gr f x0 9 0).bind fun v5 =>
      (h_gi f v5 4 2).bind fun v6 =>
      (p_X2_stickSpan V g f x3 x2 x7 v6).bind fun v7 =>
      (if v7 ≤ x5 then
        p_X7_longestStick_l29 V g f K73 N x0 x2 x3 x4 x5 x6 (x7 + (1 : Int32))
      else
        p_X7_longestStick_l29 V g f K73 N x0 x2 x3 x7 v7 x6 (x7 + (1 : Int32))))
def p_X7_longestStick (V : Nat → Nat) (g f : GH) (a0 : Nat) (a1 : Int32) (a2 : Int32) : Option (Nat ⊕ Int32) :=
  h_me f a0 9 <|
  x_b (p_X7_coastAt V g f a0 a1) (fun z => z) fun v1 =>
  x_b (p_X7_requireWithin V g f a2 (0 : Int32) (7 : Int32)) (fun z => z) fun v2 =>
  (p_X2_sticks V g f v1 a2).bind fun v3 =>
  p_X7_longestStick_l29 V g f (fun x4 =>
    some (.inr x4)) FU a0 a2 v1 (0 : Int32) (-1 : Int32) v3 (0 : Int32)
def p_X7_lengthGain (V : Nat → Nat) (g f : GH) (a0 : Nat) (a1 : Int32) (a2 : Int32) : Option (Nat ⊕ Int32) :=
  h_me f a0 9 <|
  x_b (p_X7_coastAt V g f a0 a1) (fun z => z) fun v1 =>
  x_b (p_X7_requireWithin V g f a2 (0 : Int32) (6 : Int32)) (fun z => z) fun v2 =>
  (h_gr f a0 9 0).bind fun v3 =>
  (h_gi f v3 4 2).bind fun v4 =>
  (p_X2_gain V g f v1 a2 v4).bind fun v5 =>
  some (.inr v5)
def p_X7_levelOfGreatestGain_l14 (V : Nat → Nat) (g f : GH) (K56 : Int32 → Option (Nat ⊕ Int32)) : Nat → Nat → Nat → Int32 → Int32 → Int32 → Option (Nat ⊕ Int32)
  | 0, _, _, _, _, _ => none
  | N + 1, x0, x2, x3, x4, x5 =>
    (if (7 : Int32) ≤ x5 then
      K56 x3
    else
      (h_gr f x0 9 0).bind fun v3 =>
      (h_gi f v3 4 2).bind fun v4 =>
      (p_X2_gain V g f x2 x5 v4).bind fun v5 =>
      (if v5 ≤ x4 then
        p_X7_levelOfGreatestGain_l14 V g f K56 N x0 x2 x3 x4 (x5 + (1 : Int32))
      else
        p_X7_levelOfGreatestGain_l14 V g f K56 N x0 x2 x5 v5 (x5 + (1 : Int32))))
def p_X7_levelOfGreatestGain (V : Nat → Nat) (g f : GH) (a0 : Nat) (a1 : Int32) : Option (Nat ⊕ Int32) :=
  h_me f a0 9 <|
  x_b (p_X7_coastAt V g f a0 a1) (fun z => z) fun v1 =>
  p_X7_levelOfGreatestGain_l14 V g f (fun x3 =>
    some (.inr x3)) FU a0 v1 (0 : Int32) (-1 : Int32) (0 : Int32)
def p_X7_coarsestLevelFor (V : Nat → Nat) (g f : GH) (a0 : Nat) (a1 : Int32) (a2 : Int32) : Option (Nat ⊕ Int32) :=
  h_me f a0 9 <|
  x_b (p_X7_coastAt V g f a0 a1) (fun z => z) fun v1 =>
  x_b (p_X7_requireWithin V g f a2 (0 : Int32) (2147483647 : Int32)) (fun z => z) fun v2 =>
  (h_gr f a0 9 0).bind fun v3 =>
  (h_gi f v3 4 2).bind fun v4 =>
  (p_X2_coarsestReaching V g f v1 a2 v4).bind fun v5 =>
  some (.inr v5)
def p_X7_coarsestExactLevel (V : Nat → Nat) (g f : GH) (a0 : Nat) (a1 : Int32) : Option (Nat ⊕ Int32) :=
  h_me f a0 9 <|
  x_b (p_X7_coastAt V g f a0 a1) (fun z => z) fun v1 =>
  (h_gr f a0 9 0).bind fun v2 =>
  (h_gi f v2 4 2).bind fun v3 =>
  (p_X2_measure V g f v1 (0 : Int32) v3).bind fun v4 =>
  (h_gr f a0 9 0).bind fun v5 =>
  (h_gi f v5 4 2).bind fun v6 =>
  (p_X2_coarsestReaching V g f v1 v4 v6).bind fun v7 =>
  some (.inr v7)
def p_X7_totalLength_l11 (V : Nat → Nat) (g f : GH) (K51 : Int32 → Option (Nat ⊕ Int32)) : Nat → Nat → Int32 → Int32 → Int32 → Option (Nat ⊕ Int32)
  | 0, _, _, _, _ => none
  | N + 1, x0, x1, x2, x3 =>
    (h_gr f x0 9 0).bind fun v2 =>
    (h_gi f v2 4 1).bind fun v3 =>
    (if v3 ≤ x3 then
      K51 x2
    else
      (h_gr f x0 9 0).bind fun v5 =>
      (h_gr f v5 4 0).bind fun v6 =>
      (h_lq f v6 5 x3).bind fun v7 =>
      (h_gr f x0 9 0).bind fun v8 =>
      (h_gi f v8 4 2).bind fun v9 =>
      (p_X2_measure V g f v7 x1 v9).bind fun v10 =>
      p_X7_totalLength_l11 V g f K51 N x0 x1 (x2 + v10) (x3 + (1 : Int32)))
def p_X7_totalLength (V : Nat → Nat) (g f : GH) (a0 : Nat) (a1 : Int32) : Option (Nat ⊕ Int32) :=
  h_me f a0 9 <|
  x_b (p_X7_requireWithin V g f a1 (0 : Int32) (7 : Int32)) (fun z => z) fun v1 =>
  p_X7_totalLength_l11 V g f (fun x2 =>
    some (.inr x2)) FU a0 a1 (0 : Int32) (0 : Int32)
def p_X7_longestCoast_l14 (V : Nat → Nat) (g f : GH) (K67 : Int32 → Option (Nat ⊕ Int32)) : Nat → Nat → Int32 → Int32 → Int32 → Int32 → Option (Nat ⊕ Int32)
  | 0, _, _, _, _, _ => none
  | N + 1, x0, x1, x2, x3, x4 =>
    (h_gr f x0 9 0).bind fun v2 =>
    (h_gi f v2 4 1).bind fun v3 =>
    (if v3 ≤ x4 then
      K67 x2
    else
      (h_gr f x0 9 0).bind fun v5 =>
      (h_gr f v5 4 0).bind fun v6 =>
      (h_lq f v6 5 x4).bind fun v7 =>
      (h_gr f x0 9 0).bind fun v8 =>
      (h_gi f v8 4 2).bind fun v9 =>
      (p_X2_measure V g f v7 x1 v9).bind fun v10 =>
      (if v10 ≤ x3 then
        p_X7_longestCoast_l14 V g f K67 N x0 x1 x2 x3 (x4 + (1 : Int32))
      else
        p_X7_longestCoast_l14 V g f K67 N x0 x1 x4 v10 (x4 + (1 : Int32))))
def p_X7_longestCoast (V : Nat → Nat) (g f : GH) (a0 : Nat) (a1 : Int32) : Option (Nat ⊕ Int32) :=
  h_me f a0 9 <|
  x_b (p_X7_requireWithin V g f a1 (0 : Int32) (7 : Int32)) (fun z => z) fun v1 =>
  p_X7_longestCoast_l14 V g f (fun x2 =>
    some (.inr x2)) FU a0 a1 (-1 : Int32) (-1 : Int32) (0 : Int32)
def p_X7_islandAt (V : Nat → Nat) (g f : GH) (a0 : Nat) (a1 : Int32) : Option (Nat ⊕ Nat) :=
  h_me f a0 9 <|
  x_b (p_X7_coastAt V g f a0 a1) (fun z => z) fun v1 =>
  (h_gi f v1 5 3).bind fun v2 =>
  (if v2 = (0 : Int32) then
    some (.inl 2)
  else
    some (.inr v1))
def p_X7_doubledArea (V : Nat → Nat) (g f : GH) (a0 : Nat) (a1 : Int32) : Option (Nat ⊕ Int32) :=
  h_me f a0 9 <|
  x_b (p_X7_islandAt V g f a0 a1) (fun z => z) fun v1 =>
  (p_X2_signedArea V g f v1).bind fun v2 =>
  (p_J9_abs_0f7a4 V g f v2).bind fun v3 =>
  some (.inr v3)
def p_X7_contains (V : Nat → Nat) (g f : GH) (a0 : Nat) (a1 : Int32) (a2 : Int32) (a3 : Int32) : Option (Nat ⊕ Int32) :=
  h_me f a0 9 <|
  x_b (p_X7_islandAt V g f a0 a1) (fun z => z) fun v1 =>
  x_b (p_X7_requireWithin V g f a2 (-1000 : Int32) (1000 : Int32)) (fun z => z) fun v2 =>
  x_b (p_X7_requireWithin V g f a3 (-1000 : Int32) (1000 : Int32)) (fun z => z) fun v3 =>
  (p_X2_covers V g f v1 a2 a3).bind fun v4 =>
  (h_bz v4).bind fun _ =>
  some (.inr v4)
def p_X7_encloses (V : Nat → Nat) (g f : GH) (a0 : Nat) (a1 : Int32) (a2 : Int32) : Option (Nat ⊕ Int32) :=
  h_me f a0 9 <|
  x_b (p_X7_coastAt V g f a0 a2) (fun z => z) fun v1 =>
  x_b (p_X7_islandAt V g f a0 a1) (fun z => z) fun v2 =>
  (if a1 = a2 then
    some (.inr (0 : Int32))
  else
    (p_X2_coversAll V g f v2 v1).bind fun v4 =>
    (if v4 = (0 : Int32) then
      some (.inr (0 : Int32))
    else
      some (.inr (1 : Int32))))
def p_X7_innermostIslandAround_l13 (V : Nat → Nat) (g f : GH) (K78 : Int32 → Option (Nat ⊕ Int32)) : Nat → Nat → Int32 → Int32 → Int32 → Int32 → Option (Nat ⊕ Int32)
  | 0, _, _, _, _, _ => none
  | N + 1, x0, x1, x2, x3, x4 =>
    (h_gr f x0 9 0).bind fun v2 =>
    (h_gi f v2 4 1).bind fun v3 =>
    (if v3 ≤ x4 then
      K78 x2
    else
      (h_gr f x0 9 0).bind fun v5 =>
      (p_X1_surrounds V g f v5 x4 x1).bind fun v6 =>
      (if v6 = (0 : Int32) then
        p_X7_innermostIslandAround_l13 V g f K78 N x0 x1 x2 x3 (x4 + (1 : Int32))
      else
        (h_gr f x0 9 0).bind fun v8 =>
        (h_gr f v8 4 0).bind fun v9 =>
        (h_lq f v9 5 x4).bind fun v10 =>
        (p_X2_signedArea V g f v10).bind fun v11 =>
        (p_J9_abs_0f7a4 V g f v11).bind fun v12 =>
        (if x2 < (0 : Int32) then
          p_X7_innermostIslandAround_l13 V g f K78 N x0 x1 x4 v12 (x4 + (1 : Int32))
        else
          (if x3 ≤ v12 then
            p_X7_innermostIslandAround_l13 V g f K78 N x0 x1 x2 x3 (x4 + (1 : Int32))
          else
            p_X7_innermostIslandAround_l13 V g f K78 N x0 x1 x4 v12 (x4 + (1 : Int32))))))
def p_X7_innermostIslandAround (V : Nat → Nat) (g f : GH) (a0 : Nat) (a1 : Int32) : Option (Nat ⊕ Int32) :=
  h_me f a0 9 <|
  x_b (p_X7_coastAt V g f a0 a1) (fun z => z) fun v1 =>
  p_X7_innermostIslandAround_l13 V g f (fun x2 =>
    some (.inr x2)) FU a0 a1 (-1 : Int32) (0 : Int32) (0 : Int32)
def p_X7_ringDepth_l10 (V : Nat → Nat) (g f : GH) (K42 : Int32 → Option (Nat ⊕ Int32)) : Nat → Nat → Int32 → Int32 → Int32 → Option (Nat ⊕ Int32)
  | 0, _, _, _, _ => none
  | N + 1, x0, x1, x2, x3 =>
    (h_gr f x0 9 0).bind fun v2 =>
    (h_gi f v2 4 1).bind fun v3 =>
    (if v3 ≤ x3 then
      K42 x2
    else
      (h_gr f x0 9 0).bind fun v5 =>
      (p_X1_surrounds V g f v5 x3 x1).bind fun v6 =>
      (if v6 = (0 : Int32) then
        p_X7_ringDepth_l10 V g f K42 N x0 x1 x2 (x3 + (1 : Int32))
      else
        p_X7_ringDepth_l10 V g f K42 N x0 x1 (x2 + (1 : Int32)) (x3 + (1 : Int32))))
def p_X7_ringDepth (V : Nat → Nat) (g f : GH) (a0 : Nat) (a1 : Int32) : Option (Nat ⊕ Int32) :=
  h_me f a0 9 <|
  x_b (p_X7_coastAt V g f a0 a1) (fun z => z) fun v1 =>
  p_X7_ringDepth_l10 V g f (fun x2 =>
    some (.inr x2)) FU a0 a1 (0 : Int32) (0 : Int32)
def p_X7_extent_l11 (V : Nat → Nat) (g f : GH) (K41 : Int32 → Int32 → Option Int32) : Nat → Nat → Int32 → Int32 → Int32 → Int32 → Option Int32
  | 0, _, _, _, _, _ => none
  | N + 1, x0, x1, x2, x3, x4 =>
    (if x1 ≤ x4 then
      K41 x2 x3
    else
      (h_li f x0 0 x4).bind fun v2 =>
      (p_J9_min_7cf53 V g f x2 v2).bind fun v3 =>
      (h_li f x0 0 x4).bind fun v4 =>
      (p_J9_max_7cf53 V g f x3 v4).bind fun v5 =>
      p_X7_extent_l11 V g f K41 N x0 x1 v3 v5 (x4 + (1 : Int32)))
def p_X7_extent (V : Nat → Nat) (g f : GH) (a0 : Nat) (a1 : Int32) : Option Int32 :=
  p_X7_extent_l11 V g f (fun x2 x3 =>
    some (x3 - x2)) FU a0 a1 (1000 : Int32) (-1000 : Int32) (0 : Int32)
def p_X7_boxWidth (V : Nat → Nat) (g f : GH) (a0 : Nat) (a1 : Int32) : Option (Nat ⊕ Int32) :=
  h_me f a0 9 <|
  x_b (p_X7_coastAt V g f a0 a1) (fun z => z) fun v1 =>
  (h_gr f v1 5 0).bind fun v2 =>
  (h_gi f v1 5 2).bind fun v3 =>
  (p_X7_extent V g f v2 v3).bind fun v4 =>
  some (.inr v4)
def p_X7_boxHeight (V : Nat → Nat) (g f : GH) (a0 : Nat) (a1 : Int32) : Option (Nat ⊕ Int32) :=
  h_me f a0 9 <|
  x_b (p_X7_coastAt V g f a0 a1) (fun z => z) fun v1 =>
  (h_gr f v1 5 1).bind fun v2 =>
  (h_gi f v1 5 2).bind fun v3 =>
  (p_X7_extent V g f v2 v3).bind fun v4 =>
  some (.inr v4)
def p_X7_foldObstacle (V : Nat → Nat) (g f : GH) (a0 : Nat) (a1 : Int32) (a2 : Int32) : Option (Nat ⊕ Int32) :=
  h_me f a0 9 <|
  x_b (p_X7_coastAt V g f a0 a1) (fun z => z) fun v1 =>
  x_b (p_X7_requireWithin V g f a2 (-50 : Int32) (50 : Int32)) (fun z => z) fun v2 =>
  (p_X2_whyNotFold V g f v1 a2).bind fun v3 =>
  some (.inr v3)
def p_X7_lengthAfterFold (V : Nat → Nat) (g f : GH) (a0 : Nat) (a1 : Int32) (a2 : Int32) (a3 : Int32) : Option ((Nat × GH) ⊕ (Int32 × GH)) :=
  h_me f a0 9 <|
  x_b (p_X7_coastAt V g f a0 a1) (fun z => (z, f)) fun v1 =>
  x_b (p_X7_requireWithin V g f a2 (-50 : Int32) (50 : Int32)) (fun z => (z, f)) fun v2 =>
  x_b (p_X7_requireWithin V g f a3 (0 : Int32) (7 : Int32)) (fun z => (z, f)) fun v3 =>
  (p_X2_whyNotFold V g f v1 a2).bind fun v4 =>
  (if v4 = (0 : Int32) then
    (h_gr f a0 9 11).bind fun v6 =>
    (p_X2_copyFrom V g f v6 v1).bind fun v7 =>
    (h_gr v7 a0 9 11).bind fun v8 =>
    (p_X2_insertMidpoints V g v7 v8 a2).bind fun v9 =>
    (h_gr v9 a0 9 11).bind fun v10 =>
    (h_gr v9 a0 9 0).bind fun v11 =>
    (h_gi v9 v11 4 2).bind fun v12 =>
    (p_X2_measure V g v9 v10 a3 v12).bind fun v13 =>
    some (.inr (v13, v9))
  else
    some (.inr ((-1 : Int32), f)))
def p_X7_lengthWithoutPoint (V : Nat → Nat) (g f : GH) (a0 : Nat) (a1 : Int32) (a2 : Int32) : Option (Nat ⊕ Int32) :=
  h_me f a0 9 <|
  x_b (p_X7_coastWithPoint V g f a0 a1 a2) (fun z => z) fun v1 =>
  (h_gr f a0 9 0).bind fun v2 =>
  (h_gi f v2 4 2).bind fun v3 =>
  (p_X2_measureWithout V g f v1 a2 v3).bind fun v4 =>
  some (.inr v4)
def p_X7_leastImportantPoint_l14 (V : Nat → Nat) (g f : GH) (K58 : Int32 → Option (Nat ⊕ Int32)) : Nat → Nat → Nat → Int32 → Int32 → Int32 → Option (Nat ⊕ Int32)
  | 0, _, _, _, _, _ => none
  | N + 1, x0, x2, x3, x4, x5 =>
    (h_gi f x2 5 2).bind fun v2 =>
    (if v2 ≤ x5 then
      K58 x3
    else
      (h_gr f x0 9 0).bind fun v4 =>
      (h_gi f v4 4 2).bind fun v5 =>
      (p_X2_measureWithout V g f x2 x5 v5).bind fun v6 =>
      (if v6 ≤ x4 then
        p_X7_leastImportantPoint_l14 V g f K58 N x0 x2 x3 x4 (x5 + (1 : Int32))
      else
        p_X7_leastImportantPoint_l14 V g f K58 N x0 x2 x5 v6 (x5 + (1 : Int32))))
def p_X7_leastImportantPoint (V : Nat → Nat) (g f : GH) (a0 : Nat) (a1 : Int32) : Option (Nat ⊕ Int32) :=
  h_me f a0 9 <|
  x_b (p_X7_coastAt V g f a0 a1) (fun z => z) fun v1 =>
  p_X7_leastImportantPoint_l14 V g f (fun x3 =>
    some (.inr x3)) FU a0 v1 (-1 : Int32) (-1 : Int32) (0 : Int32)
def p_X7_lengthInOtherMetric (V : Nat → Nat) (g f : GH) (a0 : Nat) (a1 : Int32) (a2 : Int32) : Option (Nat ⊕ Int32) :=
  h_me f a0 9 <|
  x_b (p_X7_coastAt V g f a0 a1) (fun z => z) fun v1 =>
  x_b (p_X7_requireWithin V g f a2 (0 : Int32) (7 : Int32)) (fun z => z) fun v2 =>
  (h_gr f a0 9 0).bind fun v3 =>
  (h_gi f v3 4 2).bind fun v4 =>
  (if v4 = (0 : Int32) then
    (p_X2_measure V g f v1 a2 (1 : Int32)).bind fun v7 =>
    some (.inr v7)
  else
    (p_X2_measure V g f v1 a2 (0 : Int32)).bind fun v6 =>
    some (.inr v6))
def p_X7_loadedPoints (V : Nat → Nat) (g f : GH) (a0 : Nat) : Option Int32 :=
  h_me f a0 9 <|
  (h_gr f a0 9 0).bind fun v1 =>
  (h_gi f v1 4 3).bind fun v2 =>
  some v2
def p_X7_addedPoints (V : Nat → Nat) (g f : GH) (a0 : Nat) : Option Int32 :=
  h_me f a0 9 <|
  (h_gr f a0 9 0).bind fun v1 =>
  (h_gi f v1 4 4).bind fun v2 =>
  some v2
def p_X7_removedPoints (V : Nat → Nat) (g f : GH) (a0 : Nat) : Option Int32 :=
  h_me f a0 9 <|
  (h_gr f a0 9 0).bind fun v1 =>
  (h_gi f v1 4 5).bind fun v2 =>
  some v2
def p_X7_ledgerGap (V : Nat → Nat) (g f : GH) (a0 : Nat) : Option Int32 :=
  h_me f a0 9 <|
  (h_gr f a0 9 0).bind fun v1 =>
  (h_gi f v1 4 3).bind fun v2 =>
  (h_gr f a0 9 0).bind fun v3 =>
  (h_gi f v3 4 4).bind fun v4 =>
  (h_gr f a0 9 0).bind fun v5 =>
  (h_gi f v5 4 5).bind fun v6 =>
  (h_gr f a0 9 0).bind fun v7 =>
  (p_X1_pointTotal V g f v7).bind fun v8 =>
  (p_J9_abs_0f7a4 V g f (((v2 + v4) - v6) - v8)).bind fun v9 =>
  some v9
def p_X7_refuse (V : Nat → Nat) (g f : GH) (a0 : Int32) : Option (Nat ⊕ Unit) :=
  (if a0 = (1 : Int32) then
    some (.inl 0)
  else
    (if a0 = (2 : Int32) then
      some (.inl 1)
    else
      (if a0 = (3 : Int32) then
        some (.inl 2)
      else
        some (.inr ()))))
def p_X7_rememberChart_j36 (V : Nat → Nat) (g : GH) (x0 : Nat) (t0 : Int32) (t1 : Nat) (f : GH) : Option GH :=
  (h_pt f t1 9 6 (.int t0)).bind fun f7 =>
  (h_gi f7 x0 9 5).bind fun v8 =>
  (if (8 : Int32) ≤ v8 then
    some f7
  else
    (h_gi f7 x0 9 5).bind fun v10 =>
    (h_pt f7 x0 9 5 (.int (v10 + (1 : Int32)))).bind fun f11 =>
    some f11)
def p_X7_rememberChart (V : Nat → Nat) (g f : GH) (a0 : Nat) : Option GH :=
  h_me f a0 9 <|
  (h_gr f a0 9 4).bind fun v1 =>
  (h_gi f a0 9 6).bind fun v2 =>
  (h_lq f v1 4 v2).bind fun v3 =>
  (h_gr f a0 9 0).bind fun v4 =>
  (p_X1_copyFrom V g f v3 v4).bind fun v5 =>
  (h_gi v5 a0 9 6).bind fun v6 =>
  (if v6 = (7 : Int32) then
    p_X7_rememberChart_j36 V g a0 (0 : Int32) a0 v5
  else
    (h_gi v5 a0 9 6).bind fun v13 =>
    p_X7_rememberChart_j36 V g a0 (v13 + (1 : Int32)) a0 v5)
def p_X7_change (V : Nat → Nat) (g f : GH) (a0 : Nat) : Option ((Nat × GH) ⊕ (Int32 × GH)) :=
  h_me f a0 9 <|
  (h_gr f a0 9 0).bind fun v1 =>
  (h_gr f a0 9 10).bind fun v2 =>
  (p_X1_refusalOf V g f v1 v2).bind fun v3 =>
  x_b (p_X7_refuse V g f v3) (fun z => (z, f)) fun v4 =>
  (p_X7_rememberChart V g f a0).bind fun v5 =>
  (h_gr v5 a0 9 0).bind fun v6 =>
  (h_gr v5 a0 9 10).bind fun v7 =>
  (p_X1_apply V g v5 v6 v7).bind fun v8 =>
  some (.inr (v8.1, v8.2))
def p_X7_addCoast (V : Nat → Nat) (g f : GH) (a0 : Nat) (a1 : Int32) : Option ((Nat × GH) ⊕ (Int32 × GH)) :=
  h_me f a0 9 <|
  x_b (p_X7_requireText V g f a0 a1) (fun z => (z, f)) fun v1 =>
  (h_gr f a0 9 10).bind fun v2 =>
  (h_pt f v2 6 0 (.ref (V 1))).bind fun f3 =>
  (h_gr f3 a0 9 0).bind fun v4 =>
  (h_gr f3 a0 9 10).bind fun v5 =>
  (p_X1_refusalOf V g f3 v4 v5).bind fun v6 =>
  x_b (p_X7_refuse V g f3 v6) (fun z => (z, f3)) fun v7 =>
  (h_gr f3 a0 9 8).bind fun v8 =>
  (h_gr f3 a0 9 10).bind fun v9 =>
  (h_gr f3 v9 6 6).bind fun v10 =>
  (p_X4_readLoneCoast V g f3 v8 a1 v10).bind fun v11 =>
  (h_gr v11.2 a0 9 7).bind fun v12 =>
  (h_pt v11.2 v12 8 1 (.int (0 : Int32))).bind fun f13 =>
  (if v11.1 = (0 : Int32) then
    some (.inr ((-1 : Int32), f13))
  else
    x_b (p_X7_change V g f13 a0) (fun z => z) fun v15 =>
    some (.inr (v15.1, v15.2)))
def p_X7_removeCoast (V : Nat → Nat) (g f : GH) (a0 : Nat) (a1 : Int32) : Option ((Nat × GH) ⊕ (Int32 × GH)) :=
  h_me f a0 9 <|
  (h_gr f a0 9 10).bind fun v1 =>
  (p_X3_set V g f v1 (V 10) a1 (0 : Int32) (0 : Int32) (0 : Int32)).bind fun v2 =>
  x_b (p_X7_change V g v2 a0) (fun z => z) fun v3 =>
  some (.inr (v3.1, v3.2))
def p_X7_fold (V : Nat → Nat) (g f : GH) (a0 : Nat) (a1 : Int32) (a2 : Int32) : Option ((Nat × GH) ⊕ (Int32 × GH)) :=
  h_me f a0 9 <|
  (h_gr f a0 9 10).bind fun v1 =>
  (p_X3_set V g f v1 (V 3) a1 (0 : Int32) a2 (0 : Int32)).bind fun v2 =>
  x_b (p_X7_change V g v2 a0) (fun z => z) fun v3 =>
  some (.inr (v3.1, v3.2))
def p_X7_unfold (V : Nat → Nat) (g f : GH) (a0 : Nat) (a1 : Int32) : Option ((Nat × GH) ⊕ (Int32 × GH)) :=
  h_me f a0 9 <|
  (h_gr f a0 9 10).bind fun v1 =>
  (p_X3_set V g f v1 (V 4) a1 (0 : Int32) (0 : Int32) (0 : Int32)).bind fun v2 =>
  x_b (p_X7_change V g v2 a0) (fun z => z) fun v3 =>
  some (.inr (v3.1, v3.2))
def p_X7_movePoint (V : Nat → Nat) (g f : GH) (a0 : Nat) (a1 : Int32) (a2 : Int32) (a3 : Int32) (a4 : Int32) : Option ((Nat × GH) ⊕ (Int32 × GH)) :=
  h_me f a0 9 <|
  (h_gr f a0 9 10).bind fun v1 =>
  (p_X3_set V g f v1 (V 5) a1 a2 a3 a4).bind fun v2 =>
  x_b (p_X7_change V g v2 a0) (fun z => z) fun v3 =>
  some (.inr (v3.1, v3.2))
def p_X7_insertPoint (V : Nat → Nat) (g f : GH) (a0 : Nat) (a1 : Int32) (a2 : Int32) (a3 : Int32) (a4 : Int32) : Option ((Nat × GH) ⊕ (Int32 × GH)) :=
  h_me f a0 9 <|
  (h_gr f a0 9 10).bind fun v1 =>
  (p_X3_set V g f v1 (V 6) a1 a2 a3 a4).bind fun v2 =>
  x_b (p_X7_change V g v2 a0) (fun z => z) fun v3 =>
  some (.inr (v3.1, v3.2))
def p_X7_removePoint (V : Nat → Nat) (g f : GH) (a0 : Nat) (a1 : Int32) (a2 : Int32) : Option ((Nat × GH) ⊕ (Int32 × GH)) :=
  h_me f a0 9 <|
  (h_gr f a0 9 10).bind fun v1 =>
  (p_X3_set V g f v1 (V 7) a1 a2 (0 : Int32) (0 : Int32)).bind fun v2 =>
  x_b (p_X7_change V g v2 a0) (fun z => z) fun v3 =>
  some (.inr (v3.1, v3.2))
def p_X7_shift (V : Nat → Nat) (g f : GH) (a0 : Nat) (a1 : Int32) (a2 : Int32) (a3 : Int32) : Option ((Nat × GH) ⊕ (Int32 × GH)) :=
  h_me f a0 9 <|
  (h_gr f a0 9 10).bind fun v1 =>
  (p_X3_set V g f v1 (V 8) a1 (0 : Int32) a2 a3).bind fun v2 =>
  x_b (p_X7_change V g v2 a0) (fun z => z) fun v3 =>
  some (.inr (v3.1, v3.2))
def p_X7_reverse (V : Nat → Nat) (g f : GH) (a0 : Nat) (a1 : Int32) : Option ((Nat × GH) ⊕ (Int32 × GH)) :=
  h_me f a0 9 <|
  (h_gr f a0 9 10).bind fun v1 =>
  (p_X3_set V g f v1 (V 9) a1 (0 : Int32) (0 : Int32) (0 : Int32)).bind fun v2 =>
  x_b (p_X7_change V g v2 a0) (fun z => z) fun v3 =>
  some (.inr (v3.1, v3.2))
def p_X7_setKingMetric (V : Nat → Nat) (g f : GH) (a0 : Nat) (a1 : Int32) : Option ((Nat × GH) ⊕ (Int32 × GH)) :=
  h_me f a0 9 <|
  (h_gr f a0 9 10).bind fun v1 =>
  (p_X3_set V g f v1 (V 11) (0 : Int32) (0 : Int32) (0 : Int32) (0 : Int32)).bind fun v2 =>
  (h_gr v2 a0 9 10).bind fun v3 =>
  (h_bz a1).bind fun _ =>
  (h_pt v2 v3 6 5 (.int a1)).bind fun f5 =>
  x_b (p_X7_change V g f5 a0) (fun z => z) fun v6 =>
  (if v6.1 = (1 : Int32) then
    some (.inr ((1 : Int32), v6.2))
  else
    some (.inr ((0 : Int32), v6.2)))
def p_X7_undoableCount (V : Nat → Nat) (g f : GH) (a0 : Nat) : Option Int32 :=
  h_me f a0 9 <|
  (h_gi f a0 9 5).bind fun v1 =>
  some v1
def p_X7_undo_j37 (V : Nat → Nat) (g : GH) (x0 : Nat) (t0 : Int32) (t1 : Nat) (f : GH) : Option ((Nat × GH) ⊕ (Int32 × GH)) :=
  (h_pt f t1 9 6 (.int t0)).bind fun f4 =>
  (h_gi f4 x0 9 5).bind fun v5 =>
  (h_pt f4 x0 9 5 (.int (v5 - (1 : Int32)))).bind fun f6 =>
  (h_gr f6 x0 9 0).bind fun v7 =>
  (h_gr f6 x0 9 4).bind fun v8 =>
  (h_gi f6 x0 9 6).bind fun v9 =>
  (h_lq f6 v8 4 v9).bind fun v10 =>
  (p_X1_copyFrom V g f6 v7 v10).bind fun v11 =>
  (h_gi v11 x0 9 5).bind fun v12 =>
  some (.inr (v12, v11))
def p_X7_undo (V : Nat → Nat) (g f : GH) (a0 : Nat) : Option ((Nat × GH) ⊕ (Int32 × GH)) :=
  h_me f a0 9 <|
  (h_gi f a0 9 5).bind fun v1 =>
  (if v1 = (0 : Int32) then
    some (.inl (2, f))
  else
    (h_gi f a0 9 6).bind fun v3 =>
    (if v3 = (0 : Int32) then
      p_X7_undo_j37 V g a0 (7 : Int32) a0 f
    else
      (h_gi f a0 9 6).bind fun v14 =>
      p_X7_undo_j37 V g a0 (v14 - (1 : Int32)) a0 f))
def p_X7_saveSnapshot (V : Nat → Nat) (g f : GH) (a0 : Nat) : Option GH :=
  h_me f a0 9 <|
  (h_gr f a0 9 2).bind fun v1 =>
  (h_gr f a0 9 0).bind fun v2 =>
  (p_X1_copyFrom V g f v1 v2).bind fun v3 =>
  (h_pt v3 a0 9 3 (.int (1 : Int32))).bind fun f4 =>
  some f4
def p_X7_restoreSnapshot (V : Nat → Nat) (g f : GH) (a0 : Nat) : Option ((Nat × GH) ⊕ (Int32 × GH)) :=
  h_me f a0 9 <|
  (h_gi f a0 9 3).bind fun v1 =>
  (if v1 = (0 : Int32) then
    some (.inl (2, f))
  else
    (h_gr f a0 9 0).bind fun v3 =>
    (h_gr f a0 9 2).bind fun v4 =>
    (p_X1_copyFrom V g f v3 v4).bind fun v5 =>
    (h_pt v5 a0 9 5 (.int (0 : Int32))).bind fun f6 =>
    (h_gr f6 a0 9 0).bind fun v7 =>
    (h_gi f6 v7 4 1).bind fun v8 =>
    some (.inr (v8, f6)))
def p_J8_newLength_cabcc (V : Nat → Nat) (g f : GH) (a0 : Int32) (a1 : Int32) (a2 : Int32) : Option Int32 :=
  (p_J9_max_7cf53 V g f a1 a2).bind fun v1 =>
  (if (a0 + v1) ≤ (0 : Int32) then
    none
  else
    (if (2147483639 : Int32) < (a0 + v1) then
      none
    else
      some (a0 + v1)))
def p_J5_newCapacity_0f7a4 (V : Nat → Nat) (g f : GH) (a0 : Nat) (a1 : Int32) : Option Int32 :=
  h_me f a0 1 <|
  (h_gr f a0 1 0).bind fun v1 =>
  (h_al f v1 1).bind fun v2 =>
  (h_gi f a0 1 1).bind fun v3 =>
  (h_gi f a0 1 1).bind fun v4 =>
  (p_J8_newLength_cabcc V g f v2 ((a1 <<< (v3 &&& 31)) - v2) (v2 + ((2 : Int32) <<< (v4 &&& 31)))).bind fun v5 =>
  (if v5 = (2147483647 : Int32) then
    none
  else
    (h_gi f a0 1 1).bind fun v7 =>
    some (v5 >>> (v7 &&& 31)))
def p_J7_copyOf_9075b (V : Nat → Nat) (g f : GH) (n : Nat) (a0 : Nat) (a1 : Int32) : Option (Nat × GH × Nat) :=
  (h_al f a0 1).bind fun v1 =>
  (if a1 = v1 then
    none
  else
    (h_nv f n 1 a1 600).bind fun f3 =>
    (h_al f3 a0 1).bind fun v4 =>
    (p_J9_min_7cf53 V g f3 v4 a1).bind fun v5 =>
    (h_cpb f3 a0 (0 : Int32) n (0 : Int32) v5).bind fun f6 =>
    some (n, f6, n + 1))
def p_J5_ensureCapacityInternal_d00df (V : Nat → Nat) (g f : GH) (n : Nat) (a0 : Nat) (a1 : Int32) : Option (GH × Nat) :=
  h_me f a0 1 <|
  (h_gr f a0 1 0).bind fun v1 =>
  (h_al f v1 1).bind fun v2 =>
  (h_gi f a0 1 1).bind fun v3 =>
  (if (a1 - (v2 >>> (v3 &&& 31))) ≤ (0 : Int32) then
    some (f, n)
  else
    (h_gr f a0 1 0).bind fun v5 =>
    (p_J5_newCapacity_0f7a4 V g f a0 a1).bind fun v6 =>
    (h_gi f a0 1 1).bind fun v7 =>
    (p_J7_copyOf_9075b V g f n v5 (v6 <<< (v7 &&& 31))).bind fun v8 =>
    (h_pt v8.2.1 a0 1 0 (.ref v8.1)).bind fun f9 =>
    some (f9, v8.2.2))
def p_J0_getBytes_840e7 (V : Nat → Nat) (g f : GH) (a0 : Nat) (a1 : Nat) (a2 : Int32) (a3 : Int32) : Option GH :=
  h_me (gO g) a0 51 <|
  (p_J0_coder_7d493 V g f a0).bind fun v1 =>
  (if v1 = a3 then
    (h_gr (gO g) a0 51 0).bind fun v3 =>
    (h_gr (gO g) a0 51 0).bind fun v4 =>
    (h_al (gA g) v4 1).bind fun v5 =>
    (h_cpbs (gA g) f v3 (0 : Int32) a1 (a2 <<< (a3 &&& 31)) v5).bind fun f6 =>
    some f6
  else
    none)
def p_J5_inflateIfNeededFor_a7421 (V : Nat → Nat) (g f : GH) (a0 : Nat) (a1 : Nat) : Option Unit :=
  h_me f a0 1 <|
  (h_gi f a0 1 1).bind fun v1 =>
  (p_J0_coder_7d493 V g f a1).bind fun v2 =>
  (if v1 = v2 then
    some ()
  else
    none)
def p_J5_putStringAt_47b60 (V : Nat → Nat) (g f : GH) (a0 : Nat) (a1 : Int32) (a2 : Nat) : Option GH :=
  h_me f a0 1 <|
  (p_J5_inflateIfNeededFor_a7421 V g f a0 a2).bind fun v1 =>
  (h_gr f a0 1 0).bind fun v2 =>
  (h_gi f a0 1 1).bind fun v3 =>
  (p_J0_getBytes_840e7 V g f a2 v2 a1 v3).bind fun v4 =>
  some v4
def p_J5_append_cf1ce (V : Nat → Nat) (g f : GH) (n : Nat) (a0 : Nat) (a1 : Nat) : Option (Nat × GH × Nat) :=
  h_me f a0 1 <|
  (p_J0_length_8abf5 V g f a1).bind fun v1 =>
  (h_gi f a0 1 3).bind fun v2 =>
  (p_J5_ensureCapacityInternal_d00df V g f n a0 (v2 + v1)).bind fun v3 =>
  (h_gi v3.1 a0 1 3).bind fun v4 =>
  (p_J5_putStringAt_47b60 V g v3.1 a0 v4 a1).bind fun v5 =>
  (h_gi v5 a0 1 3).bind fun v6 =>
  (h_pt v5 a0 1 3 (.int (v6 + v1))).bind fun f7 =>
  some (a0, f7, v3.2)
def p_J4_append_15ec4 (V : Nat → Nat) (g f : GH) (n : Nat) (a0 : Nat) (a1 : Nat) : Option (Nat × GH × Nat) :=
  h_me f a0 1 <|
  (p_J5_append_cf1ce V g f n a0 a1).bind fun v1 =>
  some (a0, v1.2.1, v1.2.2)
def p_J4_append_cf1ce (V : Nat → Nat) (g f : GH) (n : Nat) (a0 : Nat) (a1 : Nat) : Option (Nat × GH × Nat) :=
  h_me f a0 1 <|
  (p_J4_append_15ec4 V g f n a0 a1).bind fun v1 =>
  some (v1.1, v1.2.1, v1.2.2)
def p_J5_init_a7421 (V : Nat → Nat) (g f : GH) (n : Nat) (a0 : Nat) (a1 : Nat) : Option (GH × Nat) :=
  h_me f a0 1 <|
  (p_J0_length_8abf5 V g f a1).bind fun v1 =>
  (if (2147483631 : Int32) ≤ v1 then
    none
  else
    (p_J0_coder_7d493 V g f a1).bind fun v3 =>
    (h_yz v3).bind fun _ =>
    (h_pt f a0 1 1 (.int v3)).bind fun f5 =>
    (if v3 = (0 : Int32) then
      (h_nv f5 n 1 (v1 + (16 : Int32)) 60).bind fun f7 =>
      (h_pt f7 a0 1 0 (.ref n)).bind fun f8 =>
      (p_J4_append_cf1ce V g f8 (n + 1) a0 a1).bind fun v9 =>
      some (v9.2.1, v9.2.2)
    else
      none))
def p_J5_length_8abf5 (V : Nat → Nat) (g f : GH) (a0 : Nat) : Option Int32 :=
  h_me f a0 1 <|
  (h_gi f a0 1 3).bind fun v1 =>
  some v1
def p_J5_isLatin1_aae02 (V : Nat → Nat) (g f : GH) (a0 : Nat) : Option Int32 :=
  h_me f a0 1 <|
  (h_gi f a0 1 1).bind fun v1 =>
  (if v1 = (0 : Int32) then
    some (1 : Int32)
  else
    some (0 : Int32))
def p_J1_canEncode_fc78d (V : Nat → Nat) (g f : GH) (a0 : Int32) : Option Int32 :=
  (if (255 : Int32) < a0 then
    some (0 : Int32)
  else
    some (1 : Int32))
def p_J5_append_3fe6f (V : Nat → Nat) (g f : GH) (n : Nat) (a0 : Nat) (a1 : Int32) : Option (Nat × GH × Nat) :=
  h_me f a0 1 <|
  (h_gi f a0 1 3).bind fun v1 =>
  (p_J5_ensureCapacityInternal_d00df V g f n a0 (v1 + (1 : Int32))).bind fun v2 =>
  (p_J5_isLatin1_aae02 V g v2.1 a0).bind fun v3 =>
  (if v3 = (0 : Int32) then
    none
  else
    (p_J1_canEncode_fc78d V g v2.1 a1).bind fun v5 =>
    (if v5 = (0 : Int32) then
      none
    else
      (h_gr v2.1 a0 1 0).bind fun v7 =>
      (h_gi v2.1 a0 1 3).bind fun v8 =>
      (h_pt v2.1 a0 1 3 (.int (v8 + (1 : Int32)))).bind fun f9 =>
      (h_sb f9 v7 1 v8 a1.toInt8.toInt32).bind fun f10 =>
      some (a0, f10, v2.2)))
def p_J6_getChars_ba4f3_l22 (V : Nat → Nat) (g : GH) (K72 : Int32 → Nat → Int32 → Int32 → GH → Option (Int32 × GH)) : Nat → Int32 → Nat → Int32 → Int32 → GH → Option (Int32 × GH)
  | 0, _, _, _, _, _ => none
  | N + 1, x0, x2, x5, x6, f =>
    (if (-100 : Int32) < x0 then
      K72 x0 x2 x5 x6 f
    else
      (h_li (gA g) (V 17) 1 (((x0 / (100 : Int32)) * (100 : Int32)) - x0)).bind fun v3 =>
      (h_sb f x2 1 (x5 + (-1 : Int32)) v3).bind fun f4 =>
      (h_li (gA g) (V 18) 1 (((x0 / (100 : Int32)) * (100 : Int32)) - x0)).bind fun v5 =>
      (h_sb f4 x2 1 ((x5 + (-1 : Int32)) + (-1 : Int32)) v5).bind fun f6 =>
      p_J6_getChars_ba4f3_l22 V g K72 N (x0 / (100 : Int32)) x2 ((x5 + (-1 : Int32)) + (-1 : Int32)) x6 f6)
def p_J6_getChars_ba4f3_j104 (V : Nat → Nat) (g : GH) (x2 : Nat) (x5 : Int32) (x6 : Int32) (f : GH) : Option (Int32 × GH) :=
  (if x6 = (0 : Int32) then
    some (x5, f)
  else
    (h_sb f x2 1 (x5 + (-1 : Int32)) (45 : Int32)).bind fun f10 =>
    some (x5 + (-1 : Int32), f10))
def p_J6_getChars_ba4f3_j12 (V : Nat → Nat) (g : GH) (x0 : Int32) (x2 : Nat) (x5 : Int32) (t0 : Int32) (f : GH) : Option (Int32 × GH) :=
  (if t0 = (0 : Int32) then
    p_J6_getChars_ba4f3_l22 V g (fun x0 x2 x5 x6 f =>
      (h_li (gA g) (V 17) 1 (-x0)).bind fun v19 =>
      (h_sb f x2 1 (x5 + (-1 : Int32)) v19).bind fun f20 =>
      (if (-9 : Int32) ≤ x0 then
        p_J6_getChars_ba4f3_j104 V g x2 (x5 + (-1 : Int32)) x6 f20
      else
        (h_li (gA g) (V 18) 1 (-x0)).bind fun v24 =>
        (h_sb f20 x2 1 ((x5 + (-1 : Int32)) + (-1 : Int32)) v24).bind fun f25 =>
        p_J6_getChars_ba4f3_j104 V g x2 ((x5 + (-1 : Int32)) + (-1 : Int32)) x6 f25)) FU (-x0) x2 x5 t0 f
  else
    p_J6_getChars_ba4f3_l22 V g (fun x0 x2 x5 x6 f =>
      (h_li (gA g) (V 17) 1 (-x0)).bind fun v7 =>
      (h_sb f x2 1 (x5 + (-1 : Int32)) v7).bind fun f8 =>
      (if (-9 : Int32) ≤ x0 then
        p_J6_getChars_ba4f3_j104 V g x2 (x5 + (-1 : Int32)) x6 f8
      else
        (h_li (gA g) (V 18) 1 (-x0)).bind fun v12 =>
        (h_sb f8 x2 1 ((x5 + (-1 : Int32)) + (-1 : Int32)) v12).bind fun f13 =>
        p_J6_getChars_ba4f3_j104 V g x2 ((x5 + (-1 : Int32)) + (-1 : Int32)) x6 f13)) FU x0 x2 x5 t0 f)
def p_J6_getChars_ba4f3 (V : Nat → Nat) (g f : GH) (a0 : Int32) (a1 : Int32) (a2 : Nat) : Option (Int32 × GH) :=
  (if (0 : Int32) ≤ a0 then
    p_J6_getChars_ba4f3_j12 V g a0 a2 a1 (0 : Int32) f
  else
    p_J6_getChars_ba4f3_j12 V g a0 a2 a1 (1 : Int32) f)
def p_J6_stringSize_0f7a4_l16 (V : Nat → Nat) (g f : GH) (K27 : Int32 → Int32 → Option Int32) (K42 : Int32 → Option Int32) : Nat → Int32 → Int32 → Int32 → Int32 → Option Int32
  | 0, _, _, _, _ => none
  | N + 1, x0, x1, x2, x3 =>
    (if (10 : Int32) ≤ x3 then
      K42 x1
    else
      (if x0 ≤ x2 then
        p_J6_stringSize_0f7a4_l16 V g f K27 K42 N x0 x1 ((10 : Int32) * x2) (x3 + (1 : Int32))
      else
        K27 x1 x3))
def p_J6_stringSize_0f7a4_j11 (V : Nat → Nat) (g f : GH) (x0 : Int32) (x1 : Int32) : Option Int32 :=
  p_J6_stringSize_0f7a4_l16 V g f (fun x1 x3 =>
    some (x3 + x1)) (fun x1 =>
    some ((10 : Int32) + x1)) FU x0 x1 (-10 : Int32) (1 : Int32)
def p_J6_stringSize_0f7a4 (V : Nat → Nat) (g f : GH) (a0 : Int32) : Option Int32 :=
  (if a0 < (0 : Int32) then
    p_J6_stringSize_0f7a4_j11 V g f a0 (1 : Int32)
  else
    p_J6_stringSize_0f7a4_j11 V g f (-a0) (0 : Int32))
def p_J5_append_c97b9 (V : Nat → Nat) (g f : GH) (n : Nat) (a0 : Nat) (a1 : Int32) : Option (Nat × GH × Nat) :=
  h_me f a0 1 <|
  (h_gi f a0 1 3).bind fun v1 =>
  (p_J6_stringSize_0f7a4 V g f a1).bind fun v2 =>
  (p_J5_ensureCapacityInternal_d00df V g f n a0 (v1 + v2)).bind fun v3 =>
  (p_J5_isLatin1_aae02 V g v3.1 a0).bind fun v4 =>
  (if v4 = (0 : Int32) then
    none
  else
    (h_gr v3.1 a0 1 0).bind fun v6 =>
    (p_J6_getChars_ba4f3 V g v3.1 a1 (v1 + v2) v6).bind fun v7 =>
    (h_pt v7.2 a0 1 3 (.int (v1 + v2))).bind fun f8 =>
    some (a0, f8, v3.2))
def p_J5_getValue_6d5f1 (V : Nat → Nat) (g f : GH) (a0 : Nat) : Option Nat :=
  h_me f a0 1 <|
  (h_gr f a0 1 0).bind fun v1 =>
  some v1
def p_J4_length_8abf5 (V : Nat → Nat) (g f : GH) (a0 : Nat) : Option Int32 :=
  h_me f a0 1 <|
  (p_J5_length_8abf5 V g f a0).bind fun v1 =>
  some v1
def p_J7_checkLength_df160 (V : Nat → Nat) (g f : GH) (a0 : Int32) (a1 : Int32) : Option Unit :=
  (if a0 ≤ a1 then
    some ()
  else
    none)
def p_J7_copyOfRangeByte_39247 (V : Nat → Nat) (g f : GH) (n : Nat) (a0 : Nat) (a1 : Int32) (a2 : Int32) : Option (Nat × GH × Nat) :=
  (p_J7_checkLength_df160 V g f a1 a2).bind fun v1 =>
  (h_nv f n 1 (a2 - a1) 600).bind fun f2 =>
  (h_al f2 a0 1).bind fun v3 =>
  (p_J9_min_7cf53 V g f2 (v3 - a1) (a2 - a1)).bind fun v4 =>
  (h_cpb f2 a0 a1 n (0 : Int32) v4).bind fun f5 =>
  some (n, f5, n + 1)
def p_J7_copyOfRange_39247 (V : Nat → Nat) (g f : GH) (n : Nat) (a0 : Nat) (a1 : Int32) (a2 : Int32) : Option (Nat × GH × Nat) :=
  (if a1 = (0 : Int32) then
    (h_al f a0 1).bind fun v3 =>
    (if a2 = v3 then
      (h_cl f n a0 600).bind fun f5 =>
      (h_al f5 n 1).bind fun _ =>
      some (n, f5, n + 1)
    else
      (p_J7_copyOfRangeByte_39247 V g f n a0 a1 a2).bind fun v7 =>
      some (v7.1, v7.2.1, v7.2.2))
  else
    (p_J7_copyOfRangeByte_39247 V g f n a0 a1 a2).bind fun v2 =>
    some (v2.1, v2.2.1, v2.2.2))
def p_J0_init_db425 (V : Nat → Nat) (g f : GH) (n : Nat) (a0 : Nat) (a1 : Nat) (a2 : Option Nat) : Option (GH × Nat) :=
  h_me f a0 0 <|
  (p_J5_getValue_6d5f1 V g f a1).bind fun v1 =>
  (p_J4_length_8abf5 V g f a1).bind fun v2 =>
  (p_J5_isLatin1_aae02 V g f a1).bind fun v3 =>
  (if v3 = (0 : Int32) then
    none
  else
    (h_pt f a0 0 1 (.int (0 : Int32))).bind fun f5 =>
    (p_J7_copyOfRange_39247 V g f5 n v1 (0 : Int32) v2).bind fun v6 =>
    (h_pt v6.2.1 a0 0 0 (.ref v6.1)).bind fun f7 =>
    some (f7, v6.2.2))
def p_J0_init_81219 (V : Nat → Nat) (g f : GH) (n : Nat) (a0 : Nat) (a1 : Nat) : Option (GH × Nat) :=
  h_me f a0 0 <|
  (p_J0_init_db425 V g f n a0 a1 none).bind fun v1 =>
  some (v1.1, v1.2)
def p_J4_init_a7421 (V : Nat → Nat) (g f : GH) (n : Nat) (a0 : Nat) (a1 : Nat) : Option (GH × Nat) :=
  h_me f a0 1 <|
  (p_J5_init_a7421 V g f n a0 a1).bind fun v1 =>
  some (v1.1, v1.2)
def p_J4_append_cf468 (V : Nat → Nat) (g f : GH) (n : Nat) (a0 : Nat) (a1 : Int32) : Option (Nat × GH × Nat) :=
  h_me f a0 1 <|
  (p_J5_append_3fe6f V g f n a0 a1).bind fun v1 =>
  some (a0, v1.2.1, v1.2.2)
def p_J4_append_bf812 (V : Nat → Nat) (g f : GH) (n : Nat) (a0 : Nat) (a1 : Int32) : Option (Nat × GH × Nat) :=
  h_me f a0 1 <|
  (p_J5_append_c97b9 V g f n a0 a1).bind fun v1 =>
  some (a0, v1.2.1, v1.2.2)
def p_J4_toString_0e30d (V : Nat → Nat) (g f : GH) (n : Nat) (a0 : Nat) : Option (Nat × GH × Nat) :=
  h_me f a0 1 <|
  (some (h_up f n (.inr (0, [.null, .int 0, .int 0, .int 0])))).bind fun f1 =>
  (p_J0_init_81219 V g f1 (n + 1) n a0).bind fun v2 =>
  some (n, v2.1, v2.2)
def p_L_most (V : Nat → Nat) (g f : GH) (a0 : Int32) (a1 : Int32) : Option Int32 :=
  (h_dv a1).bind fun _ =>
  some ((a0 &&& (2147483647 : Int32)) - (a0 &&& (2147483647 : Int32)) / a1 * a1)
def p_L_cell (V : Nat → Nat) (g f : GH) (a0 : Nat) (a1 : Int32) : Option Int32 :=
  (h_al (gA g) a0 0).bind fun v1 =>
  (if v1 ≤ a1 then
    some ((37 : Int32) * a1)
  else
    (h_li (gA g) a0 0 a1).bind fun v3 =>
    some v3)
def p_L_add_l65 (V : Nat → Nat) (g : GH) (K80 : GH → Option GH) : Nat → Nat → Int32 → GH → Option GH
  | 0, _, _, _ => none
  | N + 1, x1, x3, f =>
    (if (5 : Int32) ≤ x3 then
      K80 f
    else
      (h_si f x1 0 x3 (0 : Int32)).bind fun f16 =>
      p_L_add_l65 V g K80 N x1 (x3 + (1 : Int32)) f16)
def p_L_add (V : Nat → Nat) (g f : GH) (a0 : Nat) (a1 : Nat) (a2 : Int32) : Option GH :=
  (h_li f a1 0 (5 : Int32)).bind fun v1 =>
  (h_li f a1 0 ((v1 - v1 / (20 : Int32) * (20 : Int32)) / (4 : Int32))).bind fun v2 =>
  (h_li f a1 0 (5 : Int32)).bind fun v3 =>
  (h_si f a1 0 ((v1 - v1 / (20 : Int32) * (20 : Int32)) / (4 : Int32)) (v2 ||| (a2 <<< (((24 : Int32) - ((8 : Int32) * (v3 - v3 / (4 : Int32) * (4 : Int32)))) &&& 31)))).bind fun f4 =>
  (h_li f4 a1 0 (5 : Int32)).bind fun v5 =>
  (h_si f4 a1 0 (5 : Int32) (v5 + (1 : Int32))).bind fun f6 =>
  (h_li f6 a1 0 (5 : Int32)).bind fun v7 =>
  (if (v7 - v7 / (20 : Int32) * (20 : Int32)) = (0 : Int32) then
    (h_li f6 a1 0 (0 : Int32)).bind fun v9 =>
    (h_li f6 a1 0 (1 : Int32)).bind fun v10 =>
    (h_li f6 a1 0 (2 : Int32)).bind fun v11 =>
    (h_li f6 a1 0 (3 : Int32)).bind fun v12 =>
    (h_li f6 a1 0 (4 : Int32)).bind fun v13 =>
    (p_X7_appendText V g f6 a0 v9 v10 v11 v12 v13).bind fun v14 =>
    p_L_add_l65 V g (fun f =>
      some f) FU a1 (0 : Int32) v14.2
  else
    some f6)
def p_J0_isLatin1_aae02D (V : Nat → Nat) (g f : GH) (a0 : Nat) : Option Int32 :=
  h_me f a0 0 <|
  (h_gi f a0 0 1).bind fun v1 =>
  (if v1 = (0 : Int32) then
    some (1 : Int32)
  else
    some (0 : Int32))
def p_J1_charAt_3b067D (V : Nat → Nat) (g f : GH) (a0 : Nat) (a1 : Int32) : Option Int32 :=
  (h_al f a0 1).bind fun v1 =>
  (p_J0_checkIndex_df160 V g f a1 v1).bind fun v2 =>
  (h_li f a0 1 a1).bind fun v3 =>
  (h_cz (((v3 &&& (255 : Int32)).toUInt32 % 65536).toInt32)).bind fun _ =>
  some (((v3 &&& (255 : Int32)).toUInt32 % 65536).toInt32)
def p_J0_charAt_5068eD (V : Nat → Nat) (g f : GH) (a0 : Nat) (a1 : Int32) : Option Int32 :=
  h_me f a0 0 <|
  (p_J0_isLatin1_aae02D V g f a0).bind fun v1 =>
  (if v1 = (0 : Int32) then
    none
  else
    (h_gr f a0 0 0).bind fun v3 =>
    (p_J1_charAt_3b067D V g f v3 a1).bind fun v4 =>
    (h_cz v4).bind fun _ =>
    some v4)
def p_J0_coder_7d493D (V : Nat → Nat) (g f : GH) (a0 : Nat) : Option Int32 :=
  h_me f a0 0 <|
  (h_gi f a0 0 1).bind fun v1 =>
  (h_yz v1).bind fun _ =>
  some v1
def p_J0_length_8abf5D (V : Nat → Nat) (g f : GH) (a0 : Nat) : Option Int32 :=
  h_me f a0 0 <|
  (h_gr f a0 0 0).bind fun v1 =>
  (h_al f v1 1).bind fun v2 =>
  (p_J0_coder_7d493D V g f a0).bind fun v3 =>
  some (v2 >>> (v3 &&& 31))
def p_L_say_l2 (V : Nat → Nat) (g : GH) (K26 : GH → Option GH) : Nat → Nat → Nat → Nat → Int32 → GH → Option GH
  | 0, _, _, _, _, _ => none
  | N + 1, x0, x1, x2, x3, f =>
    (p_J0_length_8abf5D V g f x2).bind fun v1 =>
    (if v1 ≤ x3 then
      K26 f
    else
      (p_J0_charAt_5068eD V g f x2 x3).bind fun v3 =>
      (p_L_add V g f x0 x1 v3).bind fun v4 =>
      p_L_say_l2 V g K26 N x0 x1 x2 (x3 + (1 : Int32)) v4)
def p_L_say (V : Nat → Nat) (g f : GH) (a0 : Nat) (a1 : Nat) (a2 : Nat) : Option GH :=
  p_L_say_l2 V g (fun f =>
    some f) FU a0 a1 a2 (0 : Int32) f
def p_L_end_l4 (V : Nat → Nat) (g : GH) (K23 : Nat → Int32 → GH → Option (Int32 × GH)) : Nat → Nat → Nat → Int32 → GH → Option (Int32 × GH)
  | 0, _, _, _, _ => none
  | N + 1, x0, x1, x2, f =>
    (h_li f x1 0 (5 : Int32)).bind fun v2 =>
    (if (v2 - v2 / (20 : Int32) * (20 : Int32)) = (0 : Int32) then
      K23 x1 x2 f
    else
      (p_L_add V g f x0 x1 (32 : Int32)).bind fun v4 =>
      p_L_end_l4 V g K23 N x0 x1 x2 v4)
def p_L_end (V : Nat → Nat) (g f : GH) (a0 : Nat) (a1 : Nat) : Option (Int32 × GH) :=
  (h_li f a1 0 (5 : Int32)).bind fun v1 =>
  p_L_end_l4 V g (fun x1 x2 f =>
    (h_si f x1 0 (5 : Int32) (0 : Int32)).bind fun f5 =>
    some (x2, f5)) FU a0 a1 v1 f
def p_L_all_l9 (V : Nat → Nat) (g : GH) (K28 : Nat → Int32 → Int32 → GH → Nat → Option (Nat × GH × Nat)) : Nat → Nat → Int32 → Int32 → Int32 → GH → Nat → Option (Nat × GH × Nat)
  | 0, _, _, _, _, _, _ => none
  | N + 1, x0, x1, x2, x3, f, n =>
    (if x1 ≤ x3 then
      K28 x0 x1 x2 f n
    else
      (h_nt (p_X7_pointCount V g f x0 x3)).bind fun v3 =>
      p_L_all_l9 V g K28 N x0 x1 (x2 + v3) (x3 + (1 : Int32)) f n)
def p_L_all_l149 (V : Nat → Nat) (g : GH) (K196 : Nat → Int32 → Nat → Int32 → Int32 → GH → Nat → Option (Nat × GH × Nat)) : Nat → Nat → Int32 → Nat → Int32 → Int32 → Int32 → GH → Nat → Option (Nat × GH × Nat)
  | 0, _, _, _, _, _, _, _, _ => none
  | N + 1, x0, x1, x3, x4, x5, x6, f, n =>
    (h_nt (p_X7_pointCount V g f x0 x5)).bind fun v19 =>
    (if v19 ≤ x6 then
      K196 x0 x1 x3 x4 x5 f n
    else
      (h_nt (p_X7_pointX V g f x0 x5 x6)).bind fun v21 =>
      (h_si f x3 0 x4 v21).bind fun f22 =>
      (h_nt (p_X7_pointY V g f22 x0 x5 x6)).bind fun v23 =>
      (h_si f22 x3 0 (x4 + (1 : Int32)) v23).bind fun f24 =>
      p_L_all_l149 V g K196 N x0 x1 x3 ((x4 + (1 : Int32)) + (1 : Int32)) x5 (x6 + (1 : Int32)) f24 n)
def p_L_all_j132 (V : Nat → Nat) (g : GH) (K106 : Nat → Int32 → Nat → Int32 → Int32 → GH → Nat → Option (Nat × GH × Nat)) (x0 : Nat) (x1 : Int32) (x3 : Nat) (x4 : Int32) (x5 : Int32) (t0 : Int32) (t1 : Int32) (t2 : Nat) (f : GH) (n : Nat) : Option (Nat × GH × Nat) :=
  (h_si f t2 0 t1 t0).bind fun f16 =>
  (h_nt (p_X7_pointCount V g f16 x0 x5)).bind fun v17 =>
  (h_si f16 x3 0 x4 v17).bind fun f18 =>
  p_L_all_l149 V g (fun x0 x1 x3 x4 x5 f n =>
    K106 x0 x1 x3 x4 (x5 + (1 : Int32)) f n) FU x0 x1 x3 (x4 + (1 : Int32)) x5 (0 : Int32) f18 n
def p_L_all_l106 (V : Nat → Nat) (g : GH) (K202 : Nat → GH → Nat → Option (Nat × GH × Nat)) : Nat → Nat → Int32 → Nat → Int32 → Int32 → GH → Nat → Option (Nat × GH × Nat)
  | 0, _, _, _, _, _, _, _ => none
  | N + 1, x0, x1, x3, x4, x5, f, n =>
    (if x1 ≤ x5 then
      K202 x3 f n
    else
      (h_nt (p_X7_isIsland V g f x0 x5)).bind fun v15 =>
      (if v15 = (0 : Int32) then
        p_L_all_j132 V g (p_L_all_l106 V g K202 N) x0 x1 x3 (x4 + (1 : Int32)) x5 (0 : Int32) x4 x3 f n
      else
        p_L_all_j132 V g (p_L_all_l106 V g K202 N) x0 x1 x3 (x4 + (1 : Int32)) x5 (1 : Int32) x4 x3 f n))
def p_L_all_j69 (V : Nat → Nat) (g : GH) (x0 : Nat) (x1 : Int32) (x3 : Nat) (x4 : Int32) (t0 : Int32) (t1 : Int32) (t2 : Nat) (f : GH) (n : Nat) : Option (Nat × GH × Nat) :=
  (h_si f t2 0 t1 t0).bind fun f7 =>
  (p_X7_loadedPoints V g f7 x0).bind fun v8 =>
  (h_si f7 x3 0 x4 v8).bind fun f9 =>
  (p_X7_addedPoints V g f9 x0).bind fun v10 =>
  (h_si f9 x3 0 (x4 + (1 : Int32)) v10).bind fun f11 =>
  (p_X7_removedPoints V g f11 x0).bind fun v12 =>
  (h_si f11 x3 0 ((x4 + (1 : Int32)) + (1 : Int32)) v12).bind fun f13 =>
  p_L_all_l106 V g (fun x3 f n =>
    some (x3, f, n)) FU x0 x1 x3 (((x4 + (1 : Int32)) + (1 : Int32)) + (1 : Int32)) (0 : Int32) f13 n
def p_L_all (V : Nat → Nat) (g f : GH) (n : Nat) (a0 : Nat) : Option (Nat × GH × Nat) :=
  (p_X7_coastCount V g f a0).bind fun v1 =>
  p_L_all_l9 V g (fun x0 x1 x2 f n =>
    (h_nv f n 0 (((5 : Int32) + ((2 : Int32) * x1)) + ((2 : Int32) * x2)) 1600).bind fun f4 =>
    (h_si f4 n 0 (0 : Int32) x1).bind fun f5 =>
    (p_X7_usesKingMetric V g f5 x0).bind fun v6 =>
    (if v6 = (0 : Int32) then
      p_L_all_j69 V g x0 x1 n (2 : Int32) (0 : Int32) (1 : Int32) n f5 (n + 1)
    else
      p_L_all_j69 V g x0 x1 n (2 : Int32) (1 : Int32) (1 : Int32) n f5 (n + 1))) FU a0 v1 (0 : Int32) (0 : Int32) f n
def p_L_alike_l11 (V : Nat → Nat) (g f : GH) (K26 : Option Int32) (K34 : Option Int32) : Nat → Nat → Nat → Int32 → Option Int32
  | 0, _, _, _ => none
  | N + 1, x0, x1, x2 =>
    (h_al f x0 0).bind fun v4 =>
    (if v4 ≤ x2 then
      K34
    else
      (h_li f x0 0 x2).bind fun v6 =>
      (h_li f x1 0 x2).bind fun v7 =>
      (if v6 = v7 then
        p_L_alike_l11 V g f K26 K34 N x0 x1 (x2 + (1 : Int32))
      else
        K26))
def p_L_alike (V : Nat → Nat) (g f : GH) (a0 : Nat) (a1 : Nat) : Option Int32 :=
  (h_al f a0 0).bind fun v1 =>
  (h_al f a1 0).bind fun v2 =>
  (if v1 = v2 then
    p_L_alike_l11 V g f (some (0 : Int32)) (some (1 : Int32)) FU a0 a1 (0 : Int32)
  else
    some (0 : Int32))
def p_L_areSticks_j90 (V : Nat → Nat) (g f : GH) (K36 : Nat → Int32 → Int32 → Int32 → Int32 → Int32 → Int32 → Int32 → Option Int32) (K171 : Option Int32) (x0 : Nat) (x1 : Int32) (x2 : Int32) (x3 : Int32) (x4 : Int32) (x5 : Int32) (x6 : Int32) (x7 : Int32) (x8 : Int32) (t0 : Int32) : Option Int32 :=
  (h_nt (p_X7_stickLength V g f x0 x1 x3 x7)).bind fun v7 =>
  (if x8 = (x7 <<< (x3 &&& 31)) then
    (if x2 ≤ x8 then
      K171
    else
      (h_nt (p_X7_pointDistance V g f x0 x1 x8 t0)).bind fun v10 =>
      (if v7 = v10 then
        (h_nt (p_X7_stickLength V g f x0 x1 x3 x6)).bind fun v12 =>
        (if v12 < v7 then
          K171
        else
          (if x6 ≤ x7 then
            K36 x0 x1 x2 x3 x4 (x5 + v7) x6 (x7 + (1 : Int32))
          else
            (h_nt (p_X7_stickLength V g f x0 x1 x3 x6)).bind fun v15 =>
            (if v7 = v15 then
              K171
            else
              K36 x0 x1 x2 x3 x4 (x5 + v7) x6 (x7 + (1 : Int32)))))
      else
        K171))
  else
    K171)
def p_L_areSticks_l36 (V : Nat → Nat) (g f : GH) (K171 : Option Int32) (K179 : Nat → Int32 → Int32 → Int32 → Int32 → Int32 → Option Int32) : Nat → Nat → Int32 → Int32 → Int32 → Int32 → Int32 → Int32 → Int32 → Option Int32
  | 0, _, _, _, _, _, _, _, _ => none
  | N + 1, x0, x1, x2, x3, x4, x5, x6, x7 =>
    (if x4 ≤ x7 then
      K179 x0 x1 x2 x3 x4 x5
    else
      (h_nt (p_X7_stickStart V g f x0 x1 x3 x7)).bind fun v6 =>
      (if x4 ≤ (x7 + (1 : Int32)) then
        (h_nt (p_X7_isIsland V g f x0 x1)).bind fun v18 =>
        (if v18 = (0 : Int32) then
          p_L_areSticks_j90 V g f (p_L_areSticks_l36 V g f K171 K179 N) K171 x0 x1 x2 x3 x4 x5 x6 x7 v6 (x2 - (1 : Int32))
        else
          p_L_areSticks_j90 V g f (p_L_areSticks_l36 V g f K171 K179 N) K171 x0 x1 x2 x3 x4 x5 x6 x7 v6 (0 : Int32))
      else
        (h_nt (p_X7_stickStart V g f x0 x1 x3 (x7 + (1 : Int32)))).bind fun v20 =>
        p_L_areSticks_j90 V g f (p_L_areSticks_l36 V g f K171 K179 N) K171 x0 x1 x2 x3 x4 x5 x6 x7 v6 v20))
def p_L_areSticks_j300 (V : Nat → Nat) (g f : GH) (K8 : Nat → Int32 → Int32 → Int32 → Option Int32) (K314 : Option Int32) (x0 : Nat) (x1 : Int32) (x2 : Int32) (x3 : Int32) (x5 : Int32) (t0 : Int32) (t1 : Int32) : Option Int32 :=
  (if t1 = t0 then
    K8 x0 x1 x2 (x3 + (1 : Int32))
  else
    (h_nt (p_X7_lengthInOtherMetric V g f x0 x1 x3)).bind fun v29 =>
    (if v29 = x5 then
      K8 x0 x1 x2 (x3 + (1 : Int32))
    else
      K314))
def p_L_areSticks_j269 (V : Nat → Nat) (g f : GH) (K8 : Nat → Int32 → Int32 → Int32 → Option Int32) (K314 : Option Int32) (x0 : Nat) (x1 : Int32) (x2 : Int32) (x3 : Int32) (x5 : Int32) : Option Int32 :=
  (h_nt (p_X7_coarsestLevelFor V g f x0 x1 x5)).bind fun v24 =>
  (if v24 < x3 then
    K314
  else
    (p_X7_usesKingMetric V g f x0).bind fun v26 =>
    (h_nt (p_X7_lengthInOtherMetric V g f x0 x1 x3)).bind fun v27 =>
    (if v27 < x5 then
      p_L_areSticks_j300 V g f K8 K314 x0 x1 x2 x3 x5 (0 : Int32) v26
    else
      p_L_areSticks_j300 V g f K8 K314 x0 x1 x2 x3 x5 (1 : Int32) v26))
def p_L_areSticks_j213 (V : Nat → Nat) (g f : GH) (K8 : Nat → Int32 → Int32 → Int32 → Option Int32) (K267 : Option Int32) (K314 : Option Int32) (x0 : Nat) (x1 : Int32) (x2 : Int32) (x3 : Int32) (x5 : Int32) : Option Int32 :=
  (if (7 : Int32) ≤ x3 then
    p_L_areSticks_j269 V g f K8 K314 x0 x1 x2 x3 x5
  else
    (h_nt (p_X7_lengthGain V g f x0 x1 x3)).bind fun v33 =>
    (if v33 < (0 : Int32) then
      K267
    else
      (h_nt (p_X7_lengthGain V g f x0 x1 x3)).bind fun v35 =>
      (h_nt (p_X7_lengthAt V g f x0 x1 (x3 + (1 : Int32)))).bind fun v36 =>
      (if v35 = (x5 - v36) then
        (h_nt (p_X7_lengthGain V g f x0 x1 x3)).bind fun v38 =>
        (h_nt (p_X7_levelOfGreatestGain V g f x0 x1)).bind fun v39 =>
        (h_nt (p_X7_lengthGain V g f x0 x1 v39)).bind fun v40 =>
        (if v38 ≤ v40 then
          p_L_areSticks_j269 V g f K8 K314 x0 x1 x2 x3 x5
        else
          K267)
      else
        K267)))
def p_L_areSticks_l8 (V : Nat → Nat) (g f : GH) (K171 : Option Int32) (K267 : Option Int32) (K314 : Option Int32) (K322 : Nat → Int32 → Option Int32) : Nat → Nat → Int32 → Int32 → Int32 → Option Int32
  | 0, _, _, _, _ => none
  | N + 1, x0, x1, x2, x3 =>
    (if (8 : Int32) ≤ x3 then
      K322 x0 x1
    else
      (h_nt (p_X7_stickCount V g f x0 x1 x3)).bind fun v3 =>
      (h_nt (p_X7_longestStick V g f x0 x1 x3)).bind fun v4 =>
      p_L_areSticks_l36 V g f K171 (fun x0 x1 x2 x3 x4 x5 =>
        (h_nt (p_X7_lengthAt V g f x0 x1 x3)).bind fun v21 =>
        (if x5 = v21 then
          (if x4 < (1 : Int32) then
            K267
          else
            (if x3 ≤ (0 : Int32) then
              p_L_areSticks_j213 V g f (p_L_areSticks_l8 V g f K171 K267 K314 K322 N) K267 K314 x0 x1 x2 x3 x5
            else
              (h_nt (p_X7_stickCount V g f x0 x1 (x3 - (1 : Int32)))).bind fun v43 =>
              (if v43 < x4 then
                K267
              else
                p_L_areSticks_j213 V g f (p_L_areSticks_l8 V g f K171 K267 K314 K322 N) K267 K314 x0 x1 x2 x3 x5)))
        else
          K267)) FU x0 x1 x2 x3 v3 (0 : Int32) v4 (0 : Int32))
def p_L_areSticks_j366 (V : Nat → Nat) (g f : GH) (x0 : Nat) (x1 : Int32) : Option Int32 :=
  (h_nt (p_X7_coarsestLevelFor V g f x0 x1 (0 : Int32))).bind fun v49 =>
  (if v49 = (7 : Int32) then
    (h_nt (p_X7_lengthAt V g f x0 x1 (0 : Int32))).bind fun v51 =>
    (h_nt (p_X7_coarsestLevelFor V g f x0 x1 (v51 + (1 : Int32)))).bind fun v52 =>
    (if v52 = (-1 : Int32) then
      some (1 : Int32)
    else
      some (0 : Int32))
  else
    some (0 : Int32))
def p_L_areSticks (V : Nat → Nat) (g f : GH) (a0 : Nat) (a1 : Int32) : Option Int32 :=
  (h_nt (p_X7_pointCount V g f a0 a1)).bind fun v1 =>
  p_L_areSticks_l8 V g f (some (0 : Int32)) (some (0 : Int32)) (some (0 : Int32)) (fun x0 x1 =>
    (h_nt (p_X7_coarsestExactLevel V g f x0 x1)).bind fun v45 =>
    (h_nt (p_X7_lengthAt V g f x0 x1 v45)).bind fun v46 =>
    (h_nt (p_X7_lengthAt V g f x0 x1 (0 : Int32))).bind fun v47 =>
    (if v46 = v47 then
      (if v45 = (7 : Int32) then
        p_L_areSticks_j366 V g f x0 x1
      else
        (h_nt (p_X7_lengthAt V g f x0 x1 (v45 + (1 : Int32)))).bind fun v55 =>
        (h_nt (p_X7_lengthAt V g f x0 x1 (0 : Int32))).bind fun v56 =>
        (if v56 ≤ v55 then
          some (0 : Int32)
        else
          p_L_areSticks_j366 V g f x0 x1))
    else
      some (0 : Int32))) FU a0 a1 v1 (0 : Int32)

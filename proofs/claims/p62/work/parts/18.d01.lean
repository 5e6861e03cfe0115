def p_L_areMaps_j100 (V : Nat → Nat) (g f : GH) (K55 : Nat → Int32 → Int32 → Int32 → Int32 → Int32 → Int32 → Int32 → Int32 → Option Int32) (K165 : Option Int32) (x0 : Nat) (x1 : Int32) (x2 : Int32) (x3 : Int32) (x4 : Int32) (x5 : Int32) (x7 : Int32) (x8 : Int32) (x9 : Int32) (t0 : Int32) (t1 : Int32) : Option Int32 :=
  (if x9 = (0 : Int32) then
    K55 x0 x1 x2 x3 x4 x5 (t1 + t0) x7 (x8 + (1 : Int32))
  else
    (if x8 = x4 then
      K165
    else
      (if x7 < (0 : Int32) then
        K165
      else
        (h_nt (p_X7_doubledArea V g f x0 x7)).bind fun v11 =>
        (h_nt (p_X7_doubledArea V g f x0 x8)).bind fun v12 =>
        (if v12 < v11 then
          K165
        else
          (h_nt (p_X7_boxWidth V g f x0 x8)).bind fun v14 =>
          (h_nt (p_X7_boxWidth V g f x0 x4)).bind fun v15 =>
          (if v14 < v15 then
            K165
          else
            (h_nt (p_X7_boxHeight V g f x0 x8)).bind fun v17 =>
            (h_nt (p_X7_boxHeight V g f x0 x4)).bind fun v18 =>
            (if v18 ≤ v17 then
              K55 x0 x1 x2 x3 x4 x5 (t1 + t0) x7 (x8 + (1 : Int32))
            else
              K165))))))
def p_L_areMaps_j86 (V : Nat → Nat) (g f : GH) (K55 : Nat → Int32 → Int32 → Int32 → Int32 → Int32 → Int32 → Int32 → Int32 → Option Int32) (K165 : Option Int32) (x0 : Nat) (x1 : Int32) (x2 : Int32) (x3 : Int32) (x4 : Int32) (x5 : Int32) (x6 : Int32) (x7 : Int32) (x8 : Int32) (t0 : Int32) : Option Int32 :=
  (if t0 = (0 : Int32) then
    p_L_areMaps_j100 V g f K55 K165 x0 x1 x2 x3 x4 x5 x7 x8 t0 (0 : Int32) x6
  else
    p_L_areMaps_j100 V g f K55 K165 x0 x1 x2 x3 x4 x5 x7 x8 t0 (1 : Int32) x6)
def p_L_areMaps_j85 (V : Nat → Nat) (g f : GH) (K86 : Nat → Int32 → Int32 → Int32 → Int32 → Int32 → Int32 → Int32 → Int32 → Int32 → Option Int32) (x0 : Nat) (x1 : Int32) (x2 : Int32) (x3 : Int32) (x4 : Int32) (x5 : Int32) (x6 : Int32) (x7 : Int32) (x8 : Int32) : Option Int32 :=
  K86 x0 x1 x2 x3 x4 x5 x6 x7 x8 (0 : Int32)
def p_L_areMaps_l55 (V : Nat → Nat) (g f : GH) (K165 : Option Int32) (K173 : Nat → Int32 → Int32 → Int32 → Int32 → Int32 → Int32 → Int32 → Option Int32) : Nat → Nat → Int32 → Int32 → Int32 → Int32 → Int32 → Int32 → Int32 → Int32 → Option Int32
  | 0, _, _, _, _, _, _, _, _, _ => none
  | N + 1, x0, x1, x2, x3, x4, x5, x6, x7, x8 =>
    (if x1 ≤ x8 then
      K173 x0 x1 x2 x3 x4 x5 x6 x7
    else
      (h_nt (p_X7_isIsland V g f x0 x8)).bind fun v7 =>
      (if v7 = (0 : Int32) then
        p_L_areMaps_j85 V g f (p_L_areMaps_j86 V g f (p_L_areMaps_l55 V g f K165 K173 N) K165) x0 x1 x2 x3 x4 x5 x6 x7 x8
      else
        (h_nt (p_X7_encloses V g f x0 x8 x4)).bind fun v22 =>
        (if v22 = (0 : Int32) then
          p_L_areMaps_j85 V g f (p_L_areMaps_j86 V g f (p_L_areMaps_l55 V g f K165 K173 N) K165) x0 x1 x2 x3 x4 x5 x6 x7 x8
        else
          p_L_areMaps_j86 V g f (p_L_areMaps_l55 V g f K165 K173 N) K165 x0 x1 x2 x3 x4 x5 x6 x7 x8 (1 : Int32))))
def p_L_areMaps_j417 (V : Nat → Nat) (g f : GH) (K267 : Nat → Int32 → Int32 → Int32 → Int32 → Int32 → Int32 → Int32 → Option Int32) (x0 : Nat) (x1 : Int32) (x2 : Int32) (x3 : Int32) (x4 : Int32) (x5 : Int32) (x8 : Int32) (x9 : Int32) : Option Int32 :=
  K267 x0 x1 x2 x3 x4 x5 x8 (x9 + ((1 : Int32) + (x5 / (6 : Int32))))
def p_L_areMaps_j381 (V : Nat → Nat) (g f : GH) (K267 : Nat → Int32 → Int32 → Int32 → Int32 → Int32 → Int32 → Int32 → Option Int32) (K415 : Option Int32) (x0 : Nat) (x1 : Int32) (x2 : Int32) (x3 : Int32) (x4 : Int32) (x5 : Int32) (x8 : Int32) (x9 : Int32) : Option Int32 :=
  (h_nt (p_X7_isIsland V g f x0 x4)).bind fun v46 =>
  (if v46 = (0 : Int32) then
    p_L_areMaps_j417 V g f K267 x0 x1 x2 x3 x4 x5 x8 x9
  else
    (h_nt (p_X7_pointX V g f x0 x4 x9)).bind fun v48 =>
    (h_nt (p_X7_pointY V g f x0 x4 x9)).bind fun v49 =>
    (h_nt (p_X7_contains V g f x0 x4 v48 v49)).bind fun v50 =>
    (if v50 = (0 : Int32) then
      K415
    else
      p_L_areMaps_j417 V g f K267 x0 x1 x2 x3 x4 x5 x8 x9))
def p_L_areMaps_j360 (V : Nat → Nat) (g f : GH) (K267 : Nat → Int32 → Int32 → Int32 → Int32 → Int32 → Int32 → Int32 → Option Int32) (K415 : Option Int32) (x0 : Nat) (x1 : Int32) (x2 : Int32) (x3 : Int32) (x4 : Int32) (x5 : Int32) (x8 : Int32) (x9 : Int32) (x11 : Int32) (t0 : Int32) (t1 : Int32) : Option Int32 :=
  (if t1 = t0 then
    (if x8 < (0 : Int32) then
      p_L_areMaps_j381 V g f K267 K415 x0 x1 x2 x3 x4 x5 x8 x9
    else
      (h_nt (p_X7_lengthWithoutPoint V g f x0 x4 x8)).bind fun v53 =>
      (if v53 < x11 then
        K415
      else
        p_L_areMaps_j381 V g f K267 K415 x0 x1 x2 x3 x4 x5 x8 x9))
  else
    K415)
def p_L_areMaps_j350 (V : Nat → Nat) (g f : GH) (K267 : Nat → Int32 → Int32 → Int32 → Int32 → Int32 → Int32 → Int32 → Option Int32) (K415 : Option Int32) (x0 : Nat) (x1 : Int32) (x2 : Int32) (x3 : Int32) (x4 : Int32) (x5 : Int32) (x8 : Int32) (x9 : Int32) (x11 : Int32) (t0 : Int32) : Option Int32 :=
  (if (0 : Int32) ≤ x8 then
    p_L_areMaps_j360 V g f K267 K415 x0 x1 x2 x3 x4 x5 x8 x9 x11 (0 : Int32) t0
  else
    p_L_areMaps_j360 V g f K267 K415 x0 x1 x2 x3 x4 x5 x8 x9 x11 (1 : Int32) t0)
def p_L_areMaps_l267 (V : Nat → Nat) (g f : GH) (K415 : Option Int32) (K432 : Nat → Int32 → Int32 → Int32 → Int32 → Option Int32) : Nat → Nat → Int32 → Int32 → Int32 → Int32 → Int32 → Int32 → Int32 → Option Int32
  | 0, _, _, _, _, _, _, _, _ => none
  | N + 1, x0, x1, x2, x3, x4, x5, x8, x9 =>
    (if x5 ≤ x9 then
      K432 x0 x1 x2 x3 x4
    else
      (h_nt (p_X7_pointX V g f x0 x4 x9)).bind fun v36 =>
      (h_nt (p_X7_pointY V g f x0 x4 x9)).bind fun v37 =>
      (h_nt (p_X7_nearestPoint V g f x0 x4 v36 v37)).bind fun v38 =>
      (h_nt (p_X7_lengthWithoutPoint V g f x0 x4 x9)).bind fun v39 =>
      (if x9 < v38 then
        K415
      else
        (h_nt (p_X7_pointDistance V g f x0 x4 v38 x9)).bind fun v41 =>
        (if v41 = (0 : Int32) then
          (h_nt (p_X7_lengthAt V g f x0 x4 (0 : Int32))).bind fun v43 =>
          (if v43 < v39 then
            K415
          else
            (if (0 : Int32) ≤ v39 then
              p_L_areMaps_j350 V g f (p_L_areMaps_l267 V g f K415 K432 N) K415 x0 x1 x2 x3 x4 x5 x8 x9 v39 (0 : Int32)
            else
              p_L_areMaps_j350 V g f (p_L_areMaps_l267 V g f K415 K432 N) K415 x0 x1 x2 x3 x4 x5 x8 x9 v39 (1 : Int32)))
        else
          K415)))
def p_L_areMaps_j243 (V : Nat → Nat) (g f : GH) (K12 : Nat → Int32 → Int32 → Int32 → Int32 → Option Int32) (K254 : Option Int32) (K415 : Option Int32) (x0 : Nat) (x1 : Int32) (x2 : Int32) (x3 : Int32) (x4 : Int32) (x5 : Int32) (t0 : Int32) (t1 : Int32) : Option Int32 :=
  (if t1 < t0 then
    K254
  else
    (if x5 ≤ (129 : Int32) then
      (h_nt (p_X7_leastImportantPoint V g f x0 x4)).bind fun v34 =>
      p_L_areMaps_l267 V g f K415 (fun x0 x1 x2 x3 x4 =>
        K12 x0 x1 x2 x3 (x4 + (1 : Int32))) FU x0 x1 x2 x3 x4 x5 v34 (0 : Int32)
    else
      K254))
def p_L_areMaps_j204 (V : Nat → Nat) (g f : GH) (K12 : Nat → Int32 → Int32 → Int32 → Int32 → Option Int32) (K254 : Option Int32) (K415 : Option Int32) (x0 : Nat) (x1 : Int32) (x2 : Int32) (x3 : Int32) (x4 : Int32) (x5 : Int32) (t0 : Int32) (t1 : Int32) : Option Int32 :=
  (if t1 = t0 then
    (h_nt (p_X7_lengthAt V g f x0 x4 (0 : Int32))).bind fun v27 =>
    (h_nt (p_X7_longestCoast V g f x0 (0 : Int32))).bind fun v28 =>
    (h_nt (p_X7_lengthAt V g f x0 v28 (0 : Int32))).bind fun v29 =>
    (if v29 < v27 then
      K254
    else
      (h_nt (p_X7_isIsland V g f x0 x4)).bind fun v31 =>
      (if v31 = (0 : Int32) then
        p_L_areMaps_j243 V g f K12 K254 K415 x0 x1 x2 x3 x4 x5 (2 : Int32) x5
      else
        p_L_areMaps_j243 V g f K12 K254 K415 x0 x1 x2 x3 x4 x5 (3 : Int32) x5))
  else
    K254)
def p_L_areMaps_j194 (V : Nat → Nat) (g f : GH) (K12 : Nat → Int32 → Int32 → Int32 → Int32 → Option Int32) (K254 : Option Int32) (K415 : Option Int32) (x0 : Nat) (x1 : Int32) (x2 : Int32) (x3 : Int32) (x4 : Int32) (x5 : Int32) (x6 : Int32) (t0 : Int32) : Option Int32 :=
  (if x6 ≤ (0 : Int32) then
    p_L_areMaps_j204 V g f K12 K254 K415 x0 x1 x2 x3 x4 x5 (0 : Int32) t0
  else
    p_L_areMaps_j204 V g f K12 K254 K415 x0 x1 x2 x3 x4 x5 (1 : Int32) t0)
def p_L_areMaps_l12 (V : Nat → Nat) (g f : GH) (K165 : Option Int32) (K254 : Option Int32) (K415 : Option Int32) (K438 : Nat → Int32 → Int32 → Option Int32) : Nat → Nat → Int32 → Int32 → Int32 → Int32 → Option Int32
  | 0, _, _, _, _, _ => none
  | N + 1, x0, x1, x2, x3, x4 =>
    (if x1 ≤ x4 then
      K438 x0 x2 x3
    else
      (h_nt (p_X7_pointCount V g f x0 x4)).bind fun v3 =>
      (h_nt (p_X7_lengthAt V g f x0 x4 (0 : Int32))).bind fun v4 =>
      (h_nt (p_X7_innermostIslandAround V g f x0 x4)).bind fun v5 =>
      p_L_areMaps_l55 V g f K165 (fun x0 x1 x2 x3 x4 x5 x6 x7 =>
        (h_nt (p_X7_ringDepth V g f x0 x4)).bind fun v24 =>
        (if x6 = v24 then
          (if x7 < (0 : Int32) then
            p_L_areMaps_j194 V g f (p_L_areMaps_l12 V g f K165 K254 K415 K438 N) K254 K415 x0 x1 x2 x3 x4 x5 x6 (0 : Int32)
          else
            p_L_areMaps_j194 V g f (p_L_areMaps_l12 V g f K165 K254 K415 K438 N) K254 K415 x0 x1 x2 x3 x4 x5 x6 (1 : Int32))
        else
          K254)) FU x0 x1 (x2 + v3) (x3 + v4) x4 v3 (0 : Int32) v5 (0 : Int32))
def p_L_areMaps (V : Nat → Nat) (g f : GH) (a0 : Nat) : Option Int32 :=
  (p_X7_coastCount V g f a0).bind fun v1 =>
  p_L_areMaps_l12 V g f (some (0 : Int32)) (some (0 : Int32)) (some (0 : Int32)) (fun x0 x2 x3 =>
    (h_nt (p_X7_totalLength V g f x0 (0 : Int32))).bind fun v60 =>
    (if x3 = v60 then
      (p_X7_loadedPoints V g f x0).bind fun v62 =>
      (p_X7_addedPoints V g f x0).bind fun v63 =>
      (p_X7_removedPoints V g f x0).bind fun v64 =>
      (if x2 = ((v62 + v63) - v64) then
        (p_X7_ledgerGap V g f x0).bind fun v66 =>
        (if v66 = (0 : Int32) then
          some (1 : Int32)
        else
          some (0 : Int32))
      else
        some (0 : Int32))
    else
      some (0 : Int32))) FU a0 v1 (0 : Int32) (0 : Int32) (0 : Int32)
def p_L_at_l5 (V : Nat → Nat) (g f : GH) (K29 : Int32 → Int32 → Option Int32) : Nat → Nat → Int32 → Int32 → Int32 → Int32 → Option Int32
  | 0, _, _, _, _, _ => none
  | N + 1, x0, x1, x2, x3, x4 =>
    (if x1 ≤ x4 then
      K29 x2 x3
    else
      (h_li f x0 0 (x3 + (1 : Int32))).bind fun v2 =>
      p_L_at_l5 V g f K29 N x0 x1 x2 (x3 + ((2 : Int32) + ((2 : Int32) * v2))) (x4 + (1 : Int32)))
def p_L_at (V : Nat → Nat) (g f : GH) (a0 : Nat) (a1 : Int32) (a2 : Int32) : Option Int32 :=
  p_L_at_l5 V g f (fun x2 x3 =>
    some ((x3 + (2 : Int32)) + ((2 : Int32) * x2))) FU a0 a1 a2 (5 : Int32) (0 : Int32)
def p_L_isFold_l209 (V : Nat → Nat) (g : GH) (K260 : GH → Nat → Option (Int32 × GH × Nat)) (K268 : Nat → Nat → GH → Nat → Option (Int32 × GH × Nat)) : Nat → Nat → Int32 → Int32 → Nat → Int32 → GH → Nat → Option (Int32 × GH × Nat)
  | 0, _, _, _, _, _, _, _ => none
  | N + 1, x0, x1, x5, x7, x10, f, n =>
    (if x5 ≤ x10 then
      K268 x0 x7 f n
    else
      (h_nt (p_X7_pointX V g f x0 x1 x10)).bind fun v25 =>
      (p_L_at V g f x7 x1 x10).bind fun v26 =>
      (h_li f x7 0 v26).bind fun v27 =>
      (if v25 = v27 then
        (h_nt (p_X7_pointY V g f x0 x1 x10)).bind fun v29 =>
        (p_L_at V g f x7 x1 x10).bind fun v30 =>
        (h_li f x7 0 (v30 + (1 : Int32))).bind fun v31 =>
        (if v29 = v31 then
          p_L_isFold_l209 V g K260 K268 N x0 x1 x5 x7 (x10 + (1 : Int32)) f n
        else
          K260 f n)
      else
        K260 f n))
def p_L_isFold_j72 (V : Nat → Nat) (g : GH) (x0 : Nat) (x1 : Int32) (x3 : Int32) (x4 : Int32) (x5 : Int32) (x6 : Int32) (t0 : Int32) (t1 : Int32) (f : GH) (n : Nat) : Option (Int32 × GH × Nat) :=
  (if t1 = t0 then
    (if x5 ≤ (24 : Int32) then
      (if x4 ≤ (0 : Int32) then
        (p_L_all V g f n x0).bind fun v8 =>
        (h_nt (p_X7_lengthAt V g v8.2.1 x0 x1 (0 : Int32))).bind fun v9 =>
        (h_nt (p_X7_lengthAfterFold V g v8.2.1 x0 x1 x3 (0 : Int32))).bind fun v10 =>
        (h_nt (p_X7_lengthAfterFold V g v10.2 x0 x1 x3 (1 : Int32))).bind fun v11 =>
        (if v11.1 = v9 then
          (if v10.1 < v9 then
            some ((0 : Int32), v11.2, v8.2.2)
          else
            (h_nt (p_X7_fold V g v11.2 x0 x1 x3)).bind fun v14 =>
            (if v14.1 = x6 then
              (h_nt (p_X7_lengthAt V g v14.2 x0 x1 (0 : Int32))).bind fun v16 =>
              (if v16 = v10.1 then
                (h_nt (p_X7_lengthAt V g v14.2 x0 x1 (1 : Int32))).bind fun v18 =>
                (if v18 = v9 then
                  (h_nt (p_X7_unfold V g v14.2 x0 x1)).bind fun v20 =>
                  (if v20.1 = x5 then
                    (h_nt (p_X7_lengthAt V g v20.2 x0 x1 (0 : Int32))).bind fun v22 =>
                    (if v22 = v9 then
                      p_L_isFold_l209 V g (fun f n =>
                        some ((0 : Int32), f, n)) (fun x0 x7 f n =>
                        (h_nt (p_X7_undo V g f x0)).bind fun v33 =>
                        (if v33.1 < (0 : Int32) then
                          some ((0 : Int32), v33.2, n)
                        else
                          (h_nt (p_X7_undo V g v33.2 x0)).bind fun v35 =>
                          (if v35.1 < (0 : Int32) then
                            some ((0 : Int32), v35.2, n)
                          else
                            (p_L_all V g v35.2 n x0).bind fun v37 =>
                            (p_L_alike V g v37.2.1 v37.1 x7).bind fun v38 =>
                            (if v38 = (0 : Int32) then
                              some ((0 : Int32), v37.2.1, v37.2.2)
                            else
                              some ((1 : Int32), v37.2.1, v37.2.2))))) FU x0 x1 x5 v8.1 (0 : Int32) v20.2 v8.2.2
                    else
                      some ((0 : Int32), v20.2, v8.2.2))
                  else
                    some ((0 : Int32), v20.2, v8.2.2))
                else
                  some ((0 : Int32), v14.2, v8.2.2))
              else
                some ((0 : Int32), v14.2, v8.2.2))
            else
              some ((0 : Int32), v14.2, v8.2.2)))
        else
          some ((0 : Int32), v11.2, v8.2.2))
      else
        (h_nt (p_X7_lengthAfterFold V g f x0 x1 x3 (0 : Int32))).bind fun v40 =>
        (if v40.1 = (-1 : Int32) then
          some ((1 : Int32), v40.2, n)
        else
          some ((0 : Int32), v40.2, n)))
    else
      some ((1 : Int32), f, n))
  else
    some ((0 : Int32), f, n))
def p_L_isFold_j59 (V : Nat → Nat) (g : GH) (x0 : Nat) (x1 : Int32) (x3 : Int32) (x4 : Int32) (x5 : Int32) (x6 : Int32) (t0 : Int32) (f : GH) (n : Nat) : Option (Int32 × GH × Nat) :=
  (if x6 ≤ (129 : Int32) then
    p_L_isFold_j72 V g x0 x1 x3 x4 x5 x6 (0 : Int32) t0 f n
  else
    p_L_isFold_j72 V g x0 x1 x3 x4 x5 x6 (1 : Int32) t0 f n)
def p_L_isFold_j46 (V : Nat → Nat) (g : GH) (x0 : Nat) (x1 : Int32) (x3 : Int32) (x4 : Int32) (x5 : Int32) (t0 : Int32) (f : GH) (n : Nat) : Option (Int32 × GH × Nat) :=
  (if x4 = (1 : Int32) then
    p_L_isFold_j59 V g x0 x1 x3 x4 x5 t0 (1 : Int32) f n
  else
    p_L_isFold_j59 V g x0 x1 x3 x4 x5 t0 (0 : Int32) f n)
def p_L_isFold (V : Nat → Nat) (g f : GH) (n : Nat) (a0 : Nat) (a1 : Int32) (a2 : Int32) : Option (Int32 × GH × Nat) :=
  (p_L_most V g f a2 (101 : Int32)).bind fun v1 =>
  (h_nt (p_X7_foldObstacle V g f a0 a1 (v1 - (50 : Int32)))).bind fun v2 =>
  (h_nt (p_X7_pointCount V g f a0 a1)).bind fun v3 =>
  (h_nt (p_X7_isIsland V g f a0 a1)).bind fun v4 =>
  (if v4 = (0 : Int32) then
    p_L_isFold_j46 V g a0 a1 (v1 - (50 : Int32)) v2 v3 (((2 : Int32) * v3) - (1 : Int32)) f n
  else
    p_L_isFold_j46 V g a0 a1 (v1 - (50 : Int32)) v2 v3 ((2 : Int32) * v3) f n)
def p_L_act_j88 (V : Nat → Nat) (g : GH) (x0 : Nat) (x1 : Nat) (x4 : Int32) (x5 : Int32) (x7 : Int32) (t0 : Nat) (t1 : Nat) (f : GH) (n : Nat) : Option (Int32 × GH × Nat) :=
  (p_J4_append_15ec4 V g f n t1 t0).bind fun v6 =>
  (p_L_most V g v6.2.1 x4 (90 : Int32)).bind fun v7 =>
  (p_J4_append_bf812 V g v6.2.1 v6.2.2 v6.1 v7).bind fun v8 =>
  (p_J4_append_15ec4 V g v8.2.1 v8.2.2 v8.1 (V 52)).bind fun v9 =>
  (p_L_most V g v9.2.1 (x4 >>> ((1 : Int32) &&& 31)) (90 : Int32)).bind fun v10 =>
  (p_J4_append_bf812 V g v9.2.1 v9.2.2 v9.1 v10).bind fun v11 =>
  (p_J4_append_15ec4 V g v11.2.1 v11.2.2 v11.1 (V 53)).bind fun v12 =>
  (p_L_most V g v12.2.1 (x4 >>> ((2 : Int32) &&& 31)) (90 : Int32)).bind fun v13 =>
  (p_J4_append_bf812 V g v12.2.1 v12.2.2 v12.1 v13).bind fun v14 =>
  (p_J4_append_15ec4 V g v14.2.1 v14.2.2 v14.1 (V 52)).bind fun v15 =>
  (p_L_most V g v15.2.1 (x4 >>> ((3 : Int32) &&& 31)) (90 : Int32)).bind fun v16 =>
  (p_J4_append_bf812 V g v15.2.1 v15.2.2 v15.1 v16).bind fun v17 =>
  (p_J4_append_15ec4 V g v17.2.1 v17.2.2 v17.1 (V 53)).bind fun v18 =>
  (p_L_most V g v18.2.1 (x4 >>> ((4 : Int32) &&& 31)) (90 : Int32)).bind fun v19 =>
  (p_J4_append_bf812 V g v18.2.1 v18.2.2 v18.1 v19).bind fun v20 =>
  (p_J4_append_15ec4 V g v20.2.1 v20.2.2 v20.1 (V 54)).bind fun v21 =>
  (p_L_most V g v21.2.1 (x4 >>> ((5 : Int32) &&& 31)) (90 : Int32)).bind fun v22 =>
  (p_J4_append_bf812 V g v21.2.1 v21.2.2 v21.1 v22).bind fun v23 =>
  (p_J4_toString_0e30d V g v23.2.1 v23.2.2 v23.1).bind fun v24 =>
  (p_X7_addedPoints V g v24.2.1 x0).bind fun v25 =>
  (p_L_say V g v24.2.1 x0 x1 v24.1).bind fun v26 =>
  (p_L_end V g v26 x0 x1).bind fun v27 =>
  (h_nt (p_X7_addCoast V g v27.2 x0 v27.1)).bind fun v28 =>
  (if v28.1 = x5 then
    (h_nt (p_X7_pointCount V g v28.2 x0 x5)).bind fun v30 =>
    (if v30 = (3 : Int32) then
      (h_nt (p_X7_isIsland V g v28.2 x0 x5)).bind fun v32 =>
      (if v32 = x7 then
        (p_X7_addedPoints V g v28.2 x0).bind fun v34 =>
        (if v34 = (v25 + (3 : Int32)) then
          (p_X7_errorCode V g v28.2 x0).bind fun v36 =>
          (if v36 = (0 : Int32) then
            some ((1 : Int32), v28.2, v24.2.2)
          else
            some ((0 : Int32), v28.2, v24.2.2))
        else
          some ((0 : Int32), v28.2, v24.2.2))
      else
        some ((0 : Int32), v28.2, v24.2.2))
    else
      some ((0 : Int32), v28.2, v24.2.2))
  else
    some ((0 : Int32), v28.2, v24.2.2))
def p_L_act_j67 (V : Nat → Nat) (g : GH) (x0 : Nat) (x1 : Nat) (x4 : Int32) (x5 : Int32) (t0 : Int32) (f : GH) (n : Nat) : Option (Int32 × GH × Nat) :=
  (some (h_up f n (.inr (1, [.null, .int 0, .int 0, .int 0])))).bind fun f4 =>
  (p_J4_init_da8c8 V g f4 (n + 1) n).bind fun v5 =>
  (if t0 = (0 : Int32) then
    p_L_act_j88 V g x0 x1 x4 x5 t0 (V 51) n v5.1 v5.2
  else
    p_L_act_j88 V g x0 x1 x4 x5 t0 (V 50) n v5.1 v5.2)
def p_L_act_j53 (V : Nat → Nat) (g : GH) (x0 : Nat) (x1 : Nat) (x4 : Int32) (x5 : Int32) (f : GH) (n : Nat) : Option (Int32 × GH × Nat) :=
  (p_L_most V g f x4 (2 : Int32)).bind fun v3 =>
  (if v3 = (0 : Int32) then
    p_L_act_j67 V g x0 x1 x4 x5 (1 : Int32) f n
  else
    p_L_act_j67 V g x0 x1 x4 x5 (0 : Int32) f n)
def p_L_act_j1120 (V : Nat → Nat) (g : GH) (x0 : Nat) (x6 : Int32) (x11 : Int32) (x12 : Int32) (t0 : Int32) (t1 : Nat) (f : GH) (n : Nat) : Option (Int32 × GH × Nat) :=
  (h_nt (p_X7_setKingMetric V g f t1 t0)).bind fun v53 =>
  (if v53.1 = x11 then
    (p_X7_usesKingMetric V g v53.2 x0).bind fun v55 =>
    (if v55 = x11 then
      some ((0 : Int32), v53.2, n)
    else
      (h_nt (p_X7_lengthAt V g v53.2 x0 x6 (2 : Int32))).bind fun v57 =>
      (if v57 = x12 then
        some ((1 : Int32), v53.2, n)
      else
        some ((0 : Int32), v53.2, n)))
  else
    some ((0 : Int32), v53.2, n))
def p_L_act_l827 (V : Nat → Nat) (g : GH) (K892 : Nat → Int32 → Int32 → Int32 → Int32 → Int32 → Int32 → GH → Nat → Option (Int32 × GH × Nat)) : Nat → Nat → Int32 → Int32 → Int32 → Int32 → Int32 → Int32 → Int32 → GH → Nat → Option (Int32 × GH × Nat)
  | 0, _, _, _, _, _, _, _, _, _, _ => none
  | N + 1, x0, x6, x7, x9, x11, x12, x13, x14, f, n =>
    (if x7 ≤ x14 then
      K892 x0 x6 x7 x9 x11 x12 x13 f n
    else
      (h_nt (p_X7_pointX V g f x0 x6 x14)).bind fun v77 =>
      (h_nt (p_X7_pointY V g f x0 x6 x14)).bind fun v78 =>
      (p_J9_min_7cf53 V g f v77 v78).bind fun v79 =>
      (p_J9_min_7cf53 V g f x12 v79).bind fun v80 =>
      (h_nt (p_X7_pointX V g f x0 x6 x14)).bind fun v81 =>
      (h_nt (p_X7_pointY V g f x0 x6 x14)).bind fun v82 =>
      (p_J9_max_7cf53 V g f v81 v82).bind fun v83 =>
      (p_J9_max_7cf53 V g f x13 v83).bind fun v84 =>
      p_L_act_l827 V g K892 N x0 x6 x7 x9 x11 v80 v84 (x14 + (1 : Int32)) f n)
def p_L_act_j718 (V : Nat → Nat) (g : GH) (x0 : Nat) (x3 : Int32) (x5 : Int32) (x6 : Int32) (x7 : Int32) (x8 : Int32) (x9 : Int32) (f : GH) (n : Nat) : Option (Int32 × GH × Nat) :=
  (if x3 = (12 : Int32) then
    (h_nt (p_X7_lengthWithoutPoint V g f x0 x6 x8)).bind fun v93 =>
    (if (0 : Int32) ≤ v93 then
      (h_nt (p_X7_removePoint V g f x0 x6 x8)).bind fun v95 =>
      (if v95.1 = (x7 - (1 : Int32)) then
        (h_nt (p_X7_lengthAt V g v95.2 x0 x6 (0 : Int32))).bind fun v97 =>
        (if v97 = v93 then
          some ((1 : Int32), v95.2, n)
        else
          some ((0 : Int32), v95.2, n))
      else
        some ((0 : Int32), v95.2, n))
    else
      (h_nt (p_X7_isIsland V g f x0 x6)).bind fun v99 =>
      (if v99 = (0 : Int32) then
        (if x7 = (2 : Int32) then
          some ((1 : Int32), f, n)
        else
          some ((0 : Int32), f, n))
      else
        (if x7 = (3 : Int32) then
          some ((1 : Int32), f, n)
        else
          some ((0 : Int32), f, n))))
  else
    (if x3 = (13 : Int32) then
      (h_nt (p_X7_lengthAt V g f x0 x6 (3 : Int32))).bind fun v75 =>
      p_L_act_l827 V g (fun x0 x6 x7 x9 x11 x12 x13 f n =>
        (p_J9_max_7cf53 V g f ((-1000 : Int32) - x12) (x13 - (1000 : Int32))).bind fun v85 =>
        (p_J9_min_7cf53 V g f ((1000 : Int32) - x13) ((1000 : Int32) + x12)).bind fun v86 =>
        (p_J9_min_7cf53 V g f v86 x9).bind fun v87 =>
        (p_J9_max_7cf53 V g f v85 v87).bind fun v88 =>
        (h_nt (p_X7_shift V g f x0 x6 v88 (-v88))).bind fun v89 =>
        (if v89.1 = x7 then
          (h_nt (p_X7_lengthAt V g v89.2 x0 x6 (3 : Int32))).bind fun v91 =>
          (if v91 = x11 then
            some ((1 : Int32), v89.2, n)
          else
            some ((0 : Int32), v89.2, n))
        else
          some ((0 : Int32), v89.2, n))) FU x0 x6 x7 x9 v75 (1000 : Int32) (-1000 : Int32) (0 : Int32) f n
    else
      (if x3 = (14 : Int32) then
        (h_nt (p_X7_lengthAt V g f x0 x6 (0 : Int32))).bind fun v67 =>
        (h_nt (p_X7_pointX V g f x0 x6 (0 : Int32))).bind fun v68 =>
        (h_nt (p_X7_reverse V g f x0 x6)).bind fun v69 =>
        (if v69.1 = x7 then
          (h_nt (p_X7_pointX V g v69.2 x0 x6 (x7 - (1 : Int32)))).bind fun v71 =>
          (if v71 = v68 then
            (h_nt (p_X7_lengthAt V g v69.2 x0 x6 (0 : Int32))).bind fun v73 =>
            (if v73 = v67 then
              some ((1 : Int32), v69.2, n)
            else
              some ((0 : Int32), v69.2, n))
          else
            some ((0 : Int32), v69.2, n))
        else
          some ((0 : Int32), v69.2, n))
      else
        (if x3 = (15 : Int32) then
          (p_X7_removedPoints V g f x0).bind fun v60 =>
          (h_nt (p_X7_removeCoast V g f x0 x6)).bind fun v61 =>
          (if v61.1 = x7 then
            (p_X7_coastCount V g v61.2 x0).bind fun v63 =>
            (if v63 = (x5 - (1 : Int32)) then
              (p_X7_removedPoints V g v61.2 x0).bind fun v65 =>
              (if v65 = (v60 + x7) then
                some ((1 : Int32), v61.2, n)
              else
                some ((0 : Int32), v61.2, n))
            else
              some ((0 : Int32), v61.2, n))
          else
            some ((0 : Int32), v61.2, n))
        else
          (p_X7_usesKingMetric V g f x0).bind fun v51 =>
          (h_nt (p_X7_lengthInOtherMetric V g f x0 x6 (2 : Int32))).bind fun v52 =>
          (if v51 = (0 : Int32) then
            p_L_act_j1120 V g x0 x6 v51 v52 (1 : Int32) x0 f n
          else
            p_L_act_j1120 V g x0 x6 v51 v52 (0 : Int32) x0 f n)))))
def p_L_act_j597 (V : Nat → Nat) (g : GH) (x0 : Nat) (x6 : Int32) (x8 : Int32) (x9 : Int32) (x10 : Int32) (t0 : Int32) (t1 : Int32) (f : GH) (n : Nat) : Option (Int32 × GH × Nat) :=
  (if t1 = t0 then
    (h_nt (p_X7_pointX V g f x0 x6 x8)).bind fun v121 =>
    (if v121 = x9 then
      (h_nt (p_X7_pointY V g f x0 x6 x8)).bind fun v123 =>
      (if v123 = x10 then
        some ((1 : Int32), f, n)
      else
        some ((0 : Int32), f, n))
    else
      some ((0 : Int32), f, n))
  else
    some ((0 : Int32), f, n))
def p_L_act_j507 (V : Nat → Nat) (g : GH) (x0 : Nat) (x6 : Int32) (x12 : Int32) (f : GH) (n : Nat) : Option (Int32 × GH × Nat) :=
  (h_nt (p_X7_lengthAt V g f x0 x6 (0 : Int32))).bind fun v132 =>
  (if v132 = x12 then
    some ((1 : Int32), f, n)
  else
    some ((0 : Int32), f, n))
def p_L_act_j445 (V : Nat → Nat) (g : GH) (x0 : Nat) (x6 : Int32) (x7 : Int32) (x11 : Int32) (x12 : Int32) (t0 : Int32) (t1 : Int32) (f : GH) (n : Nat) : Option (Int32 × GH × Nat) :=
  (if t0 ≤ t1 then
    (h_nt (p_X7_unfold V g f x0 x6)).bind fun v130 =>
    (if v130.1 = x11 then
      (if (x7 - x7 / (2 : Int32) * (2 : Int32)) = (0 : Int32) then
        (h_nt (p_X7_isIsland V g v130.2 x0 x6)).bind fun v135 =>
        (if v135 = (0 : Int32) then
          (h_nt (p_X7_lengthAt V g v130.2 x0 x6 (0 : Int32))).bind fun v137 =>
          (if x12 < v137 then
            some ((0 : Int32), v130.2, n)
          else
            some ((1 : Int32), v130.2, n))
        else
          p_L_act_j507 V g x0 x6 x12 v130.2 n)
      else
        p_L_act_j507 V g x0 x6 x12 v130.2 n)
    else
      some ((0 : Int32), v130.2, n))
  else
    (h_nt (p_X7_stickCount V g f x0 x6 (1 : Int32))).bind fun v139 =>
    (if (3 : Int32) < v139 then
      some ((0 : Int32), f, n)
    else
      some ((1 : Int32), f, n)))
def p_L_act_j406 (V : Nat → Nat) (g : GH) (x0 : Nat) (x3 : Int32) (x5 : Int32) (x6 : Int32) (x7 : Int32) (x8 : Int32) (x9 : Int32) (x10 : Int32) (f : GH) (n : Nat) : Option (Int32 × GH × Nat) :=
  (if (8 : Int32) ≤ x3 then
    (if (10 : Int32) ≤ x3 then
      (if (12 : Int32) ≤ x3 then
        p_L_act_j718 V g x0 x3 x5 x6 x7 x8 x9 f n
      else
        (if (129 : Int32) ≤ x7 then
          p_L_act_j718 V g x0 x3 x5 x6 x7 x8 x9 f n
        else
          (h_nt (p_X7_lengthAt V g f x0 x6 (0 : Int32))).bind fun v105 =>
          (h_nt (p_X7_insertPoint V g f x0 x6 x8 x9 x10)).bind fun v106 =>
          (if v106.1 = (x7 + (1 : Int32)) then
            (h_nt (p_X7_pointX V g v106.2 x0 x6 x8)).bind fun v108 =>
            (if v108 = x9 then
              (h_nt (p_X7_lengthAt V g v106.2 x0 x6 (0 : Int32))).bind fun v110 =>
              (if v110 < v105 then
                some ((0 : Int32), v106.2, n)
              else
                (h_nt (p_X7_lengthWithoutPoint V g v106.2 x0 x6 x8)).bind fun v112 =>
                (if v112 = v105 then
                  some ((1 : Int32), v106.2, n)
                else
                  some ((0 : Int32), v106.2, n)))
            else
              some ((0 : Int32), v106.2, n))
          else
            some ((0 : Int32), v106.2, n))))
    else
      (h_nt (p_X7_pointX V g f x0 x6 x8)).bind fun v114 =>
      (p_J9_abs_0f7a4 V g f (v114 - x9)).bind fun v115 =>
      (h_nt (p_X7_pointY V g f x0 x6 x8)).bind fun v116 =>
      (p_J9_abs_0f7a4 V g f (v116 - x10)).bind fun v117 =>
      (h_nt (p_X7_movePoint V g f x0 x6 x8 x9 x10)).bind fun v118 =>
      (p_X7_usesKingMetric V g v118.2 x0).bind fun v119 =>
      (if v119 = (0 : Int32) then
        p_L_act_j597 V g x0 x6 x8 x9 x10 (v115 + v117) v118.1 v118.2 n
      else
        (p_J9_max_7cf53 V g v118.2 v115 v117).bind fun v126 =>
        p_L_act_j597 V g x0 x6 x8 x9 x10 v126 v118.1 v118.2 n))
  else
    (h_nt (p_X7_lengthAt V g f x0 x6 (1 : Int32))).bind fun v127 =>
    (h_nt (p_X7_isIsland V g f x0 x6)).bind fun v128 =>
    (if v128 = (0 : Int32) then
      p_L_act_j445 V g x0 x6 x7 ((x7 + (1 : Int32)) / (2 : Int32)) v127 (2 : Int32) ((x7 + (1 : Int32)) / (2 : Int32)) f n
    else
      p_L_act_j445 V g x0 x6 x7 ((x7 + (1 : Int32)) / (2 : Int32)) v127 (3 : Int32) ((x7 + (1 : Int32)) / (2 : Int32)) f n))
def p_L_act_j263 (V : Nat → Nat) (g : GH) (x0 : Nat) (x3 : Int32) (x4 : Int32) (x5 : Int32) (x6 : Int32) (f : GH) (n : Nat) : Option (Int32 × GH × Nat) :=
  (h_nt (p_X7_pointCount V g f x0 x6)).bind fun v41 =>
  (p_L_most V g f (x4 >>> ((2 : Int32) &&& 31)) v41).bind fun v42 =>
  (p_L_most V g f (x4 >>> ((1 : Int32) &&& 31)) (161 : Int32)).bind fun v43 =>
  (p_L_most V g f (x4 >>> ((3 : Int32) &&& 31)) (161 : Int32)).bind fun v44 =>
  (if (6 : Int32) ≤ x3 then
    p_L_act_j406 V g x0 x3 x5 x6 v41 v42 (v43 - (80 : Int32)) (v44 - (80 : Int32)) f n
  else
    (if (20 : Int32) < v41 then
      p_L_act_j406 V g x0 x3 x5 x6 v41 v42 (v43 - (80 : Int32)) (v44 - (80 : Int32)) f n
    else
      (p_L_most V g f x4 (41 : Int32)).bind fun v144 =>
      (h_nt (p_X7_lengthAfterFold V g f x0 x6 (v144 - (20 : Int32)) (0 : Int32))).bind fun v145 =>
      (h_nt (p_X7_foldObstacle V g v145.2 x0 x6 (v144 - (20 : Int32)))).bind fun v146 =>
      (if v146 ≤ (0 : Int32) then
        (h_nt (p_X7_fold V g v145.2 x0 x6 (v144 - (20 : Int32)))).bind fun v148 =>
        (h_nt (p_X7_pointCount V g v148.2 x0 x6)).bind fun v149 =>
        (if v148.1 = v149 then
          (h_nt (p_X7_lengthAt V g v148.2 x0 x6 (0 : Int32))).bind fun v151 =>
          (if v151 = v145.1 then
            some ((1 : Int32), v148.2, n)
          else
            some ((0 : Int32), v148.2, n))
        else
          some ((0 : Int32), v148.2, n))
      else
        (if v145.1 = (-1 : Int32) then
          some ((1 : Int32), v145.2, n)
        else
          some ((0 : Int32), v145.2, n)))))
def p_L_act_j34 (V : Nat → Nat) (g : GH) (x0 : Nat) (x1 : Nat) (x3 : Int32) (x4 : Int32) (x5 : Int32) (t0 : Int32) (f : GH) (n : Nat) : Option (Int32 × GH × Nat) :=
  (if x5 = (0 : Int32) then
    p_L_act_j53 V g x0 x1 x4 x5 f n
  else
    (if (2 : Int32) ≤ x3 then
      p_L_act_j263 V g x0 x3 x4 x5 t0 f n
    else
      (if (6 : Int32) ≤ x5 then
        p_L_act_j263 V g x0 x3 x4 x5 t0 f n
      else
        p_L_act_j53 V g x0 x1 x4 x5 f n)))
def p_L_act (V : Nat → Nat) (g f : GH) (n : Nat) (a0 : Nat) (a1 : Nat) (a2 : Int32) : Option (Int32 × GH × Nat) :=
  (p_L_most V g f a2 (18 : Int32)).bind fun v1 =>
  (p_X7_coastCount V g f a0).bind fun v2 =>
  (if v2 = (0 : Int32) then
    p_L_act_j34 V g a0 a1 v1 (a2 >>> ((4 : Int32) &&& 31)) v2 (0 : Int32) f n
  else
    (p_L_most V g f (a2 >>> ((4 : Int32) &&& 31)) v2).bind fun v157 =>
    p_L_act_j34 V g a0 a1 v1 (a2 >>> ((4 : Int32) &&& 31)) v2 v157 f n)
def p_L_law_j167 (V : Nat → Nat) (g : GH) (K122 : Nat → Nat → Nat → Nat → Int32 → Int32 → Int32 → Int32 → Int32 → GH → Nat → Option (Int32 × GH × Nat)) (x0 : Nat) (x1 : Nat) (x2 : Nat) (x4 : Nat) (x5 : Int32) (x6 : Int32) (x7 : Int32) (x9 : Int32) (x10 : Int32) (t0 : Nat) (t1 : Nat) (f : GH) (n : Nat) : Option (Int32 × GH × Nat) :=
  (p_J4_append_15ec4 V g f n t1 t0).bind fun v17 =>
  (p_L_most V g v17.2.1 ((x7 >>> (x10 &&& 31)) + ((7 : Int32) * x10)) (80 : Int32)).bind fun v18 =>
  (p_J4_append_bf812 V g v17.2.1 v17.2.2 v17.1 v18).bind fun v19 =>
  (p_J4_append_cf468 V g v19.2.1 v19.2.2 v19.1 (32 : Int32)).bind fun v20 =>
  (p_L_most V g v20.2.1 ((x7 >>> ((x10 + (3 : Int32)) &&& 31)) + ((11 : Int32) * x10)) (80 : Int32)).bind fun v21 =>
  (p_J4_append_bf812 V g v20.2.1 v20.2.2 v20.1 v21).bind fun v22 =>
  K122 x0 x1 x2 x4 x5 x6 x7 x9 (x10 + (1 : Int32)) v22.2.1 v22.2.2
def p_L_law_j143 (V : Nat → Nat) (g : GH) (K122 : Nat → Nat → Nat → Nat → Int32 → Int32 → Int32 → Int32 → Int32 → GH → Nat → Option (Int32 × GH × Nat)) (x0 : Nat) (x1 : Nat) (x2 : Nat) (x4 : Nat) (x5 : Int32) (x6 : Int32) (x7 : Int32) (x9 : Int32) (x10 : Int32) (t0 : Nat) (t1 : Nat) (f : GH) (n : Nat) : Option (Int32 × GH × Nat) :=
  (p_J4_append_15ec4 V g f n t1 t0).bind fun v15 =>
  (p_L_most V g v15.2.1 (x7 >>> ((x10 + (2 : Int32)) &&& 31)) (2 : Int32)).bind fun v16 =>
  (if v16 = (0 : Int32) then
    p_L_law_j167 V g K122 x0 x1 x2 x4 x5 x6 x7 x9 x10 (V 58) v15.1 v15.2.1 v15.2.2
  else
    p_L_law_j167 V g K122 x0 x1 x2 x4 x5 x6 x7 x9 x10 (V 57) v15.1 v15.2.1 v15.2.2)
def p_L_law_l122 (V : Nat → Nat) (g : GH) (K222 : Nat → Nat → Nat → Nat → Int32 → Int32 → GH → Nat → Option (Int32 × GH × Nat)) : Nat → Nat → Nat → Nat → Nat → Int32 → Int32 → Int32 → Int32 → Int32 → GH → Nat → Option (Int32 × GH × Nat)
  | 0, _, _, _, _, _, _, _, _, _, _, _ => none
  | N122 + 1, x0, x1, x2, x4, x5, x6, x7, x9, x10, f, n =>
    (if x9 ≤ x10 then
      K222 x0 x1 x2 x4 x5 x6 f n
    else
      (if x10 ≤ (0 : Int32) then
        p_L_law_j143 V g (p_L_law_l122 V g K222 N122) x0 x1 x2 x4 x5 x6 x7 x9 x10 (V 57) x4 f n
      else
        p_L_law_j143 V g (p_L_law_l122 V g K222 N122) x0 x1 x2 x4 x5 x6 x7 x9 x10 (V 53) x4 f n))
def p_L_law_j115 (V : Nat → Nat) (g : GH) (K55 : Nat → Nat → Nat → Nat → Int32 → Int32 → GH → Nat → Option (Int32 × GH × Nat)) (x0 : Nat) (x1 : Nat) (x2 : Nat) (x4 : Nat) (x5 : Int32) (x6 : Int32) (x7 : Int32) (x9 : Int32) (t0 : Nat) (t1 : Nat) (f : GH) (n : Nat) : Option (Int32 × GH × Nat) :=
  (p_J4_append_15ec4 V g f n t1 t0).bind fun v13 =>
  p_L_law_l122 V g (fun x0 x1 x2 x4 x5 x6 f n =>
    (p_J4_append_cf468 V g f n x4 (59 : Int32)).bind fun v25 =>
    K55 x0 x1 x2 x4 x5 (x6 + (1 : Int32)) v25.2.1 v25.2.2) 9 x0 x1 x2 x4 x5 x6 x7 x9 (0 : Int32) v13.2.1 v13.2.2
def p_L_law_j86 (V : Nat → Nat) (g : GH) (K55 : Nat → Nat → Nat → Nat → Int32 → Int32 → GH → Nat → Option (Int32 × GH × Nat)) (x0 : Nat) (x1 : Nat) (x2 : Nat) (x4 : Nat) (x5 : Int32) (x6 : Int32) (x7 : Int32) (t0 : Int32) (f : GH) (n : Nat) : Option (Int32 × GH × Nat) :=
  (p_L_most V g f (x7 >>> ((1 : Int32) &&& 31)) (6 : Int32)).bind fun v12 =>
  (if t0 = (0 : Int32) then
    p_L_law_j115 V g K55 x0 x1 x2 x4 x5 x6 x7 ((3 : Int32) + v12) (V 51) x4 f n
  else
    p_L_law_j115 V g K55 x0 x1 x2 x4 x5 x6 x7 ((3 : Int32) + v12) (V 50) x4 f n)
def p_L_law_l55 (V : Nat → Nat) (g : GH) (K236 : Nat → Nat → Nat → Nat → Int32 → GH → Nat → Option (Int32 × GH × Nat)) : Nat → Nat → Nat → Nat → Nat → Int32 → Int32 → GH → Nat → Option (Int32 × GH × Nat)
  | 0, _, _, _, _, _, _, _, _ => none
  | N55 + 1, x0, x1, x2, x4, x5, x6, f, n =>
    (if x5 ≤ x6 then
      K236 x0 x1 x2 x4 x5 f n
    else
      (p_L_cell V g f x0 ((1 : Int32) + x6)).bind fun v10 =>
      (p_L_most V g f v10 (2 : Int32)).bind fun v11 =>
      (if v11 = (0 : Int32) then
        p_L_law_j86 V g (p_L_law_l55 V g K236 N55) x0 x1 x2 x4 x5 x6 v10 (1 : Int32) f n
      else
        p_L_law_j86 V g (p_L_law_l55 V g K236 N55) x0 x1 x2 x4 x5 x6 v10 (0 : Int32) f n))
def p_L_law_j457 (V : Nat → Nat) (g : GH) (K279 : Nat → Nat → Nat → Int32 → GH → Nat → Option (Int32 × GH × Nat)) (K483 : GH → Nat → Option (Int32 × GH × Nat)) (x0 : Nat) (x1 : Nat) (x2 : Nat) (x6 : Int32) (x9 : Nat) (x10 : Int32) (x11 : Nat) (f : GH) (n : Nat) : Option (Int32 × GH × Nat) :=
  (p_X7_undoableCount V g f x1).bind fun v46 =>
  (if v46 = x10 then
    (if (8 : Int32) ≤ x10 then
      K279 x0 x1 x2 (x6 + (1 : Int32)) f n
    else
      (p_L_alike V g f x9 x11).bind fun v49 =>
      (if v49 = (0 : Int32) then
        K483 f n
      else
        K279 x0 x1 x2 (x6 + (1 : Int32)) f n))
  else
    K279 x0 x1 x2 (x6 + (1 : Int32)) f n)
def p_L_law_j364 (V : Nat → Nat) (g : GH) (K279 : Nat → Nat → Nat → Int32 → GH → Nat → Option (Int32 × GH × Nat)) (K386 : GH → Nat → Option (Int32 × GH × Nat)) (K455 : GH → Nat → Option (Int32 × GH × Nat)) (K483 : GH → Nat → Option (Int32 × GH × Nat)) (x0 : Nat) (x1 : Nat) (x2 : Nat) (x6 : Int32) (x7 : Int32) (f : GH) (n : Nat) : Option (Int32 × GH × Nat) :=
  (p_L_all V g f n x1).bind fun v40 =>
  (p_X7_undoableCount V g v40.2.1 x1).bind fun v41 =>
  (p_L_act V g v40.2.1 v40.2.2 x1 x2 x7).bind fun v42 =>
  (if v42.1 = (0 : Int32) then
    K386 v42.2.1 v42.2.2
  else
    (p_L_all V g v42.2.1 v42.2.2 x1).bind fun v44 =>
    (p_X7_undoableCount V g v44.2.1 x1).bind fun v45 =>
    (if v45 = (v41 + (1 : Int32)) then
      (if (x6 - x6 / (3 : Int32) * (3 : Int32)) = (0 : Int32) then
        (h_nt (p_X7_undo V g v44.2.1 x1)).bind fun v53 =>
        (if v53.1 = v41 then
          (p_L_all V g v53.2 v44.2.2 x1).bind fun v55 =>
          (p_L_alike V g v55.2.1 v55.1 v40.1).bind fun v56 =>
          (if v56 = (0 : Int32) then
            K455 v55.2.1 v55.2.2
          else
            (p_L_act V g v55.2.1 v55.2.2 x1 x2 x7).bind fun v58 =>
            (if v58.1 = (0 : Int32) then
              K455 v58.2.1 v58.2.2
            else
              (p_L_all V g v58.2.1 v58.2.2 x1).bind fun v60 =>
              (p_L_alike V g v60.2.1 v60.1 v44.1).bind fun v61 =>
              (if v61 = (0 : Int32) then
                K455 v60.2.1 v60.2.2
              else
                p_L_law_j457 V g K279 K483 x0 x1 x2 x6 v40.1 v41 v44.1 v60.2.1 v60.2.2)))
        else
          K455 v53.2 v44.2.2)
      else
        p_L_law_j457 V g K279 K483 x0 x1 x2 x6 v40.1 v41 v44.1 v44.2.1 v44.2.2)
    else
      p_L_law_j457 V g K279 K483 x0 x1 x2 x6 v40.1 v41 v44.1 v44.2.1 v44.2.2))
def p_L_law_j317 (V : Nat → Nat) (g : GH) (K279 : Nat → Nat → Nat → Int32 → GH → Nat → Option (Int32 × GH × Nat)) (K362 : GH → Nat → Option (Int32 × GH × Nat)) (K386 : GH → Nat → Option (Int32 × GH × Nat)) (K455 : GH → Nat → Option (Int32 × GH × Nat)) (K483 : GH → Nat → Option (Int32 × GH × Nat)) (x0 : Nat) (x1 : Nat) (x2 : Nat) (x6 : Int32) (x7 : Int32) (x8 : Int32) (f : GH) (n : Nat) : Option (Int32 × GH × Nat) :=
  (if x8 ≤ (0 : Int32) then
    p_L_law_j364 V g K279 K386 K455 K483 x0 x1 x2 x6 x7 f n
  else
    (p_L_most V g f x7 x8).bind fun v64 =>
    (p_L_areSticks V g f x1 v64).bind fun v65 =>
    (if v65 = (0 : Int32) then
      K362 f n
    else
      (if (x6 - x6 / (4 : Int32) * (4 : Int32)) = (1 : Int32) then
        (p_L_most V g f (x7 >>> ((1 : Int32) &&& 31)) x8).bind fun v68 =>
        (p_L_isFold V g f n x1 v68 x7).bind fun v69 =>
        (if v69.1 = (0 : Int32) then
          K362 v69.2.1 v69.2.2
        else
          p_L_law_j364 V g K279 K386 K455 K483 x0 x1 x2 x6 x7 v69.2.1 v69.2.2)
      else
        p_L_law_j364 V g K279 K386 K455 K483 x0 x1 x2 x6 x7 f n)))
def p_L_law_l279 (V : Nat → Nat) (g : GH) (K362 : GH → Nat → Option (Int32 × GH × Nat)) (K386 : GH → Nat → Option (Int32 × GH × Nat)) (K455 : GH → Nat → Option (Int32 × GH × Nat)) (K483 : GH → Nat → Option (Int32 × GH × Nat)) (K491 : Nat → Nat → Nat → GH → Nat → Option (Int32 × GH × Nat)) : Nat → Nat → Nat → Nat → Int32 → GH → Nat → Option (Int32 × GH × Nat)
  | 0, _, _, _, _, _, _ => none
  | N279 + 1, x0, x1, x2, x6, f, n =>
    (if (24 : Int32) ≤ x6 then
      K491 x0 x1 x2 f n
    else
      (p_L_cell V g f x0 ((6 : Int32) + x6)).bind fun v38 =>
      (p_X7_coastCount V g f x1).bind fun v39 =>
      (if (x6 - x6 / (3 : Int32) * (3 : Int32)) = (0 : Int32) then
        (p_L_areMaps V g f x1).bind fun v72 =>
        (if v72 = (0 : Int32) then
          K362 f n
        else
          p_L_law_j317 V g (p_L_law_l279 V g K362 K386 K455 K483 K491 N279) K362 K386 K455 K483 x0 x1 x2 x6 v38 v39 f n)
      else
        p_L_law_j317 V g (p_L_law_l279 V g K362 K386 K455 K483 K491 N279) K362 K386 K455 K483 x0 x1 x2 x6 v38 v39 f n))
def p_L_law_l504 (V : Nat → Nat) (g : GH) (K527 : GH → Nat → Option (Int32 × GH × Nat)) (K535 : Nat → Nat → GH → Nat → Option (Int32 × GH × Nat)) : Nat → Nat → Nat → Nat → Nat → Int32 → GH → Nat → Option (Int32 × GH × Nat)
  | 0, _, _, _, _, _, _, _ => none
  | N504 + 1, x0, x1, x2, x6, x7, f, n =>
    (if (5 : Int32) ≤ x7 then
      K535 x1 x6 f n
    else
      (p_L_cell V g f x0 ((36 : Int32) + x7)).bind fun v77 =>
      (p_L_act V g f n x1 x2 v77).bind fun v78 =>
      (if v78.1 = (0 : Int32) then
        K527 v78.2.1 v78.2.2
      else
        p_L_law_l504 V g K527 K535 N504 x0 x1 x2 x6 (x7 + (1 : Int32)) v78.2.1 v78.2.2))
def p_L_law_j38 (V : Nat → Nat) (g : GH) (x0 : Nat) (x1 : Nat) (x2 : Nat) (x3 : Int32) (t0 : Nat) (t1 : Nat) (t2 : Nat) (f : GH) (n : Nat) : Option (Int32 × GH × Nat) :=
  (p_J4_init_a7421 V g f n t1 t0).bind fun v7 =>
  (p_L_most V g v7.1 (x3 >>> ((1 : Int32) &&& 31)) (5 : Int32)).bind fun v8 =>
  p_L_law_l55 V g (fun x0 x1 x2 x4 x5 f n =>
    (p_J4_toString_0e30d V g f n x4).bind fun v28 =>
    (p_L_say V g v28.2.1 x1 x2 v28.1).bind fun v29 =>
    (p_L_end V g v29 x1 x2).bind fun v30 =>
    (h_nt (p_X7_loadMap V g v30.2 x1 v30.1)).bind fun v31 =>
    (if v31.1 = x5 then
      (p_X7_undoableCount V g v31.2 x1).bind fun v33 =>
      (if v33 = (0 : Int32) then
        (p_X7_addedPoints V g v31.2 x1).bind fun v35 =>
        (if v35 = (0 : Int32) then
          p_L_law_l279 V g (fun f n =>
            some ((0 : Int32), f, n)) (fun f n =>
            some ((0 : Int32), f, n)) (fun f n =>
            some ((0 : Int32), f, n)) (fun f n =>
            some ((0 : Int32), f, n)) (fun x0 x1 x2 f n =>
            (p_X7_saveSnapshot V g f x1).bind fun v74 =>
            (p_L_all V g v74 n x1).bind fun v75 =>
            p_L_law_l504 V g (fun f n =>
              some ((0 : Int32), f, n)) (fun x1 x6 f n =>
              (h_nt (p_X7_restoreSnapshot V g f x1)).bind fun v80 =>
              (h_li v80.2 x6 0 (0 : Int32)).bind fun v81 =>
              (if v80.1 = v81 then
                (p_L_all V g v80.2 n x1).bind fun v83 =>
                (p_L_alike V g v83.2.1 v83.1 x6).bind fun v84 =>
                (if v84 = (0 : Int32) then
                  some ((0 : Int32), v83.2.1, v83.2.2)
                else
                  (p_X7_undoableCount V g v83.2.1 x1).bind fun v86 =>
                  (if v86 = (0 : Int32) then
                    some ((1 : Int32), v83.2.1, v83.2.2)
                  else
                    some ((0 : Int32), v83.2.1, v83.2.2)))
              else
                some ((0 : Int32), v80.2, n))) 6 x0 x1 x2 v75.1 (0 : Int32) v75.2.1 v75.2.2) 25 x0 x1 x2 (0 : Int32) v31.2 v28.2.2
        else
          some ((0 : Int32), v31.2, v28.2.2))
      else
        some ((0 : Int32), v31.2, v28.2.2))
    else
      some ((0 : Int32), v31.2, v28.2.2))) 5 x0 x1 x2 t2 v8 (0 : Int32) v7.1 v7.2
def p_L_law (V : Nat → Nat) (g f : GH) (n : Nat) (a0 : Nat) : Option (Int32 × GH × Nat) :=
  (some (h_up f n (.inr (9, [.null, .null, .null, .int 0, .null, .int 0, .int 0, .null, .null, .null, .null, .null, .null])))).bind fun f1 =>
  (p_X7_init V g f1 (n + 1) n).bind fun v2 =>
  (some (h_up v2.1 v2.2 (.inl (0, 6, .inl (fun _ => 0))))).bind fun f3 =>
  (p_L_cell V g f3 a0 (0 : Int32)).bind fun v4 =>
  (some (h_up f3 (v2.2 + 1) (.inr (1, [.null, .int 0, .int 0, .int 0])))).bind fun f5 =>
  (p_L_most V g f5 v4 (2 : Int32)).bind fun v6 =>
  (if v6 = (0 : Int32) then
    p_L_law_j38 V g a0 n v2.2 v4 (V 55) (v2.2 + 1) (v2.2 + 1) f5 (v2.2 + 2)
  else
    p_L_law_j38 V g a0 n v2.2 v4 (V 56) (v2.2 + 1) (v2.2 + 1) f5 (v2.2 + 2))

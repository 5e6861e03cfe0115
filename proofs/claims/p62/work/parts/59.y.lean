/-! ===== folding: the reference's side ===== -/
theorem upA_up (A : Nat → Nat → Int32) (b : Nat) (r r1 : Nat → Int32) : upA (upA A b r) b r1 = upA A b r1 := by
  funext i
  unfold upA
  split <;> rfl
theorem s_abs_neg (v : Int32) : s_abs (-v) = s_abs v := by
  unfold s_abs
  by_cases h : v = -2147483648
  · subst h
    decide
  · have hv : (-v).toInt = -v.toInt := by
      rw [Int32.toInt_neg]
      have h1 := Int32.le_toInt v
      have h2 := Int32.toInt_lt v
      have h3 : v.toInt ≠ -2147483648 := fun e => h (Int32.toInt_inj.mp (by rw [e]; decide))
      rw [Int.bmod_eq_of_le] <;> omega
    by_cases h0 : (0 : Int32) ≤ v
    · by_cases h1 : (0 : Int32) ≤ -v
      · rw [if_pos h0, if_pos h1]
        rw [i_le, show (0 : Int32).toInt = 0 from rfl] at h0 h1
        exact Int32.toInt_inj.mp (by omega)
      · rw [if_pos h0, if_neg h1, Int32.neg_neg]
    · by_cases h1 : (0 : Int32) ≤ -v
      · rw [if_neg h0, if_pos h1]
      · rw [i_le, show (0 : Int32).toInt = 0 from rfl] at h0 h1
        omega
theorem s_abs_sub (x y : Int32) : s_abs (x - y) = s_abs (y - x) := by rw [← s_abs_neg, Int32.neg_sub]
theorem nn_par {j : Nat} (h : j < 2147483648) : nn j - nn j / (2 : Int32) * (2 : Int32) = nn (j % 2) := by
  rw [n_2, nn_div h (by decide), nn_mul, nn_sub (by omega)]
  congr 1
  omega
theorem bz_and (p q : Bool) : bz p &&& bz q = bz (p && q) := by cases p <;> cases q <;> decide
section RY
variable {V : Nat → Nat} {g f f0 : GH} {x m b : Nat} {T : TS} {z : Nat → Int32} {A : Nat → Nat → Int32} {hs pc pn : Int32}
/-- the row's places of coastline 6 up to point n hold what folding gives -/
def FP6 (r : Nat → Int32) (c : CS) (w : Int32) (n : Nat) : Prop := Pts r 6 0 n (cX (s_fold c w)) (cY (s_fold c w))
theorem FP6.lay {r : Nat → Int32} {c : CS} {w : Int32} {n : Nat} (h : FP6 r c w n) {u v : Int32} (hu : u = cX (s_fold c w) n) (hv : v = cY (s_fold c w) n) : FP6 (lay r 6 n u v) c w (n + 1) :=
  Pts.lay_in (fun j h1 h2 h3 => h j h1 (by omega)) (fun _ _ => ⟨hu, hv⟩)
theorem P_foldObstacle (X : XoA f x hs pc pn) (C : ChA f (x + 1) T) (hv : TV T) (a w : Int32) : p_X7_foldObstacle V g f x a w = some (sCo T a fun c => sIn (-50) 50 w (.inr (s_why c w))) := by
  unfold p_X7_foldObstacle
  rw [X.me]
  unfold sCo
  cases ha : inC (tN T) a with
  | false => rw [P_atN X C ha, xb_l, if_neg b_ff]
  | true =>
    obtain ⟨q, q1, q2, q3, q4⟩ := P_at (V := V) (g := g) X C ha
    have cv := hv.2.2 _ (inC_t (by have := hv.1; omega) ha).2
    have n1 := cv.n1
    rw [q1, xb_r, if_pos rfl, P_within]
    unfold sIn
    dsimp only
    cases hl : s_in (-50) 50 w with
    | false => rw [if_neg b_ff, xb_l, if_neg b_ff]
    | true => rw [if_pos rfl, xb_r, if_pos rfl, C_why q2 (by omega), ob_s]
end RY


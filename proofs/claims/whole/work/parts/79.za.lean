/-! ===== the constructors: the reference's ===== -/
section KD
variable {V : Nat → Nat} {g f f0 f1 : GH} {x m n k j b : Nat} {z : Nat → Int32} {A : Nat → Nat → Int32} {T : TS}
theorem I_sqs {a v i : Nat} {fs : List Value} {r : Nat → Option Nat} {c : Int32} (h : f a = some (.inl (7, 11, .inr (.inr (.inr (.inr r)))))) (hv : gO g v = some (.inr (51, fs))) (hi : i < 11) (hc : c = nn i) : h_sqs (gO g) f a 7 c v = some (h_up f a (.inl (7, 11, .inr (.inr (.inr (.inr (va_up r i (some v)))))))) := by
  unfold h_sqs
  rw [haq_of h, hv, hc]
  dsimp only
  rw [if_pos (hin_of hi (by omega)), nn_c (by omega)]
  exact if_pos rfl
def z_0 : Nat → Int32 := upd (fun _ => 0) 20 (-1)
def r_0 (V : Nat → Nat) : Nat → Option Nat := va_up (va_up (va_up (va_up (va_up (va_up (va_up (va_up (va_up (va_up (va_up (fun _ => none) 0 (some (V 27))) 1 (some (V 40))) 2 (some (V 41))) 3 (some (V 42))) 4 (some (V 43))) 5 (some (V 44))) 6 (some (V 45))) 7 (some (V 46))) 8 (some (V 47))) 9 (some (V 48))) 10 (some (V 26))
theorem r_0_w (V : Nat → Nat) : r_0 V = mW V := by
  funext k
  unfold r_0 mW
  match k with
  | 0 | 1 | 2 | 3 | 4 | 5 | 6 | 7 | 8 | 9 | 10 => rfl
  | k + 11 => simp [va_up]
theorem I_words (S : StOK V g) (f : GH) (n : Nat) : ∃ f1, ((some (h_up f n (.inl (7, 11, .inr (.inr (.inr (.inr (fun _ => none)))))))).bind fun f22 =>
  (h_sqs (gO g) f22 n 7 (0 : Int32) (V 27)).bind fun f23 =>
  (h_sqs (gO g) f23 n 7 (1 : Int32) (V 40)).bind fun f24 =>
  (h_sqs (gO g) f24 n 7 (2 : Int32) (V 41)).bind fun f25 =>
  (h_sqs (gO g) f25 n 7 (3 : Int32) (V 42)).bind fun f26 =>
  (h_sqs (gO g) f26 n 7 (4 : Int32) (V 43)).bind fun f27 =>
  (h_sqs (gO g) f27 n 7 (5 : Int32) (V 44)).bind fun f28 =>
  (h_sqs (gO g) f28 n 7 (6 : Int32) (V 45)).bind fun f29 =>
  (h_sqs (gO g) f29 n 7 (7 : Int32) (V 46)).bind fun f30 =>
  (h_sqs (gO g) f30 n 7 (8 : Int32) (V 47)).bind fun f31 =>
  (h_sqs (gO g) f31 n 7 (9 : Int32) (V 48)).bind fun f32 =>
  (h_sqs (gO g) f32 n 7 (10 : Int32) (V 26))) = some f1 ∧ f1 n = some (.inl (7, 11, .inr (.inr (.inr (.inr (mW V)))))) ∧ ∀ a, a ≠ n → f1 a = f a := by
  refine ⟨h_up f n (.inl (7, 11, .inr (.inr (.inr (.inr (r_0 V)))))), ?_, by rw [h_up_s, r_0_w], fun a ha => h_up_n f _ ha⟩
  rw [ob_s, I_sqs (v := V 27) (c := 0) (i := 0) (h_up_s _ _ _) (S.wo (i := 3) (by decide)) (by decide) rfl, ob_s, up_up, I_sqs (v := V 40) (c := 1) (i := 1) (h_up_s _ _ _) (S.wo (i := 5) (by decide)) (by decide) rfl, ob_s, up_up, I_sqs (v := V 41) (c := 2) (i := 2) (h_up_s _ _ _) (S.wo (i := 6) (by decide)) (by decide) rfl, ob_s, up_up, I_sqs (v := V 42) (c := 3) (i := 3) (h_up_s _ _ _) (S.wo (i := 7) (by decide)) (by decide) rfl, ob_s, up_up, I_sqs (v := V 43) (c := 4) (i := 4) (h_up_s _ _ _) (S.wo (i := 8) (by decide)) (by decide) rfl, ob_s, up_up, I_sqs (v := V 44) (c := 5) (i := 5) (h_up_s _ _ _) (S.wo (i := 9) (by decide)) (by decide) rfl, ob_s, up_up, I_sqs (v := V 45) (c := 6) (i := 6) (h_up_s _ _ _) (S.wo (i := 10) (by decide)) (by decide) rfl, ob_s, up_up, I_sqs (v := V 46) (c := 7) (i := 7) (h_up_s _ _ _) (S.wo (i := 11) (by decide)) (by decide) rfl, ob_s, up_up, I_sqs (v := V 47) (c := 8) (i := 8) (h_up_s _ _ _) (S.wo (i := 12) (by decide)) (by decide) rfl, ob_s, up_up, I_sqs (v := V 48) (c := 9) (i := 9) (h_up_s _ _ _) (S.wo (i := 13) (by decide)) (by decide) rfl, ob_s, up_up, I_sqs (v := V 26) (c := 10) (i := 10) (h_up_s _ _ _) (S.wo (i := 4) (by decide)) (by decide) rfl, up_up]
  rfl
/-! its rows, from its cells on -/
theorem M_startC (isl : Int32) : ∃ r, p_X8_startCoast V g (mH V m b z A f0) m isl = some (mH V m b z (upA A 7 r) f0) ∧ RQ r 0 (c_new isl) := by
  refine ⟨upd (upd (A 7) 0 isl) 1 0, ?_, ⟨by rw [upd_n _ _ (by decide), upd_s]; rfl, upd_s _ _ _, fun k hk => absurd hk (Nat.not_lt_zero k)⟩⟩
  unfold p_X8_startCoast
  rw [m_me, m_r22, ob_s, show (0 : Int32) = nn 0 from rfl, m_si (by decide) (show 0 < mL 7 by decide), ob_s, m_r22, ob_s, show (1 : Int32) = nn 1 from rfl, m_si (by decide) (show 1 < mL 7 by decide), ob_s, upA_up, upA_s]
theorem M_rest (hb : b < 2) (R : RT (A b) T) (h6 : tN T ≤ 6) : p_X8_restartLedgers V g (mH V m b z A f0) m = some (mH V m b z (upA A b (upd (upd (upd (A b) 2 (s_pts T)) 3 0) 4 0)) f0) := by
  unfold p_X8_restartLedgers
  rw [m_me, m_row, ob_s, M_pts hb R h6, ob_s, m_s2 hb, ob_s, m_row, ob_s, m_s3 hb, ob_s, m_row, ob_s, m_s4 hb, ob_s, upA_up, upA_up, upA_s, upA_s]
end KD

/-! ===== the constructors: the class's, whole ===== -/
/-- what lies beside the charts -/
def RD1 (V : Nat → Nat) (f : GH) (x : Nat) : Prop := ChF f (x + 21) mp_0 ∧ ChF f (x + 41) mp_0 ∧ f (x + 62) = some (.inr (8, [.ref (x + 63), .int 0, .int 0, .int 0, .int 0, .int 0])) ∧ f (x + 63) = some (.inl (1, 700, .inl fun _ => 0)) ∧ f (x + 64) = some (.inr (7, [.ref (x + 62), .int 0, .int (-1), .int 0, .int 0])) ∧ CmA f (x + 66) V 11 0 0 0 0 0 (c_new 0) ∧ CoA f (x + 70) 129 (c_new 0) ∧ f (x + 73) = some (.inr (1, [.ref (x + 74), .int 0, .int 0, .int 0])) ∧ f (x + 74) = some (.inl (1, 16, .inl fun _ => 0))
theorem RD1.frame {V : Nat → Nat} {f f1 : GH} {x : Nat} (R : RD1 V f x) (e : ∀ a, (x + 21 ≤ a ∧ a < x + 61 ∨ x + 62 ≤ a ∧ a < x + 65 ∨ x + 66 ≤ a ∧ a < x + 75) → f1 a = f a) : RD1 V f1 x := by
  obtain ⟨r1, r2, r3, r4, r5, r6, r7, r8, r9⟩ := R
  exact ⟨r1.frame (fun a h1 h2 => e a (by omega)), r2.frame (fun a h1 h2 => e a (by omega)), (e _ (by omega)).trans r3, (e _ (by omega)).trans r4, (e _ (by omega)).trans r5, r6.frame (fun a h1 h2 => e a (by omega)), r7.frame (fun a h1 h2 => e a (by omega)), (e _ (by omega)).trans r8, (e _ (by omega)).trans r9⟩
theorem PaI.frame {f f1 : GH} {x k : Nat} (P : PaI f x k) (hk : k ≤ 8) (e : ∀ a, (a = x + 61 ∨ x + 75 ≤ a ∧ a < x + 235) → f1 a = f a) : PaI f1 x k := by
  obtain ⟨ra, p1, p2⟩ := P
  exact ⟨ra, (e _ (by omega)).trans p1, fun j hj => ⟨(p2 j hj).1, (p2 j hj).2.frame (fun a h1 h2 => e a (by omega))⟩⟩
theorem ScI.frame {V : Nat → Nat} {f f1 : GH} {x k : Nat} (P : ScI V f x k) (hk : k ≤ 20) (e : ∀ a, (a = x + 65 ∨ x + 235 ≤ a ∧ a < x + 315) → f1 a = f a) : ScI V f1 x k := by
  obtain ⟨ra, p1, p2⟩ := P
  exact ⟨ra, (e _ (by omega)).trans p1, fun j hj => ⟨(p2 j hj).1, (p2 j hj).2.frame (fun a h1 h2 => e a (by omega))⟩⟩
def RD (V : Nat → Nat) (f : GH) (x : Nat) (T : MS) (k j : Nat) : Prop := XoA f x 0 0 0 ∧ ChF f (x + 1) T ∧ RD1 V f x ∧ PaI f x k ∧ ScI V f x j
def al_f (l : List Int32) : Nat → Int32 := fun j => l.getD j 0
def M_1 : MS := ms_add mp_0 (tl_c (al_f al_c0) 0 5)
def M_2 : MS := ms_add M_1 (tl_c (al_f al_c1) 1 4)
def M_3 : MS := ms_add M_2 (tl_c (al_f al_c2) 1 3)
def FIN (V : Nat → Nat) (f : GH) (x : Nat) : Prop := XoA f x 0 0 0 ∧ ChA f (x + 1) (T_new M_3 0) ∧ RD1 V f x ∧ PaI f x 8 ∧ ScI V f x 20
section KB
variable {V : Nat → Nat} {g f : GH} {x n k j : Nat} {T : MS}
theorem RD.sc {c : Int32} (R : RD V f x T 8 j) (hj : j < 20) (hn : n = x + 235 + 4 * j) (hc : c = nn j) : h_gr f x 9 9 = some (x + 65) ∧ ∃ f1 f2, p_X3_init V g (h_up f n (.inr (6, [.null, .int 0, .int 0, .int 0, .int 0, .int 0, .null]))) (n + 1) n = some (f1, n + 4) ∧ h_sq f1 (x + 65) 6 6 c n = some f2 ∧ RD V f2 x T 8 (j + 1) ∧ ∀ c, (c < x ∨ x + 315 ≤ c) → f2 c = f c := by
  obtain ⟨r1, r2, r3, r4, r5⟩ := R
  obtain ⟨f1, f2, e1, e2, e3, o⟩ := I_sc (V := V) (g := g) r5 hj hn hc
  exact ⟨r1.sc, f1, f2, e1, e2, ⟨r1.fr (o x (by omega) (by omega)), r2.frame (fun a h1 h2 => o a (by omega) (by omega)), r3.frame (fun a h => o a (by omega) (by omega)), r4.frame (by omega) (fun a h => o a (by omega) (by omega)), e3⟩, fun c hc => o c (by omega) (by omega)⟩
theorem RD.pa {c : Int32} (R : RD V f x T k 0) (hk : k < 8) (hn : n = x + 75 + 20 * k) (hc : c = nn k) : h_gr f x 9 4 = some (x + 61) ∧ ∃ f1 f2, p_X1_init V g (h_up f n (.inr (4, [.null, .int 0, .int 0, .int 0, .int 0, .int 0]))) (n + 1) n = some (f1, n + 20) ∧ h_sq f1 (x + 61) 4 4 c n = some f2 ∧ RD V f2 x T (k + 1) 0 ∧ ∀ c, (c < x ∨ x + 315 ≤ c) → f2 c = f c := by
  obtain ⟨r1, r2, r3, r4, r5⟩ := R
  obtain ⟨f1, f2, e1, e2, e3, o⟩ := I_pa (V := V) (g := g) r4 hk hn hc
  exact ⟨r1.pa, f1, f2, e1, e2, ⟨r1.fr (o x (by omega) (by omega)), r2.frame (fun a h1 h2 => o a (by omega) (by omega)), r3.frame (fun a h => o a (by omega) (by omega)), e3, r5.frame (by omega) (fun a h => o a (by omega) (by omega))⟩, fun c hc => o c (by omega) (by omega)⟩
theorem RD.pl {f1 : GH} {T1 : MS} (R : RD V f x T 8 20) (C : ChF f1 (x + 1) T1) (o : h_out (x + 1) (x + 1 + 20) f f1) : RD V f1 x T1 8 20 := by
  obtain ⟨r1, r2, r3, r4, r5⟩ := R
  exact ⟨r1.fr (o x (by omega)), C, r3.frame (fun a h => o a (by omega)), r4.frame (by omega) (fun a h => o a (by omega)), r5.frame (by omega) (fun a h => o a (by omega))⟩
theorem I_s17 (S : StOK V g) (R : RD V f x M_1 8 20) : ∃ f1, p_X7_init_s17 V g x f (x + 315) = some (f1, x + 315) ∧ FIN V f1 x ∧ ∀ c, (c < x ∨ x + 315 ≤ c) → f1 c = f c := by
  obtain ⟨r, hb1, hr1⟩ := S.2.2.2.2.1
  obtain ⟨r', hb2, hr2⟩ := S.2.2.2.2.2.1
  obtain ⟨f1, e1, C1, o1⟩ := I_place (V := V) (g := g) (L := 4) (s := al_f al_c1) (isl := 1) hb1 hr1 (by decide) R.2.1 (by decide) rfl (Or.inr rfl)
  have R1 : RD V f1 x M_2 8 20 := R.pl C1 o1
  obtain ⟨f2, e2, C2, o2⟩ := I_place (V := V) (g := g) (L := 3) (s := al_f al_c2) (isl := 1) hb2 hr2 (by decide) R1.2.1 (by decide) rfl (Or.inr rfl)
  have R2 : RD V f2 x M_3 8 20 := R1.pl C2 o2
  obtain ⟨f3, e3, C3, o3⟩ := C_startL (V := V) (g := g) (R2.2.1.ch (by decide))
  obtain ⟨s1, s2, s3, s4, s5⟩ := R2
  refine ⟨f3, ?_, ⟨s1.fr (o3 x (by omega)), C3, s3.frame (fun a h => o3 a (by omega)), s4.frame (by omega) (fun a h => o3 a (by omega)), s5.frame (by omega) (fun a h => o3 a (by omega))⟩, fun c hc => by rw [o3 c (by omega), o2 c (by omega), o1 c (by omega)]⟩
  unfold p_X7_init_s17
  rw [R.1.ch, ob_s, e1, ob_s, R1.1.ch, ob_s, e2, ob_s, s1.ch, ob_s, e3, ob_s]
theorem I_s16 (S : StOK V g) (R : RD V f x mp_0 8 19) : ∃ f1, p_X7_init_s16 V g x f (x + 311) = some (f1, x + 315) ∧ FIN V f1 x ∧ ∀ c, (c < x ∨ x + 315 ≤ c) → f1 c = f c := by
  obtain ⟨r1, a1, b1, s1, t1, P1, q1⟩ := R.sc (g := g) (n := x + 311) (c := 19) (by decide) rfl rfl
  obtain ⟨r, hb1, hr1⟩ := S.2.2.2.1
  obtain ⟨f1, e1, C1, o1⟩ := I_place (V := V) (g := g) (L := 5) (s := al_f al_c0) (isl := 0) hb1 hr1 (by decide) P1.2.1 (by decide) rfl (Or.inl rfl)
  obtain ⟨f2, e2, F2, o2⟩ := I_s17 S (RD.pl P1 C1 o1)
  refine ⟨f2, ?_, F2, fun c hc => by rw [o2 c hc, o1 c (by omega), q1 c hc]⟩
  unfold p_X7_init_s16
  rw [r1, ob_s, ob_s, s1, ob_s]
  dsimp only
  rw [t1, ob_s, P1.1.ch, ob_s, e1, ob_s]
  exact e2
theorem I_s15 (S : StOK V g) (R : RD V f x mp_0 8 17) : ∃ f1, p_X7_init_s15 V g x f (x + 303) = some (f1, x + 315) ∧ FIN V f1 x ∧ ∀ c, (c < x ∨ x + 315 ≤ c) → f1 c = f c := by
  obtain ⟨r1, a1, b1, s1, t1, P1, q1⟩ := R.sc (g := g) (n := x + 303) (c := 17) (by decide) rfl rfl
  obtain ⟨r2, a2, b2, s2, t2, P2, q2⟩ := P1.sc (g := g) (n := x + 303 + 4) (c := 18) (by decide) rfl rfl
  obtain ⟨f1, e1, F1, o1⟩ := I_s16 S P2
  refine ⟨f1, ?_, F1, fun c hc => by rw [o1 c hc, q2 c hc, q1 c hc]⟩
  unfold p_X7_init_s15
  rw [r1, ob_s, ob_s, s1, ob_s]
  dsimp only
  rw [t1, ob_s, r2, ob_s, ob_s, s2, ob_s]
  dsimp only
  rw [t2, ob_s]
  exact e1
theorem I_s14 (S : StOK V g) (R : RD V f x mp_0 8 15) : ∃ f1, p_X7_init_s14 V g x f (x + 295) = some (f1, x + 315) ∧ FIN V f1 x ∧ ∀ c, (c < x ∨ x + 315 ≤ c) → f1 c = f c := by
  obtain ⟨r1, a1, b1, s1, t1, P1, q1⟩ := R.sc (g := g) (n := x + 295) (c := 15) (by decide) rfl rfl
  obtain ⟨r2, a2, b2, s2, t2, P2, q2⟩ := P1.sc (g := g) (n := x + 295 + 4) (c := 16) (by decide) rfl rfl
  obtain ⟨f1, e1, F1, o1⟩ := I_s15 S P2
  refine ⟨f1, ?_, F1, fun c hc => by rw [o1 c hc, q2 c hc, q1 c hc]⟩
  unfold p_X7_init_s14
  rw [r1, ob_s, ob_s, s1, ob_s]
  dsimp only
  rw [t1, ob_s, r2, ob_s, ob_s, s2, ob_s]
  dsimp only
  rw [t2, ob_s]
  exact e1
theorem I_s13 (S : StOK V g) (R : RD V f x mp_0 8 13) : ∃ f1, p_X7_init_s13 V g x f (x + 287) = some (f1, x + 315) ∧ FIN V f1 x ∧ ∀ c, (c < x ∨ x + 315 ≤ c) → f1 c = f c := by
  obtain ⟨r1, a1, b1, s1, t1, P1, q1⟩ := R.sc (g := g) (n := x + 287) (c := 13) (by decide) rfl rfl
  obtain ⟨r2, a2, b2, s2, t2, P2, q2⟩ := P1.sc (g := g) (n := x + 287 + 4) (c := 14) (by decide) rfl rfl
  obtain ⟨f1, e1, F1, o1⟩ := I_s14 S P2
  refine ⟨f1, ?_, F1, fun c hc => by rw [o1 c hc, q2 c hc, q1 c hc]⟩
  unfold p_X7_init_s13
  rw [r1, ob_s, ob_s, s1, ob_s]
  dsimp only
  rw [t1, ob_s, r2, ob_s, ob_s, s2, ob_s]
  dsimp only
  rw [t2, ob_s]
  exact e1
theorem I_s12 (S : StOK V g) (R : RD V f x mp_0 8 11) : ∃ f1, p_X7_init_s12 V g x f (x + 279) = some (f1, x + 315) ∧ FIN V f1 x ∧ ∀ c, (c < x ∨ x + 315 ≤ c) → f1 c = f c := by
  obtain ⟨r1, a1, b1, s1, t1, P1, q1⟩ := R.sc (g := g) (n := x + 279) (c := 11) (by decide) rfl rfl
  obtain ⟨r2, a2, b2, s2, t2, P2, q2⟩ := P1.sc (g := g) (n := x + 279 + 4) (c := 12) (by decide) rfl rfl
  obtain ⟨f1, e1, F1, o1⟩ := I_s13 S P2
  refine ⟨f1, ?_, F1, fun c hc => by rw [o1 c hc, q2 c hc, q1 c hc]⟩
  unfold p_X7_init_s12
  rw [r1, ob_s, ob_s, s1, ob_s]
  dsimp only
  rw [t1, ob_s, r2, ob_s, ob_s, s2, ob_s]
  dsimp only
  rw [t2, ob_s]
  exact e1
theorem I_s11 (S : StOK V g) (R : RD V f x mp_0 8 9) : ∃ f1, p_X7_init_s11 V g x f (x + 271) = some (f1, x + 315) ∧ FIN V f1 x ∧ ∀ c, (c < x ∨ x + 315 ≤ c) → f1 c = f c := by
  obtain ⟨r1, a1, b1, s1, t1, P1, q1⟩ := R.sc (g := g) (n := x + 271) (c := 9) (by decide) rfl rfl
  obtain ⟨r2, a2, b2, s2, t2, P2, q2⟩ := P1.sc (g := g) (n := x + 271 + 4) (c := 10) (by decide) rfl rfl
  obtain ⟨f1, e1, F1, o1⟩ := I_s12 S P2
  refine ⟨f1, ?_, F1, fun c hc => by rw [o1 c hc, q2 c hc, q1 c hc]⟩
  unfold p_X7_init_s11
  rw [r1, ob_s, ob_s, s1, ob_s]
  dsimp only
  rw [t1, ob_s, r2, ob_s, ob_s, s2, ob_s]
  dsimp only
  rw [t2, ob_s]
  exact e1
theorem I_s10 (S : StOK V g) (R : RD V f x mp_0 8 7) : ∃ f1, p_X7_init_s10 V g x f (x + 263) = some (f1, x + 315) ∧ FIN V f1 x ∧ ∀ c, (c < x ∨ x + 315 ≤ c) → f1 c = f c := by
  obtain ⟨r1, a1, b1, s1, t1, P1, q1⟩ := R.sc (g := g) (n := x + 263) (c := 7) (by decide) rfl rfl
  obtain ⟨r2, a2, b2, s2, t2, P2, q2⟩ := P1.sc (g := g) (n := x + 263 + 4) (c := 8) (by decide) rfl rfl
  obtain ⟨f1, e1, F1, o1⟩ := I_s11 S P2
  refine ⟨f1, ?_, F1, fun c hc => by rw [o1 c hc, q2 c hc, q1 c hc]⟩
  unfold p_X7_init_s10
  rw [r1, ob_s, ob_s, s1, ob_s]
  dsimp only
  rw [t1, ob_s, r2, ob_s, ob_s, s2, ob_s]
  dsimp only
  rw [t2, ob_s]
  exact e1
theorem I_s9 (S : StOK V g) (R : RD V f x mp_0 8 5) : ∃ f1, p_X7_init_s9 V g x f (x + 255) = some (f1, x + 315) ∧ FIN V f1 x ∧ ∀ c, (c < x ∨ x + 315 ≤ c) → f1 c = f c := by
  obtain ⟨r1, a1, b1, s1, t1, P1, q1⟩ := R.sc (g := g) (n := x + 255) (c := 5) (by decide) rfl rfl
  obtain ⟨r2, a2, b2, s2, t2, P2, q2⟩ := P1.sc (g := g) (n := x + 255 + 4) (c := 6) (by decide) rfl rfl
  obtain ⟨f1, e1, F1, o1⟩ := I_s10 S P2
  refine ⟨f1, ?_, F1, fun c hc => by rw [o1 c hc, q2 c hc, q1 c hc]⟩
  unfold p_X7_init_s9
  rw [r1, ob_s, ob_s, s1, ob_s]
  dsimp only
  rw [t1, ob_s, r2, ob_s, ob_s, s2, ob_s]
  dsimp only
  rw [t2, ob_s]
  exact e1
theorem I_s8 (S : StOK V g) (R : RD V f x mp_0 8 3) : ∃ f1, p_X7_init_s8 V g x f (x + 247) = some (f1, x + 315) ∧ FIN V f1 x ∧ ∀ c, (c < x ∨ x + 315 ≤ c) → f1 c = f c := by
  obtain ⟨r1, a1, b1, s1, t1, P1, q1⟩ := R.sc (g := g) (n := x + 247) (c := 3) (by decide) rfl rfl
  obtain ⟨r2, a2, b2, s2, t2, P2, q2⟩ := P1.sc (g := g) (n := x + 247 + 4) (c := 4) (by decide) rfl rfl
  obtain ⟨f1, e1, F1, o1⟩ := I_s9 S P2
  refine ⟨f1, ?_, F1, fun c hc => by rw [o1 c hc, q2 c hc, q1 c hc]⟩
  unfold p_X7_init_s8
  rw [r1, ob_s, ob_s, s1, ob_s]
  dsimp only
  rw [t1, ob_s, r2, ob_s, ob_s, s2, ob_s]
  dsimp only
  rw [t2, ob_s]
  exact e1
theorem I_s7 (S : StOK V g) (R : RD V f x mp_0 8 1) : ∃ f1, p_X7_init_s7 V g x f (x + 239) = some (f1, x + 315) ∧ FIN V f1 x ∧ ∀ c, (c < x ∨ x + 315 ≤ c) → f1 c = f c := by
  obtain ⟨r1, a1, b1, s1, t1, P1, q1⟩ := R.sc (g := g) (n := x + 239) (c := 1) (by decide) rfl rfl
  obtain ⟨r2, a2, b2, s2, t2, P2, q2⟩ := P1.sc (g := g) (n := x + 239 + 4) (c := 2) (by decide) rfl rfl
  obtain ⟨f1, e1, F1, o1⟩ := I_s8 S P2
  refine ⟨f1, ?_, F1, fun c hc => by rw [o1 c hc, q2 c hc, q1 c hc]⟩
  unfold p_X7_init_s7
  rw [r1, ob_s, ob_s, s1, ob_s]
  dsimp only
  rw [t1, ob_s, r2, ob_s, ob_s, s2, ob_s]
  dsimp only
  rw [t2, ob_s]
  exact e1
theorem I_s6 (S : StOK V g) (R : RD V f x mp_0 7 0) : ∃ f1, p_X7_init_s6 V g x f (x + 215) = some (f1, x + 315) ∧ FIN V f1 x ∧ ∀ c, (c < x ∨ x + 315 ≤ c) → f1 c = f c := by
  obtain ⟨r1, a1, b1, s1, t1, P1, q1⟩ := R.pa (g := g) (n := x + 215) (c := 7) (by decide) rfl rfl
  obtain ⟨r2, a2, b2, s2, t2, P2, q2⟩ := RD.sc (g := g) (n := x + 215 + 20) (c := 0) P1 (by decide) rfl rfl
  obtain ⟨f1, e1, F1, o1⟩ := I_s7 S P2
  refine ⟨f1, ?_, F1, fun c hc => by rw [o1 c hc, q2 c hc, q1 c hc]⟩
  unfold p_X7_init_s6
  rw [r1, ob_s, ob_s, s1, ob_s]
  dsimp only
  rw [t1, ob_s, r2, ob_s, ob_s, s2, ob_s]
  dsimp only
  rw [t2, ob_s]
  exact e1
theorem I_s5 (S : StOK V g) (R : RD V f x mp_0 5 0) : ∃ f1, p_X7_init_s5 V g x f (x + 175) = some (f1, x + 315) ∧ FIN V f1 x ∧ ∀ c, (c < x ∨ x + 315 ≤ c) → f1 c = f c := by
  obtain ⟨r1, a1, b1, s1, t1, P1, q1⟩ := R.pa (g := g) (n := x + 175) (c := 5) (by decide) rfl rfl
  obtain ⟨r2, a2, b2, s2, t2, P2, q2⟩ := P1.pa (g := g) (n := x + 175 + 20) (c := 6) (by decide) rfl rfl
  obtain ⟨f1, e1, F1, o1⟩ := I_s6 S P2
  refine ⟨f1, ?_, F1, fun c hc => by rw [o1 c hc, q2 c hc, q1 c hc]⟩
  unfold p_X7_init_s5
  rw [r1, ob_s, ob_s, s1, ob_s]
  dsimp only
  rw [t1, ob_s, r2, ob_s, ob_s, s2, ob_s]
  dsimp only
  rw [t2, ob_s]
  exact e1
theorem I_s4 (S : StOK V g) (R : RD V f x mp_0 3 0) : ∃ f1, p_X7_init_s4 V g x f (x + 135) = some (f1, x + 315) ∧ FIN V f1 x ∧ ∀ c, (c < x ∨ x + 315 ≤ c) → f1 c = f c := by
  obtain ⟨r1, a1, b1, s1, t1, P1, q1⟩ := R.pa (g := g) (n := x + 135) (c := 3) (by decide) rfl rfl
  obtain ⟨r2, a2, b2, s2, t2, P2, q2⟩ := P1.pa (g := g) (n := x + 135 + 20) (c := 4) (by decide) rfl rfl
  obtain ⟨f1, e1, F1, o1⟩ := I_s5 S P2
  refine ⟨f1, ?_, F1, fun c hc => by rw [o1 c hc, q2 c hc, q1 c hc]⟩
  unfold p_X7_init_s4
  rw [r1, ob_s, ob_s, s1, ob_s]
  dsimp only
  rw [t1, ob_s, r2, ob_s, ob_s, s2, ob_s]
  dsimp only
  rw [t2, ob_s]
  exact e1
theorem I_s3 (S : StOK V g) (R : RD V f x mp_0 1 0) : ∃ f1, p_X7_init_s3 V g x f (x + 95) = some (f1, x + 315) ∧ FIN V f1 x ∧ ∀ c, (c < x ∨ x + 315 ≤ c) → f1 c = f c := by
  obtain ⟨r1, a1, b1, s1, t1, P1, q1⟩ := R.pa (g := g) (n := x + 95) (c := 1) (by decide) rfl rfl
  obtain ⟨r2, a2, b2, s2, t2, P2, q2⟩ := P1.pa (g := g) (n := x + 95 + 20) (c := 2) (by decide) rfl rfl
  obtain ⟨f1, e1, F1, o1⟩ := I_s4 S P2
  refine ⟨f1, ?_, F1, fun c hc => by rw [o1 c hc, q2 c hc, q1 c hc]⟩
  unfold p_X7_init_s3
  rw [r1, ob_s, ob_s, s1, ob_s]
  dsimp only
  rw [t1, ob_s, r2, ob_s, ob_s, s2, ob_s]
  dsimp only
  rw [t2, ob_s]
  exact e1
end KB


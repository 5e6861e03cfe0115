/-! ===== a change of the reference's: what is told, what is left ===== -/
/-- what a change may leave: row 0 holds T, the history H; the kept row and the scratch coastline may differ -/
def CP (z : Nat → Int32) (A : Nat → Nat → Int32) (T : TS) (u : Nat) (H : Nat → TS) (z1 : Nat → Int32) (A1 : Nat → Nat → Int32) : Prop := z1 6 = nn u ∧ (∀ k, k ≠ 6 → k ≠ 7 → z1 k = z k) ∧ RT (A1 0) T ∧ HsA A1 u H ∧ ∀ j, j ≠ 0 → j ≠ 2 → j ≠ 4 → A1 j = A j
def kA (A : Nat → Nat → Int32) : Nat → Nat → Int32 := upA A 2 (va_cpy (A 0) (A 2) 0 0 1825)
def QC (V : Nat → Nat) (m : Nat) (f0 : GH) (z : Nat → Int32) (A : Nat → Nat → Int32) (T : TS) (u : Nat) (H : Nat → TS) (code ans : Int32) (T1 : TS) (r : Option (Int32 × GH)) : Prop := ∃ v z1 A1, r = some (v, mH V m 0 z1 A1 f0) ∧ z1 7 = code ∧ (code = 0 → v = ans ∧ CP z A T1 (h_pu u) (h_pH u H T) z1 A1) ∧ (code ≠ 0 → CP z A T u H z1 A1)
section QQ
variable {V : Nat → Nat} {g f0 : GH} {m : Nat} {z z2 : Nat → Int32} {A A1 : Nat → Nat → Int32} {T T1 : TS} {u i : Nat} {H : Nat → TS} {code ans : Int32}
theorem kA_0 : kA A 0 = A 0 := upA_n A _ (by decide)
theorem kA_rt (R : RT (A 0) T) : RT (kA A 0) T := by rw [kA_0]; exact R
theorem QC.lack (hc : code ≠ 0) (R : RT (A 0) T) (hz : z 6 = nn u) (hH : HsA A u H) {v : Int32} : QC V m f0 z A T u H code ans T1 (some (v, mH V m 0 (upd z 7 code) A f0)) :=
  ⟨v, _, _, rfl, upd_s _ _ _, fun e => absurd e hc, fun _ => ⟨(upd_n _ _ (by decide)).trans hz, fun k _ h => upd_n _ _ h, R, hH, fun _ _ _ _ => rfl⟩⟩
theorem QC.no (hc : code ≠ 0) (hv : TV T) (R : RT (A 0) T) (hz : z 6 = nn u) (hz2 : ∀ k, k ≠ 7 → z2 k = z k) (hH : HsA A u H) (s : SC 0 (kA A) A1) {v : Int32} : QC V m f0 z A T u H code ans T1 (some (v, mH V m 0 (upd z2 7 code) A1 f0)) := by
  refine ⟨v, _, _, rfl, upd_s _ _ _, fun e => absurd e hc, fun _ => ⟨(upd_n _ _ (by decide)).trans ((hz2 6 (by decide)).trans hz), fun k _ h => (upd_n _ _ h).trans (hz2 k h), s.rt (kA_rt R) hv, ?_, fun j h0 h2 _ => (s.rb j h0).trans (upA_n A _ h2)⟩⟩
  intro k hk
  rw [s.rb 4 (by decide), show kA A 4 = A 4 from upA_n A _ (by decide)]
  exact hH k hk
theorem upd_7 (k : Int32) : ∀ j, j ≠ 7 → upd z 7 k j = z j := fun _ h => upd_n _ _ h
theorem s_thr_t1 {b : Bool} : s_thr false b = 1 := rfl
theorem ts_set_c (T : TS) (i : Nat) (c : CS) : tC (ts_set T i c) i = c := if_pos rfl
theorem s_ref_c {v : Nat} {a p x w : Int32} (h1 : ¬ v ≤ 2) (h2 : v ≠ 11) (ha : inC (tN T) a = true) : s_ref v T a p x w = s_refC v (tC T (ix a)) p x w := by
  unfold s_ref
  rw [if_neg h1, if_neg h2, if_pos ha]
theorem s_ref_1 {v : Nat} {a p x w : Int32} (h1 : ¬ v ≤ 2) (h2 : v ≠ 11) (ha : inC (tN T) a = false) : s_ref v T a p x w = 1 := by
  unfold s_ref
  rw [if_neg h1, if_neg h2, if_neg (by rw [ha]; decide)]
theorem in00 : s_in (-(0 : Int32)) 0 0 = true := by decide
end QQ


/-! ===== changes, the reference's side: a coastline less, a coastline more, the metric ===== -/
/-- a coastline as it is told: in a row of its own from place o on -/
def RQ (s : Nat → Int32) (o : Nat) (c : CS) : Prop := s o = cI c ∧ s (o + 1) = nn (cN c) ∧ ∀ k, k < cN c → s (o + 2 + 2 * k) = cX c k ∧ s (o + 3 + 2 * k) = cY c k
theorem RQ.frame {r r1 : Nat → Int32} {o o1 : Nat} {c : CS} (h : RQ r o c) (hn : cN c ≤ 33) (e : ∀ k, k < 68 → r1 (o1 + k) = r (o + k)) : RQ r1 o1 c := by
  refine ⟨?_, ?_, fun k hk => ?_⟩
  · exact (e 0 (by omega)).trans h.1
  · exact (e 1 (by omega)).trans h.2.1
  · rw [show o1 + 2 + 2 * k = o1 + (2 + 2 * k) by omega, show o1 + 3 + 2 * k = o1 + (3 + 2 * k) by omega, e _ (by omega), e _ (by omega), show o + (2 + 2 * k) = o + 2 + 2 * k by omega, show o + (3 + 2 * k) = o + 3 + 2 * k by omega]
    exact h.2.2 k hk
section ME
variable {V : Nat → Nat} {g f0 : GH} {m b : Nat} {z : Nat → Int32} {A : Nat → Nat → Int32} {T : TS} {i : Nat} {c : CS}
theorem RT.told {r r1 : Nat → Int32} {A' : Int32} (R : RT r T) (hv : TV T) (h6 : tN T < 6) (hn : cN c ≤ 33) {s : Nat → Int32} (q : RQ s 0 c) (h0 : r1 0 = r 0) (h1 : r1 1 = nn (tN T + 1)) (h2 : r1 2 = r 2) (h3 : r1 3 = A') (h4 : r1 4 = r 4) (hc : ∀ k, k < 68 → r1 (5 + 260 * tN T + k) = s k) (ho : ∀ k, 5 ≤ k → k < 5 + 260 * tN T → r1 k = r k) : RT r1 (tN T + 1, tK T, tL T, A', tR T, fun j => if j = tN T then c else tC T j) := by
  refine ⟨h0.trans R.1, h1, h2.trans R.2.2.1, h3, h4.trans R.2.2.2.2.1, fun j hj => ?_⟩
  have hj : j < tN T + 1 := hj
  show RC r1 j (if j = tN T then c else tC T j)
  by_cases e : j = tN T
  · rw [if_pos e, e]
    refine ⟨(hc 0 (by omega)).trans q.1, ?_, fun k hk => ?_⟩
    · rw [show 6 + 260 * tN T = 5 + 260 * tN T + 1 by omega, hc 1 (by omega)]; exact q.2.1
    · rw [show 7 + 260 * tN T + 2 * k = 5 + 260 * tN T + (2 + 2 * k) by omega, show 8 + 260 * tN T + 2 * k = 5 + 260 * tN T + (3 + 2 * k) by omega, hc _ (by omega), hc _ (by omega)]
      have := q.2.2 k hk
      rw [show 0 + 2 + 2 * k = 2 + 2 * k by omega, show 0 + 3 + 2 * k = 3 + 2 * k by omega] at this
      exact this
  · rw [if_neg e]
    exact (R.2.2.2.2.2 j (by omega)).frame (hv.2.2 j (by omega)).n2 (fun k q1 q2 => ho k (by omega) (by omega))
theorem RT.met (R : RT (A b) T) (hv : TV T) (k : Int32) : RT (upd (A b) 0 k) (ts_met T k) :=
  ⟨upd_s _ _ _, (upd_n _ _ (by decide)).trans R.2.1, (upd_n _ _ (by decide)).trans R.2.2.1, (upd_n _ _ (by decide)).trans R.2.2.2.1, (upd_n _ _ (by decide)).trans R.2.2.2.2.1, fun j hj => (R.2.2.2.2.2 j hj).frame (hv.2.2 j hj).n2 (fun q q1 q2 => upd_n _ _ (by omega))⟩
end ME


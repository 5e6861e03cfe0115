/-! ===== further rows ===== -/
def h_ddiv (x y : UInt64) : Option UInt64 := if FP.ddiv x y &&& 0x7fffffffffffffff ≤ 0x7ff0000000000000 then some (FP.ddiv x y) else none
theorem h_ddiv_eq {x y v : UInt64} (h : h_ddiv x y = some v) : v = FP.ddiv x y ∧ vf_n64 (FP.ddiv x y) := by
  unfold h_ddiv at h
  split at h
  · rename_i hc
    cases h
    exact ⟨rfl, hc⟩
  · cases h
def h_fdiv (x y : UInt32) : Option UInt32 := if FP.fdiv x y &&& 0x7fffffff ≤ 0x7f800000 then some (FP.fdiv x y) else none
theorem h_fdiv_eq {x y v : UInt32} (h : h_fdiv x y = some v) : v = FP.fdiv x y ∧ vf_n32 (FP.fdiv x y) := by
  unfold h_fdiv at h
  split at h
  · rename_i hc
    cases h
    exact ⟨rfl, hc⟩
  · cases h

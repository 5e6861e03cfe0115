theorem xat_RX7_319 : ∀ w ∈ vx_atS RX7 319 "java/lang/IndexOutOfBoundsException" ["java/lang/RuntimeException", "java/lang/Exception"], w ∈ g_B ∨ w ∈ g_nw := by decide +kernel
theorem xgd_RX7_319 {ik : Nat} : ∀ w ∈ Cond.classLink RX7 ik "java/lang/IndexOutOfBoundsException" :: Cond.initialized "java/lang/IndexOutOfBoundsException" :: vx_atS RX7 319 "java/lang/IndexOutOfBoundsException" ["java/lang/RuntimeException", "java/lang/Exception"], vx_ot w = true := by
  intro w hw
  rcases List.mem_cons.mp hw with rfl | hw
  · rfl
  · rcases List.mem_cons.mp hw with rfl | hw
    · rfl
    · exact (by decide +kernel : ∀ w ∈ vx_atS RX7 319 "java/lang/IndexOutOfBoundsException" ["java/lang/RuntimeException", "java/lang/Exception"], vx_ot w = true) w hw
theorem xat_RX7_330 : ∀ w ∈ vx_atS RX7 330 "java/lang/IllegalStateException" ["java/lang/RuntimeException", "java/lang/Exception"], w ∈ g_B ∨ w ∈ g_nw := by decide +kernel
theorem xgd_RX7_330 {ik : Nat} : ∀ w ∈ Cond.classLink RX7 ik "java/lang/IllegalStateException" :: Cond.initialized "java/lang/IllegalStateException" :: vx_atS RX7 330 "java/lang/IllegalStateException" ["java/lang/RuntimeException", "java/lang/Exception"], vx_ot w = true := by
  intro w hw
  rcases List.mem_cons.mp hw with rfl | hw
  · rfl
  · rcases List.mem_cons.mp hw with rfl | hw
    · rfl
    · exact (by decide +kernel : ∀ w ∈ vx_atS RX7 330 "java/lang/IllegalStateException" ["java/lang/RuntimeException", "java/lang/Exception"], vx_ot w = true) w hw
theorem xat_RX7_350 : ∀ w ∈ vx_atS RX7 350 "java/lang/IllegalArgumentException" ["java/lang/RuntimeException", "java/lang/Exception"], w ∈ g_B ∨ w ∈ g_nw := by decide +kernel
theorem xgd_RX7_350 {ik : Nat} : ∀ w ∈ Cond.classLink RX7 ik "java/lang/IllegalArgumentException" :: Cond.initialized "java/lang/IllegalArgumentException" :: vx_atS RX7 350 "java/lang/IllegalArgumentException" ["java/lang/RuntimeException", "java/lang/Exception"], vx_ot w = true := by
  intro w hw
  rcases List.mem_cons.mp hw with rfl | hw
  · rfl
  · rcases List.mem_cons.mp hw with rfl | hw
    · rfl
    · exact (by decide +kernel : ∀ w ∈ vx_atS RX7 350 "java/lang/IllegalArgumentException" ["java/lang/RuntimeException", "java/lang/Exception"], vx_ot w = true) w hw

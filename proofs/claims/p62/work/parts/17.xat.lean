theorem g_rtq {A : Nat → Prop} {V : Nat → Nat} {g f : GH} {D : va_G} {cT : Nat → ClassId} {n : Nat} {s : State} {H : Heap} {locs : List Loc} (hI : g_at A V g D cT f n s H locs) {i : Nat} {a tx : String} {b k : Nat} (h : g_rt[i]? = some (a, b, tx, k)) : vk_R a b tx (V k) s := g_rtx hI h
theorem rt_0 : g_rt[0]? = some ("CoastlineRuler", 348, "an argument is out of range", 21) := rfl
theorem rt_1 : g_rt[1]? = some ("CoastlineRuler$Grammar", 23, "map", 23) := rfl
theorem rt_2 : g_rt[2]? = some ("CoastlineRuler$Grammar", 97, "king", 24) := rfl
theorem rt_3 : g_rt[3]? = some ("CoastlineRuler$Grammar", 99, "taxicab", 25) := rfl
theorem rt_4 : g_rt[4]? = some ("CoastlineRuler$Grammar", 108, "island", 26) := rfl
theorem rt_5 : g_rt[5]? = some ("CoastlineRuler$Grammar", 116, "shore", 27) := rfl
theorem rt_6 : g_rt[6]? = some ("CoastlineRuler", 328, "nothing to undo", 38) := rfl
theorem rt_7 : g_rt[7]? = some ("CoastlineRuler", 334, "there is no snapshot", 39) := rfl
theorem rt_8 : g_rt[8]? = some ("CoastlineRuler", 340, "no such coastline", 28) := rfl
theorem rt_9 : g_rt[9]? = some ("CoastlineRuler", 342, "no such point", 29) := rfl
theorem rt_10 : g_rt[10]? = some ("CoastlineRuler", 344, "the coastline is a shore", 30) := rfl
theorem rt_11 : g_rt[11]? = some ("CoastlineRuler", 351, "no such coastline or point", 20) := rfl
theorem rt_12 : g_rt[12]? = some ("CoastlineRuler", 353, "the map does not allow this change", 22) := rfl
theorem rt_13 : g_rt[13]? = some ("CoastlineRulerLaw", 169, "island ", 50) := rfl
theorem rt_14 : g_rt[14]? = some ("CoastlineRulerLaw", 171, "shore ", 51) := rfl
theorem rt_15 : g_rt[15]? = some ("CoastlineRulerLaw", 180, " ", 52) := rfl
theorem rt_16 : g_rt[16]? = some ("CoastlineRulerLaw", 182, ",", 53) := rfl
theorem rt_17 : g_rt[17]? = some ("CoastlineRulerLaw", 184, " -", 54) := rfl
theorem rt_18 : g_rt[18]? = some ("CoastlineRulerLaw", 243, "map king;", 55) := rfl
theorem rt_19 : g_rt[19]? = some ("CoastlineRulerLaw", 245, "map taxicab;", 56) := rfl
theorem rt_20 : g_rt[20]? = some ("CoastlineRulerLaw", 250, "", 57) := rfl
theorem rt_21 : g_rt[21]? = some ("CoastlineRulerLaw", 252, "-", 58) := rfl
theorem rt_22 : g_rt[22]? = some ("CoastlineRuler$Verb", 110, "metric", 48) := rfl
theorem rt_23 : g_rt[23]? = some ("CoastlineRuler$Verb", 86, "fold", 40) := rfl
theorem rt_24 : g_rt[24]? = some ("CoastlineRuler$Verb", 95, "insert", 43) := rfl
theorem rt_25 : g_rt[25]? = some ("CoastlineRuler$Verb", 89, "unfold", 41) := rfl
theorem rt_26 : g_rt[26]? = some ("CoastlineRuler$Verb", 77, "shore", 27) := rfl
theorem rt_27 : g_rt[27]? = some ("CoastlineRuler$Verb", 92, "move", 42) := rfl
theorem rt_28 : g_rt[28]? = some ("CoastlineRuler$Verb", 98, "drop", 44) := rfl
theorem rt_29 : g_rt[29]? = some ("CoastlineRuler$Verb", 101, "shift", 45) := rfl
theorem rt_30 : g_rt[30]? = some ("CoastlineRuler$Verb", 104, "reverse", 46) := rfl
theorem rt_31 : g_rt[31]? = some ("CoastlineRuler$Verb", 107, "remove", 47) := rfl
theorem rt_32 : g_rt[32]? = some ("CoastlineRuler$Verb", 83, "island", 26) := rfl
theorem xat_RX7_319 : ∀ w ∈ vx_atS RX7 319 "java/lang/IndexOutOfBoundsException" ["java/lang/RuntimeException", "java/lang/Exception"], w ∈ g_B ∨ w ∈ g_nw := by decide +kernel
theorem xgd_RX7_319 {ik : Nat} : ∀ w ∈ Cond.classLink RX7 ik "java/lang/IndexOutOfBoundsException" :: Cond.initialized "java/lang/IndexOutOfBoundsException" :: vx_atS RX7 319 "java/lang/IndexOutOfBoundsException" ["java/lang/RuntimeException", "java/lang/Exception"], vx_ot w = true := by
  intro w hw
  rcases List.mem_cons.mp hw with rfl | hw
  · rfl
  · rcases List.mem_cons.mp hw with rfl | hw
    · rfl
    · exact (by decide +kernel : ∀ w ∈ vx_atS RX7 319 "java/lang/IndexOutOfBoundsException" ["java/lang/RuntimeException", "java/lang/Exception"], vx_ot w = true) w hw
theorem xat_RX7_330 : ∀ w ∈ vx_atS RX7 330 "java/lang/IllegalStateException" ["java/lang/RuntimeException", "java/lang/Exception"], w ∈ g_B ∨ w ∈ g_nw := by decide +kernel
theorem xgd_RX7_330 {ik : Nat} : ∀ w ∈ Cond.classLink RX7 ik "java/lang/IllegalStateException" :: Cond.initialized "java/lang/IllegalStateException" :: vx_atS RX7 330 "java/lang/IllegalStateException" ["java/lang/RuntimeException", "java/lang/Exception"], vx_ot w = true := by
  intro w hw
  rcases List.mem_cons.mp hw with rfl | hw
  · rfl
  · rcases List.mem_cons.mp hw with rfl | hw
    · rfl
    · exact (by decide +kernel : ∀ w ∈ vx_atS RX7 330 "java/lang/IllegalStateException" ["java/lang/RuntimeException", "java/lang/Exception"], vx_ot w = true) w hw
theorem xat_RX7_350 : ∀ w ∈ vx_atS RX7 350 "java/lang/IllegalArgumentException" ["java/lang/RuntimeException", "java/lang/Exception"], w ∈ g_B ∨ w ∈ g_nw := by decide +kernel
theorem xgd_RX7_350 {ik : Nat} : ∀ w ∈ Cond.classLink RX7 ik "java/lang/IllegalArgumentException" :: Cond.initialized "java/lang/IllegalArgumentException" :: vx_atS RX7 350 "java/lang/IllegalArgumentException" ["java/lang/RuntimeException", "java/lang/Exception"], vx_ot w = true := by
  intro w hw
  rcases List.mem_cons.mp hw with rfl | hw
  · rfl
  · rcases List.mem_cons.mp hw with rfl | hw
    · rfl
    · exact (by decide +kernel : ∀ w ∈ vx_atS RX7 350 "java/lang/IllegalArgumentException" ["java/lang/RuntimeException", "java/lang/Exception"], vx_ot w = true) w hw

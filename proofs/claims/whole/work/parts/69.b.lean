/-! ===== the statics of this claim ===== -/
def st_nl : List Cond := flatC (Jvm.Cond.and given_1 narrow_1)
def st_vn : List String := ["SHORE", "ISLAND", "FOLD", "UNFOLD", "MOVE", "INSERT", "DROP", "SHIFT", "REVERSE", "REMOVE", "METRIC"]
def st_vt (i : Nat) : Term := .static "CoastlineRuler$Verb" (st_vn.getD i "") "LCoastlineRuler$Verb;"
def st_so : List (String × Nat) := [("CoastlineRuler", 351), ("CoastlineRuler", 348), ("CoastlineRuler", 353), ("CoastlineRuler$Grammar", 23), ("CoastlineRuler$Grammar", 97), ("CoastlineRuler$Grammar", 99), ("CoastlineRuler$Grammar", 108), ("CoastlineRuler$Grammar", 116), ("CoastlineRuler", 340), ("CoastlineRuler", 342), ("CoastlineRuler", 344), ("java/lang/StringIndexOutOfBoundsException", 13), ("java/util/Arrays", 337), ("java/util/Arrays", 48), ("java/util/Arrays", 57), ("java/util/Arrays", 59), ("java/lang/ArrayIndexOutOfBoundsException", 13), ("CoastlineRuler", 317), ("CoastlineRuler", 328), ("CoastlineRuler", 334), ("CoastlineRulerModel", 46), ("CoastlineRulerModel", 48), ("CoastlineRulerModel", 50), ("CoastlineRulerModel", 52), ("CoastlineRulerModel", 54), ("CoastlineRulerModel", 56), ("CoastlineRulerModel", 58), ("CoastlineRulerModel", 60), ("CoastlineRulerModel", 62), ("CoastlineRulerModel", 64), ("CoastlineRulerModel", 66), ("CoastlineRulerModel", 404), ("CoastlineRulerModel", 400), ("CoastlineRulerModel", 402), ("CoastlineRuler$Verb", 110), ("CoastlineRuler$Verb", 95), ("CoastlineRuler$Verb", 77), ("CoastlineRuler$Verb", 107), ("CoastlineRuler$Verb", 86), ("CoastlineRuler$Verb", 89), ("CoastlineRuler$Verb", 92), ("CoastlineRuler$Verb", 98), ("CoastlineRuler$Verb", 101), ("CoastlineRuler$Verb", 104), ("CoastlineRuler$Verb", 83)]
def st_sr (i : Nat) : Term := .string (st_so.getD i ("", 0)).1 (st_so.getD i ("", 0)).2
def st_sv (i : Nat) : Term := .field (st_sr i) "java/lang/String" "value" "[B"
def st_rep : List Nat := [0, 1, 2, 3, 4, 5, 6, 7, 8, 9, 10, 11, 12, 13, 14, 15, 16, 17, 18, 19, 21, 22, 23, 24, 25, 26, 27, 28, 29]
def st_wr : List Nat := [3, 4, 5, 7, 6, 21, 22, 23, 24, 25, 26, 27, 28, 29]
def st_wi : List Nat := [23, 24, 25, 27, 26, 40, 41, 42, 43, 44, 45, 46, 47, 48]
def tm_all : Term := .static "CoastlineRuler$Verb" "ALL" "[LCoastlineRuler$Verb;"
def tm_sw : Term := .static "CoastlineRuler$1" "$SwitchMap$CoastlineRuler$Verb" "[I"
def tm_c0 : Term := .static "CoastlineRuler" "FIRST_COAST" "[I"
def tm_c1 : Term := .static "CoastlineRuler" "SECOND_COAST" "[I"
def tm_c2 : Term := .static "CoastlineRuler" "THIRD_COAST" "[I"
def tm_ones : Term := .static "java/lang/Integer" "DigitOnes" "[B"
def tm_tens : Term := .static "java/lang/Integer" "DigitTens" "[B"
def tm_f : Term := .static "jdk/internal/util/Preconditions" "SIOOBE_FORMATTER" "Ljava/util/function/BiFunction;"
def st_ad (args : Array Value) (s : State) (t : Term) : Nat := match t.eval args s none [] s with
  | some (.ref a) => a
  | _ => 0
def st_fo (args : Array Value) (s : State) : Nat := match tm_f.eval args s none [] s with
  | some (.ref a) => a + 1
  | _ => 0
def st_V (args : Array Value) (s : State) (k : Nat) : Nat :=
  if k = 0 then s.heap.size else if k < 12 then st_ad args s (st_vt (k - 1)) else if k = 12 then st_ad args s tm_all else if k = 13 then st_ad args s tm_sw else if k = 14 then st_ad args s tm_c0 else if k = 15 then st_ad args s tm_c1 else if k = 16 then st_ad args s tm_c2 else if k = 17 then st_ad args s tm_ones else if k = 18 then st_ad args s tm_tens else if k = 19 then st_fo args s else if k < 70 then st_ad args s (st_sr (st_rep.getD (k - 20) 0)) else st_ad args s (st_sv (st_wr.getD (k - 70) 0))
theorem st_ad_eq {args : Array Value} {s : State} {t : Term} {a : Nat} (h : t.eval args s none [] s = some (.ref a)) : st_ad args s t = a := by
  unfold st_ad
  rw [h]
theorem st_V_v {args : Array Value} {s : State} {i : Nat} (h : i < 11) : st_V args s (1 + i) = st_ad args s (st_vt i) := by
  unfold st_V
  rw [if_neg (by omega), if_pos (by omega), show 1 + i - 1 = i by omega]
theorem st_V_s {args : Array Value} {s : State} {i : Nat} (h : i < 29) : st_V args s (20 + i) = st_ad args s (st_sr (st_rep.getD i 0)) := by
  unfold st_V
  rw [if_neg (by omega), if_neg (by omega)]
  rw [if_neg (by omega)]
  rw [if_neg (by omega)]
  rw [if_neg (by omega)]
  rw [if_neg (by omega)]
  rw [if_neg (by omega)]
  rw [if_neg (by omega)]
  rw [if_neg (by omega)]
  rw [if_neg (by omega)]
  rw [if_pos (by omega), show 20 + i - 20 = i by omega]
theorem st_V_w {args : Array Value} {s : State} {i : Nat} : st_V args s (70 + i) = st_ad args s (st_sv (st_wr.getD i 0)) := by
  unfold st_V
  rw [if_neg (by omega), if_neg (by omega)]
  rw [if_neg (by omega)]
  rw [if_neg (by omega)]
  rw [if_neg (by omega)]
  rw [if_neg (by omega)]
  rw [if_neg (by omega)]
  rw [if_neg (by omega)]
  rw [if_neg (by omega)]
  rw [if_neg (by omega)]
  rw [if_neg (by omega)]
  rw [show 70 + i - 70 = i by omega]
theorem fx_v : ∀ i, i < 11 → st_nl[([89, 395, 108, 119, 131, 45, 144, 158, 173, 98, 4] : List Nat).getD i 0]? = some (.exactly (st_vt i) "CoastlineRuler$Verb") := by decide +kernel
def vl_ordinal : List Int32 := [0, 1, 2, 3, 4, 5, 6, 7, 8, 9, 10]
theorem fx_ordinal : ∀ i, i < 11 → st_nl[([90, 396, 109, 120, 132, 46, 145, 159, 174, 99, 5] : List Nat).getD i 0]? = some (.eq (.field (st_vt i) "java/lang/Enum" "ordinal" "I") (.int (vl_ordinal.getD i 0))) := by decide +kernel
def vl_isCoast : List Int32 := [1, 1, 0, 0, 0, 0, 0, 0, 0, 0, 0]
theorem fx_isCoast : ∀ i, i < 11 → st_nl[([92, 398, 111, 122, 134, 48, 147, 161, 176, 101, 7] : List Nat).getD i 0]? = some (.eq (.field (st_vt i) "CoastlineRuler$Verb" "isCoast" "Z") (.int (vl_isCoast.getD i 0))) := by decide +kernel
def vl_hasPoint : List Int32 := [0, 0, 0, 0, 1, 1, 1, 0, 0, 0, 0]
theorem fx_hasPoint : ∀ i, i < 11 → st_nl[([93, 399, 112, 123, 135, 49, 148, 162, 177, 102, 8] : List Nat).getD i 0]? = some (.eq (.field (st_vt i) "CoastlineRuler$Verb" "hasPoint" "Z") (.int (vl_hasPoint.getD i 0))) := by decide +kernel
def vl_integers : List Int32 := [0, 0, 1, 0, 2, 2, 0, 2, 0, 0, 0]
theorem fx_integers : ∀ i, i < 11 → st_nl[([94, 400, 113, 124, 136, 50, 149, 163, 178, 103, 9] : List Nat).getD i 0]? = some (.eq (.field (st_vt i) "CoastlineRuler$Verb" "integers" "I") (.int (vl_integers.getD i 0))) := by decide +kernel
def vl_limit : List Int32 := [0, 0, 50, 0, 1000, 1000, 0, 2000, 0, 0, 0]
theorem fx_limit : ∀ i, i < 11 → st_nl[([95, 401, 114, 125, 137, 51, 150, 164, 179, 104, 10] : List Nat).getD i 0]? = some (.eq (.field (st_vt i) "CoastlineRuler$Verb" "limit" "I") (.int (vl_limit.getD i 0))) := by decide +kernel
def vl_wk : List Nat := [36, 44, 38, 39, 40, 35, 41, 42, 43, 37, 34]
def vl_ws : List Nat := [27, 26, 40, 41, 42, 43, 44, 45, 46, 47, 48]
theorem fx_word : ∀ i, i < 11 → st_nl[([91, 397, 110, 121, 133, 47, 146, 160, 175, 100, 6] : List Nat).getD i 0]? = some (.eq (.field (st_vt i) "CoastlineRuler$Verb" "word" "Ljava/lang/String;") (st_sr (vl_wk.getD i 0))) := by decide +kernel
theorem fx_s : ∀ i, i < 45 → st_nl[([497, 527, 558, 596, 603, 611, 622, 632, 641, 662, 679, 707, 738, 745, 759, 775, 780, 810, 840, 859, 883, 893, 901, 911, 919, 929, 937, 946, 957, 967, 977, 988, 996, 1005, 1017, 1028, 1039, 1050, 1061, 1070, 1081, 1090, 1099, 1109, 1121] : List Nat).getD i 0]? = some (.exactly (st_sr i) "java/lang/String") := by decide +kernel
def wl_len : List Nat := [3, 4, 7, 5, 6, 4, 6, 4, 6, 4, 5, 7, 6, 6]
def wl_byt : List (List Int32) := [[109, 97, 112], [107, 105, 110, 103], [116, 97, 120, 105, 99, 97, 98], [115, 104, 111, 114, 101], [105, 115, 108, 97, 110, 100], [102, 111, 108, 100], [117, 110, 102, 111, 108, 100], [109, 111, 118, 101], [105, 110, 115, 101, 114, 116], [100, 114, 111, 112], [115, 104, 105, 102, 116], [114, 101, 118, 101, 114, 115, 101], [114, 101, 109, 111, 118, 101], [109, 101, 116, 114, 105, 99]]
theorem fx_wl : ∀ i, i < 14 → st_nl[([599, 606, 614, 635, 625, 896, 904, 914, 922, 932, 940, 949, 960, 970] : List Nat).getD i 0]? = some (.eq (.length (st_sv (st_wr.getD i 0))) (.int (Int32.ofNat (wl_len.getD i 0)))) := by decide +kernel
theorem fx_wa : ∀ i, i < 14 → st_nl[([598, 605, 613, 634, 624, 895, 903, 913, 921, 931, 939, 948, 959, 969] : List Nat).getD i 0]? = some (.arrayOf (st_sv (st_wr.getD i 0)) .byte) := by decide +kernel
theorem fx_wc : ∀ i, i < 14 → st_nl[([597, 604, 612, 633, 623, 894, 902, 912, 920, 930, 938, 947, 958, 968] : List Nat).getD i 0]? = some (.eq (.field (st_sr (st_wr.getD i 0)) "java/lang/String" "coder" "B") (.int 0)) := by decide +kernel
theorem fx_we : ∀ i, i < 14 → ∀ j, j < wl_len.getD i 0 → st_nl[(([[600, 601, 602], [607, 608, 609, 610], [615, 616, 617, 618, 619, 620, 621], [636, 637, 638, 639, 640], [626, 627, 628, 629, 630, 631], [897, 898, 899, 900], [905, 906, 907, 908, 909, 910], [915, 916, 917, 918], [923, 924, 925, 926, 927, 928], [933, 934, 935, 936], [941, 942, 943, 944, 945], [950, 951, 952, 953, 954, 955, 956], [961, 962, 963, 964, 965, 966], [971, 972, 973, 974, 975, 976]] : List (List Nat)).getD i []).getD j 0]? = some (.eq (.elem (st_sv (st_wr.getD i 0)) (.int (Int32.ofNat j))) (.int ((wl_byt.getD i []).getD j 0))) := by decide +kernel
theorem fx_all : ∀ i, i < 11 → st_nl[([78, 79, 80, 81, 82, 83, 84, 85, 86, 87, 88] : List Nat).getD i 0]? = some (.eq (.elem tm_all (.int (Int32.ofNat i))) (st_vt i)) := by decide +kernel
def al_sw : List Int32 := [6, 7, 1, 2, 10, 3, 4, 5, 11, 9, 8]
theorem fx_sw : ∀ i, i < 11 → st_nl[([56, 57, 58, 59, 60, 61, 62, 63, 64, 65, 66] : List Nat).getD i 0]? = some (.eq (.elem tm_sw (.int (Int32.ofNat i))) (.int (al_sw.getD i 0))) := by decide +kernel
def al_c0 : List Int32 := [0, 0, 4, 3, 8, 0, 12, 5, 20, 5]
theorem fx_c0 : ∀ i, i < 10 → st_nl[([15, 16, 17, 18, 19, 20, 21, 22, 23, 24] : List Nat).getD i 0]? = some (.eq (.elem tm_c0 (.int (Int32.ofNat i))) (.int (al_c0.getD i 0))) := by decide +kernel
def al_c1 : List Int32 := [30, 0, 50, 0, 50, 20, 30, 20]
theorem fx_c1 : ∀ i, i < 8 → st_nl[([28, 29, 30, 31, 32, 33, 34, 35] : List Nat).getD i 0]? = some (.eq (.elem tm_c1 (.int (Int32.ofNat i))) (.int (al_c1.getD i 0))) := by decide +kernel
def al_c2 : List Int32 := [35, 5, 45, 5, 40, 15]
theorem fx_c2 : ∀ i, i < 6 → st_nl[([39, 40, 41, 42, 43, 44] : List Nat).getD i 0]? = some (.eq (.elem tm_c2 (.int (Int32.ofNat i))) (.int (al_c2.getD i 0))) := by decide +kernel
def al_ones : List Int32 := [48, 49, 50, 51, 52, 53, 54, 55, 56, 57, 48, 49, 50, 51, 52, 53, 54, 55, 56, 57, 48, 49, 50, 51, 52, 53, 54, 55, 56, 57, 48, 49, 50, 51, 52, 53, 54, 55, 56, 57, 48, 49, 50, 51, 52, 53, 54, 55, 56, 57, 48, 49, 50, 51, 52, 53, 54, 55, 56, 57, 48, 49, 50, 51, 52, 53, 54, 55, 56, 57, 48, 49, 50, 51, 52, 53, 54, 55, 56, 57, 48, 49, 50, 51, 52, 53, 54, 55, 56, 57, 48, 49, 50, 51, 52, 53, 54, 55, 56, 57]
theorem fx_ones : ∀ i, i < 100 → st_nl[([192, 193, 194, 195, 196, 197, 198, 199, 200, 201, 202, 203, 204, 205, 206, 207, 208, 209, 210, 211, 212, 213, 214, 215, 216, 217, 218, 219, 220, 221, 222, 223, 224, 225, 226, 227, 228, 229, 230, 231, 232, 233, 234, 235, 236, 237, 238, 239, 240, 241, 242, 243, 244, 245, 246, 247, 248, 249, 250, 251, 252, 253, 254, 255, 256, 257, 258, 259, 260, 261, 262, 263, 264, 265, 266, 267, 268, 269, 270, 271, 272, 273, 274, 275, 276, 277, 278, 279, 280, 281, 282, 283, 284, 285, 286, 287, 288, 289, 290, 291] : List Nat).getD i 0]? = some (.eq (.elem tm_ones (.int (Int32.ofNat i))) (.int (al_ones.getD i 0))) := by decide +kernel
def al_tens : List Int32 := [48, 48, 48, 48, 48, 48, 48, 48, 48, 48, 49, 49, 49, 49, 49, 49, 49, 49, 49, 49, 50, 50, 50, 50, 50, 50, 50, 50, 50, 50, 51, 51, 51, 51, 51, 51, 51, 51, 51, 51, 52, 52, 52, 52, 52, 52, 52, 52, 52, 52, 53, 53, 53, 53, 53, 53, 53, 53, 53, 53, 54, 54, 54, 54, 54, 54, 54, 54, 54, 54, 55, 55, 55, 55, 55, 55, 55, 55, 55, 55, 56, 56, 56, 56, 56, 56, 56, 56, 56, 56, 57, 57, 57, 57, 57, 57, 57, 57, 57, 57]
theorem fx_tens : ∀ i, i < 100 → st_nl[([295, 296, 297, 298, 299, 300, 301, 302, 303, 304, 305, 306, 307, 308, 309, 310, 311, 312, 313, 314, 315, 316, 317, 318, 319, 320, 321, 322, 323, 324, 325, 326, 327, 328, 329, 330, 331, 332, 333, 334, 335, 336, 337, 338, 339, 340, 341, 342, 343, 344, 345, 346, 347, 348, 349, 350, 351, 352, 353, 354, 355, 356, 357, 358, 359, 360, 361, 362, 363, 364, 365, 366, 367, 368, 369, 370, 371, 372, 373, 374, 375, 376, 377, 378, 379, 380, 381, 382, 383, 384, 385, 386, 387, 388, 389, 390, 391, 392, 393, 394] : List Nat).getD i 0]? = some (.eq (.elem tm_tens (.int (Int32.ofNat i))) (.int (al_tens.getD i 0))) := by decide +kernel

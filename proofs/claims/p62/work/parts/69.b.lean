/-! ===== the statics of this claim ===== -/
def st_nl : List Cond := flatC (Jvm.Cond.and given_1 narrow_1)
def st_vn : List String := ["SHORE", "ISLAND", "FOLD", "UNFOLD", "MOVE", "INSERT", "DROP", "SHIFT", "REVERSE", "REMOVE", "METRIC"]
def st_vt (i : Nat) : Term := .static "CoastlineRuler$Verb" (st_vn.getD i "") "LCoastlineRuler$Verb;"
def st_so : List (String × Nat) := [("CoastlineRuler", 348), ("CoastlineRuler$Grammar", 23), ("CoastlineRuler$Grammar", 97), ("CoastlineRuler$Grammar", 99), ("CoastlineRuler$Grammar", 108), ("CoastlineRuler$Grammar", 116), ("CoastlineRuler", 328), ("CoastlineRuler", 334), ("CoastlineRuler", 340), ("CoastlineRuler", 342), ("CoastlineRuler", 344), ("CoastlineRuler", 351), ("CoastlineRuler", 353), ("CoastlineRulerLaw", 169), ("CoastlineRulerLaw", 171), ("CoastlineRulerLaw", 180), ("CoastlineRulerLaw", 182), ("CoastlineRulerLaw", 184), ("CoastlineRulerLaw", 243), ("CoastlineRulerLaw", 245), ("CoastlineRulerLaw", 250), ("CoastlineRulerLaw", 252), ("CoastlineRuler$Verb", 110), ("CoastlineRuler$Verb", 86), ("CoastlineRuler$Verb", 95), ("CoastlineRuler$Verb", 89), ("CoastlineRuler$Verb", 77), ("CoastlineRuler$Verb", 92), ("CoastlineRuler$Verb", 98), ("CoastlineRuler$Verb", 101), ("CoastlineRuler$Verb", 104), ("CoastlineRuler$Verb", 107), ("CoastlineRuler$Verb", 83)]
def st_sr (i : Nat) : Term := .string (st_so.getD i ("", 0)).1 (st_so.getD i ("", 0)).2
def st_sv (i : Nat) : Term := .field (st_sr i) "java/lang/String" "value" "[B"
def st_rep : List Nat := [11, 0, 12, 1, 2, 3, 4, 5, 8, 9, 10, 0, 0, 0, 0, 0, 0, 0, 6, 7, 23, 25, 27, 24, 28, 29, 30, 31, 22, 0, 13, 14, 15, 16, 17, 18, 19, 20, 21]
def st_wr : List Nat := [1, 2, 3, 5, 4, 23, 25, 27, 24, 28, 29, 30, 31, 22, 13, 14, 15, 16, 17, 18, 19, 20, 21]
def st_wi : List Nat := [23, 24, 25, 27, 26, 40, 41, 42, 43, 44, 45, 46, 47, 48, 50, 51, 52, 53, 54, 55, 56, 57, 58]
def tm_all : Term := .static "CoastlineRuler$Verb" "ALL" "[LCoastlineRuler$Verb;"
def tm_sw : Term := .static "CoastlineRuler$1" "$SwitchMap$CoastlineRuler$Verb" "[I"
def tm_c0 : Term := .static "CoastlineRuler" "FIRST_COAST" "[I"
def tm_c1 : Term := .static "CoastlineRuler" "SECOND_COAST" "[I"
def tm_c2 : Term := .static "CoastlineRuler" "THIRD_COAST" "[I"
def tm_ones : Term := .static "java/lang/Integer" "DigitOnes" "[B"
def tm_tens : Term := .static "java/lang/Integer" "DigitTens" "[B"
def tm_f : Term := .static "jdk/internal/util/Preconditions" "SIOOBE_FORMATTER" "Ljava/util/function/BiFunction;"
def st_ad (args : Array Value) (s : State) (t : Term) : Nat := match t.eval args s none [] s with
  | some (.ref a) => a
  | _ => 0
def st_fo (args : Array Value) (s : State) : Nat := match tm_f.eval args s none [] s with
  | some (.ref a) => a + 1
  | _ => 0
def st_V (args : Array Value) (s : State) (k : Nat) : Nat :=
  if k = 0 then s.heap.size else if k < 12 then st_ad args s (st_vt (k - 1)) else if k = 12 then st_ad args s tm_all else if k = 13 then st_ad args s tm_sw else if k = 14 then st_ad args s tm_c0 else if k = 15 then st_ad args s tm_c1 else if k = 16 then st_ad args s tm_c2 else if k = 17 then st_ad args s tm_ones else if k = 18 then st_ad args s tm_tens else if k = 19 then st_fo args s else if k < 70 then st_ad args s (st_sr (st_rep.getD (k - 20) 0)) else st_ad args s (st_sv (st_wr.getD (k - 70) 0))
theorem st_ad_eq {args : Array Value} {s : State} {t : Term} {a : Nat} (h : t.eval args s none [] s = some (.ref a)) : st_ad args s t = a := by
  unfold st_ad
  rw [h]
theorem st_V_v {args : Array Value} {s : State} {i : Nat} (h : i < 11) : st_V args s (1 + i) = st_ad args s (st_vt i) := by
  unfold st_V
  rw [if_neg (by omega), if_pos (by omega), show 1 + i - 1 = i by omega]
theorem st_V_s {args : Array Value} {s : State} {i : Nat} (h : i < 39) : st_V args s (20 + i) = st_ad args s (st_sr (st_rep.getD i 0)) := by
  unfold st_V
  rw [if_neg (by omega), if_neg (by omega)]
  rw [if_neg (by omega)]
  rw [if_neg (by omega)]
  rw [if_neg (by omega)]
  rw [if_neg (by omega)]
  rw [if_neg (by omega)]
  rw [if_neg (by omega)]
  rw [if_neg (by omega)]
  rw [if_neg (by omega)]
  rw [if_pos (by omega), show 20 + i - 20 = i by omega]
theorem st_V_w {args : Array Value} {s : State} {i : Nat} : st_V args s (70 + i) = st_ad args s (st_sv (st_wr.getD i 0)) := by
  unfold st_V
  rw [if_neg (by omega), if_neg (by omega)]
  rw [if_neg (by omega)]
  rw [if_neg (by omega)]
  rw [if_neg (by omega)]
  rw [if_neg (by omega)]
  rw [if_neg (by omega)]
  rw [if_neg (by omega)]
  rw [if_neg (by omega)]
  rw [if_neg (by omega)]
  rw [if_neg (by omega)]
  rw [show 70 + i - 70 = i by omega]
theorem fx_v : ∀ i, i < 11 → st_nl[([314, 395, 67, 98, 325, 75, 337, 350, 364, 379, 4] : List Nat).getD i 0]? = some (.exactly (st_vt i) "CoastlineRuler$Verb") := by decide +kernel
def vl_ordinal : List Int32 := [0, 1, 2, 3, 4, 5, 6, 7, 8, 9, 10]
theorem fx_ordinal : ∀ i, i < 11 → st_nl[([315, 396, 68, 99, 326, 76, 338, 351, 365, 380, 5] : List Nat).getD i 0]? = some (.eq (.field (st_vt i) "java/lang/Enum" "ordinal" "I") (.int (vl_ordinal.getD i 0))) := by decide +kernel
def vl_isCoast : List Int32 := [1, 1, 0, 0, 0, 0, 0, 0, 0, 0, 0]
theorem fx_isCoast : ∀ i, i < 11 → st_nl[([317, 398, 70, 101, 328, 78, 340, 353, 367, 382, 7] : List Nat).getD i 0]? = some (.eq (.field (st_vt i) "CoastlineRuler$Verb" "isCoast" "Z") (.int (vl_isCoast.getD i 0))) := by decide +kernel
def vl_hasPoint : List Int32 := [0, 0, 0, 0, 1, 1, 1, 0, 0, 0, 0]
theorem fx_hasPoint : ∀ i, i < 11 → st_nl[([318, 399, 71, 102, 329, 79, 341, 354, 368, 383, 8] : List Nat).getD i 0]? = some (.eq (.field (st_vt i) "CoastlineRuler$Verb" "hasPoint" "Z") (.int (vl_hasPoint.getD i 0))) := by decide +kernel
def vl_integers : List Int32 := [0, 0, 1, 0, 2, 2, 0, 2, 0, 0, 0]
theorem fx_integers : ∀ i, i < 11 → st_nl[([319, 400, 72, 103, 330, 80, 342, 355, 369, 384, 9] : List Nat).getD i 0]? = some (.eq (.field (st_vt i) "CoastlineRuler$Verb" "integers" "I") (.int (vl_integers.getD i 0))) := by decide +kernel
def vl_limit : List Int32 := [0, 0, 50, 0, 1000, 1000, 0, 2000, 0, 0, 0]
theorem fx_limit : ∀ i, i < 11 → st_nl[([320, 401, 73, 104, 331, 81, 343, 356, 370, 385, 10] : List Nat).getD i 0]? = some (.eq (.field (st_vt i) "CoastlineRuler$Verb" "limit" "I") (.int (vl_limit.getD i 0))) := by decide +kernel
def vl_wk : List Nat := [26, 32, 23, 25, 27, 24, 28, 29, 30, 31, 22]
def vl_ws : List Nat := [27, 26, 40, 41, 42, 43, 44, 45, 46, 47, 48]
theorem fx_word : ∀ i, i < 11 → st_nl[([316, 397, 69, 100, 327, 77, 339, 352, 366, 381, 6] : List Nat).getD i 0]? = some (.eq (.field (st_vt i) "CoastlineRuler$Verb" "word" "Ljava/lang/String;") (st_sr (vl_wk.getD i 0))) := by decide +kernel
theorem fx_s : ∀ i, i < 33 → st_nl[([448, 479, 486, 494, 505, 515, 524, 543, 567, 588, 605, 633, 663, 701, 712, 722, 727, 732, 738, 751, 767, 771, 776, 786, 794, 804, 814, 824, 832, 840, 849, 860, 870] : List Nat).getD i 0]? = some (.exactly (st_sr i) "java/lang/String") := by decide +kernel
def wl_len : List Nat := [3, 4, 7, 5, 6, 4, 6, 4, 6, 4, 5, 7, 6, 6, 7, 6, 1, 1, 2, 9, 12, 0, 1]
def wl_byt : List (List Int32) := [[109, 97, 112], [107, 105, 110, 103], [116, 97, 120, 105, 99, 97, 98], [115, 104, 111, 114, 101], [105, 115, 108, 97, 110, 100], [102, 111, 108, 100], [117, 110, 102, 111, 108, 100], [109, 111, 118, 101], [105, 110, 115, 101, 114, 116], [100, 114, 111, 112], [115, 104, 105, 102, 116], [114, 101, 118, 101, 114, 115, 101], [114, 101, 109, 111, 118, 101], [109, 101, 116, 114, 105, 99], [105, 115, 108, 97, 110, 100, 32], [115, 104, 111, 114, 101, 32], [32], [44], [32, 45], [109, 97, 112, 32, 107, 105, 110, 103, 59], [109, 97, 112, 32, 116, 97, 120, 105, 99, 97, 98, 59], [], [45]]
theorem fx_wl : ∀ i, i < 23 → st_nl[([482, 489, 497, 518, 508, 789, 807, 827, 797, 835, 843, 852, 863, 779, 704, 715, 725, 730, 735, 741, 754, 770, 774] : List Nat).getD i 0]? = some (.eq (.length (st_sv (st_wr.getD i 0))) (.int (Int32.ofNat (wl_len.getD i 0)))) := by decide +kernel
theorem fx_wa : ∀ i, i < 23 → st_nl[([481, 488, 496, 517, 507, 788, 806, 826, 796, 834, 842, 851, 862, 778, 703, 714, 724, 729, 734, 740, 753, 769, 773] : List Nat).getD i 0]? = some (.arrayOf (st_sv (st_wr.getD i 0)) .byte) := by decide +kernel
theorem fx_wc : ∀ i, i < 23 → st_nl[([480, 487, 495, 516, 506, 787, 805, 825, 795, 833, 841, 850, 861, 777, 702, 713, 723, 728, 733, 739, 752, 768, 772] : List Nat).getD i 0]? = some (.eq (.field (st_sr (st_wr.getD i 0)) "java/lang/String" "coder" "B") (.int 0)) := by decide +kernel
theorem fx_we : ∀ i, i < 23 → ∀ j, j < wl_len.getD i 0 → st_nl[(([[483, 484, 485], [490, 491, 492, 493], [498, 499, 500, 501, 502, 503, 504], [519, 520, 521, 522, 523], [509, 510, 511, 512, 513, 514], [790, 791, 792, 793], [808, 809, 810, 811, 812, 813], [828, 829, 830, 831], [798, 799, 800, 801, 802, 803], [836, 837, 838, 839], [844, 845, 846, 847, 848], [853, 854, 855, 856, 857, 858, 859], [864, 865, 866, 867, 868, 869], [780, 781, 782, 783, 784, 785], [705, 706, 707, 708, 709, 710, 711], [716, 717, 718, 719, 720, 721], [726], [731], [736, 737], [742, 743, 744, 745, 746, 747, 748, 749, 750], [755, 756, 757, 758, 759, 760, 761, 762, 763, 764, 765, 766], [], [775]] : List (List Nat)).getD i []).getD j 0]? = some (.eq (.elem (st_sv (st_wr.getD i 0)) (.int (Int32.ofNat j))) (.int ((wl_byt.getD i []).getD j 0))) := by decide +kernel
theorem fx_all : ∀ i, i < 11 → st_nl[([56, 57, 58, 59, 60, 61, 62, 63, 64, 65, 66] : List Nat).getD i 0]? = some (.eq (.elem tm_all (.int (Int32.ofNat i))) (st_vt i)) := by decide +kernel
def al_sw : List Int32 := [6, 7, 1, 2, 10, 3, 4, 5, 11, 9, 8]
theorem fx_sw : ∀ i, i < 11 → st_nl[([87, 88, 89, 90, 91, 92, 93, 94, 95, 96, 97] : List Nat).getD i 0]? = some (.eq (.elem tm_sw (.int (Int32.ofNat i))) (.int (al_sw.getD i 0))) := by decide +kernel
def al_c0 : List Int32 := [0, 0, 4, 3, 8, 0, 12, 5, 20, 5]
theorem fx_c0 : ∀ i, i < 10 → st_nl[([15, 16, 17, 18, 19, 20, 21, 22, 23, 24] : List Nat).getD i 0]? = some (.eq (.elem tm_c0 (.int (Int32.ofNat i))) (.int (al_c0.getD i 0))) := by decide +kernel
def al_c1 : List Int32 := [30, 0, 50, 0, 50, 20, 30, 20]
theorem fx_c1 : ∀ i, i < 8 → st_nl[([28, 29, 30, 31, 32, 33, 34, 35] : List Nat).getD i 0]? = some (.eq (.elem tm_c1 (.int (Int32.ofNat i))) (.int (al_c1.getD i 0))) := by decide +kernel
def al_c2 : List Int32 := [35, 5, 45, 5, 40, 15]
theorem fx_c2 : ∀ i, i < 6 → st_nl[([39, 40, 41, 42, 43, 44] : List Nat).getD i 0]? = some (.eq (.elem tm_c2 (.int (Int32.ofNat i))) (.int (al_c2.getD i 0))) := by decide +kernel
def al_ones : List Int32 := [48, 49, 50, 51, 52, 53, 54, 55, 56, 57, 48, 49, 50, 51, 52, 53, 54, 55, 56, 57, 48, 49, 50, 51, 52, 53, 54, 55, 56, 57, 48, 49, 50, 51, 52, 53, 54, 55, 56, 57, 48, 49, 50, 51, 52, 53, 54, 55, 56, 57, 48, 49, 50, 51, 52, 53, 54, 55, 56, 57, 48, 49, 50, 51, 52, 53, 54, 55, 56, 57, 48, 49, 50, 51, 52, 53, 54, 55, 56, 57, 48, 49, 50, 51, 52, 53, 54, 55, 56, 57, 48, 49, 50, 51, 52, 53, 54, 55, 56, 57]
theorem fx_ones : ∀ i, i < 100 → st_nl[([111, 112, 113, 114, 115, 116, 117, 118, 119, 120, 121, 122, 123, 124, 125, 126, 127, 128, 129, 130, 131, 132, 133, 134, 135, 136, 137, 138, 139, 140, 141, 142, 143, 144, 145, 146, 147, 148, 149, 150, 151, 152, 153, 154, 155, 156, 157, 158, 159, 160, 161, 162, 163, 164, 165, 166, 167, 168, 169, 170, 171, 172, 173, 174, 175, 176, 177, 178, 179, 180, 181, 182, 183, 184, 185, 186, 187, 188, 189, 190, 191, 192, 193, 194, 195, 196, 197, 198, 199, 200, 201, 202, 203, 204, 205, 206, 207, 208, 209, 210] : List Nat).getD i 0]? = some (.eq (.elem tm_ones (.int (Int32.ofNat i))) (.int (al_ones.getD i 0))) := by decide +kernel
def al_tens : List Int32 := [48, 48, 48, 48, 48, 48, 48, 48, 48, 48, 49, 49, 49, 49, 49, 49, 49, 49, 49, 49, 50, 50, 50, 50, 50, 50, 50, 50, 50, 50, 51, 51, 51, 51, 51, 51, 51, 51, 51, 51, 52, 52, 52, 52, 52, 52, 52, 52, 52, 52, 53, 53, 53, 53, 53, 53, 53, 53, 53, 53, 54, 54, 54, 54, 54, 54, 54, 54, 54, 54, 55, 55, 55, 55, 55, 55, 55, 55, 55, 55, 56, 56, 56, 56, 56, 56, 56, 56, 56, 56, 57, 57, 57, 57, 57, 57, 57, 57, 57, 57]
theorem fx_tens : ∀ i, i < 100 → st_nl[([214, 215, 216, 217, 218, 219, 220, 221, 222, 223, 224, 225, 226, 227, 228, 229, 230, 231, 232, 233, 234, 235, 236, 237, 238, 239, 240, 241, 242, 243, 244, 245, 246, 247, 248, 249, 250, 251, 252, 253, 254, 255, 256, 257, 258, 259, 260, 261, 262, 263, 264, 265, 266, 267, 268, 269, 270, 271, 272, 273, 274, 275, 276, 277, 278, 279, 280, 281, 282, 283, 284, 285, 286, 287, 288, 289, 290, 291, 292, 293, 294, 295, 296, 297, 298, 299, 300, 301, 302, 303, 304, 305, 306, 307, 308, 309, 310, 311, 312, 313] : List Nat).getD i 0]? = some (.eq (.elem tm_tens (.int (Int32.ofNat i))) (.int (al_tens.getD i 0))) := by decide +kernel

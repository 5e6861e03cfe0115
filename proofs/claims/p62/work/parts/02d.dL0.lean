theorem dL_most_0 : decode cL_most 0 = .ok (.iload_n 0, 1) := by decide +kernel
theorem dL_most_1 : decode cL_most 1 = .ok (.ldc 7, 2) := by decide +kernel
theorem dL_most_3 : decode cL_most 3 = .ok (.iand, 1) := by decide +kernel
theorem dL_most_4 : decode cL_most 4 = .ok (.iload_n 1, 1) := by decide +kernel
theorem dL_most_5 : decode cL_most 5 = .ok (.irem, 1) := by decide +kernel
theorem dL_most_6 : decode cL_most 6 = .ok (.ireturn, 1) := by decide +kernel
theorem dL_cell_0 : decode cL_cell 0 = .ok (.iload_n 1, 1) := by decide +kernel
theorem dL_cell_1 : decode cL_cell 1 = .ok (.aload_n 0, 1) := by decide +kernel
theorem dL_cell_2 : decode cL_cell 2 = .ok (.arraylength, 1) := by decide +kernel
theorem dL_cell_3 : decode cL_cell 3 = .ok (.if_icmp .ge 9, 3) := by decide +kernel
theorem dL_cell_6 : decode cL_cell 6 = .ok (.aload_n 0, 1) := by decide +kernel
theorem dL_cell_7 : decode cL_cell 7 = .ok (.iload_n 1, 1) := by decide +kernel
theorem dL_cell_8 : decode cL_cell 8 = .ok (.iaload, 1) := by decide +kernel
theorem dL_cell_9 : decode cL_cell 9 = .ok (.goto 7, 3) := by decide +kernel
theorem dL_cell_12 : decode cL_cell 12 = .ok (.bipush 37, 2) := by decide +kernel
theorem dL_cell_14 : decode cL_cell 14 = .ok (.iload_n 1, 1) := by decide +kernel
theorem dL_cell_15 : decode cL_cell 15 = .ok (.imul, 1) := by decide +kernel
theorem dL_cell_16 : decode cL_cell 16 = .ok (.ireturn, 1) := by decide +kernel
theorem dL_add_0 : decode cL_add 0 = .ok (.aload_n 1, 1) := by decide +kernel
theorem dL_add_1 : decode cL_add 1 = .ok (.aload_n 1, 1) := by decide +kernel
theorem dL_add_2 : decode cL_add 2 = .ok (.iconst 5, 1) := by decide +kernel
theorem dL_add_3 : decode cL_add 3 = .ok (.iaload, 1) := by decide +kernel
theorem dL_add_4 : decode cL_add 4 = .ok (.bipush 20, 2) := by decide +kernel
theorem dL_add_6 : decode cL_add 6 = .ok (.irem, 1) := by decide +kernel
theorem dL_add_7 : decode cL_add 7 = .ok (.iconst 4, 1) := by decide +kernel
theorem dL_add_8 : decode cL_add 8 = .ok (.idiv, 1) := by decide +kernel
theorem dL_add_9 : decode cL_add 9 = .ok (.dup2, 1) := by decide +kernel
theorem dL_add_10 : decode cL_add 10 = .ok (.iaload, 1) := by decide +kernel
theorem dL_add_11 : decode cL_add 11 = .ok (.iload_n 2, 1) := by decide +kernel
theorem dL_add_12 : decode cL_add 12 = .ok (.bipush 24, 2) := by decide +kernel
theorem dL_add_14 : decode cL_add 14 = .ok (.bipush 8, 2) := by decide +kernel
theorem dL_add_16 : decode cL_add 16 = .ok (.aload_n 1, 1) := by decide +kernel
theorem dL_add_17 : decode cL_add 17 = .ok (.iconst 5, 1) := by decide +kernel
theorem dL_add_18 : decode cL_add 18 = .ok (.iaload, 1) := by decide +kernel
theorem dL_add_19 : decode cL_add 19 = .ok (.iconst 4, 1) := by decide +kernel
theorem dL_add_20 : decode cL_add 20 = .ok (.irem, 1) := by decide +kernel
theorem dL_add_21 : decode cL_add 21 = .ok (.imul, 1) := by decide +kernel
theorem dL_add_22 : decode cL_add 22 = .ok (.isub, 1) := by decide +kernel
theorem dL_add_23 : decode cL_add 23 = .ok (.ishl, 1) := by decide +kernel
theorem dL_add_24 : decode cL_add 24 = .ok (.ior, 1) := by decide +kernel
theorem dL_add_25 : decode cL_add 25 = .ok (.iastore, 1) := by decide +kernel
theorem dL_add_26 : decode cL_add 26 = .ok (.aload_n 1, 1) := by decide +kernel
theorem dL_add_27 : decode cL_add 27 = .ok (.iconst 5, 1) := by decide +kernel
theorem dL_add_28 : decode cL_add 28 = .ok (.dup2, 1) := by decide +kernel
theorem dL_add_29 : decode cL_add 29 = .ok (.iaload, 1) := by decide +kernel
theorem dL_add_30 : decode cL_add 30 = .ok (.iconst 1, 1) := by decide +kernel
theorem dL_add_31 : decode cL_add 31 = .ok (.iadd, 1) := by decide +kernel
theorem dL_add_32 : decode cL_add 32 = .ok (.iastore, 1) := by decide +kernel
theorem dL_add_33 : decode cL_add 33 = .ok (.aload_n 1, 1) := by decide +kernel
theorem dL_add_34 : decode cL_add 34 = .ok (.iconst 5, 1) := by decide +kernel
theorem dL_add_35 : decode cL_add 35 = .ok (.iaload, 1) := by decide +kernel
theorem dL_add_36 : decode cL_add 36 = .ok (.bipush 20, 2) := by decide +kernel
theorem dL_add_38 : decode cL_add 38 = .ok (.irem, 1) := by decide +kernel
theorem dL_add_39 : decode cL_add 39 = .ok (.ifCond .eq 4, 3) := by decide +kernel
theorem dL_add_42 : decode cL_add 42 = .ok (.return_, 1) := by decide +kernel
theorem dL_add_43 : decode cL_add 43 = .ok (.aload_n 0, 1) := by decide +kernel
theorem dL_add_44 : decode cL_add 44 = .ok (.aload_n 1, 1) := by decide +kernel
theorem dL_add_45 : decode cL_add 45 = .ok (.iconst 0, 1) := by decide +kernel
theorem dL_add_46 : decode cL_add 46 = .ok (.iaload, 1) := by decide +kernel
theorem dL_add_47 : decode cL_add 47 = .ok (.aload_n 1, 1) := by decide +kernel
theorem dL_add_48 : decode cL_add 48 = .ok (.iconst 1, 1) := by decide +kernel
theorem dL_add_49 : decode cL_add 49 = .ok (.iaload, 1) := by decide +kernel
theorem dL_add_50 : decode cL_add 50 = .ok (.aload_n 1, 1) := by decide +kernel
theorem dL_add_51 : decode cL_add 51 = .ok (.iconst 2, 1) := by decide +kernel
theorem dL_add_52 : decode cL_add 52 = .ok (.iaload, 1) := by decide +kernel
theorem dL_add_53 : decode cL_add 53 = .ok (.aload_n 1, 1) := by decide +kernel
theorem dL_add_54 : decode cL_add 54 = .ok (.iconst 3, 1) := by decide +kernel
theorem dL_add_55 : decode cL_add 55 = .ok (.iaload, 1) := by decide +kernel
theorem dL_add_56 : decode cL_add 56 = .ok (.aload_n 1, 1) := by decide +kernel
theorem dL_add_57 : decode cL_add 57 = .ok (.iconst 4, 1) := by decide +kernel
theorem dL_add_58 : decode cL_add 58 = .ok (.iaload, 1) := by decide +kernel
theorem dL_add_59 : decode cL_add 59 = .ok (.invokevirtual 8, 3) := by decide +kernel
theorem dL_add_62 : decode cL_add 62 = .ok (.pop, 1) := by decide +kernel
theorem dL_add_63 : decode cL_add 63 = .ok (.iconst 0, 1) := by decide +kernel
theorem dL_add_64 : decode cL_add 64 = .ok (.istore_n 3, 1) := by decide +kernel
theorem dL_add_65 : decode cL_add 65 = .ok (.iload_n 3, 1) := by decide +kernel
theorem dL_add_66 : decode cL_add 66 = .ok (.iconst 5, 1) := by decide +kernel
theorem dL_add_67 : decode cL_add 67 = .ok (.if_icmp .ge 13, 3) := by decide +kernel
theorem dL_add_70 : decode cL_add 70 = .ok (.aload_n 1, 1) := by decide +kernel
theorem dL_add_71 : decode cL_add 71 = .ok (.iload_n 3, 1) := by decide +kernel
theorem dL_add_72 : decode cL_add 72 = .ok (.iconst 0, 1) := by decide +kernel
theorem dL_add_73 : decode cL_add 73 = .ok (.iastore, 1) := by decide +kernel
theorem dL_add_74 : decode cL_add 74 = .ok (.iinc 3 1, 3) := by decide +kernel
theorem dL_add_77 : decode cL_add 77 = .ok (.goto (-12), 3) := by decide +kernel
theorem dL_add_80 : decode cL_add 80 = .ok (.return_, 1) := by decide +kernel
theorem dL_say_0 : decode cL_say 0 = .ok (.iconst 0, 1) := by decide +kernel
theorem dL_say_1 : decode cL_say 1 = .ok (.istore_n 3, 1) := by decide +kernel
theorem dL_say_2 : decode cL_say 2 = .ok (.iload_n 3, 1) := by decide +kernel
theorem dL_say_3 : decode cL_say 3 = .ok (.aload_n 2, 1) := by decide +kernel
theorem dL_say_4 : decode cL_say 4 = .ok (.invokevirtual 14, 3) := by decide +kernel
theorem dL_say_7 : decode cL_say 7 = .ok (.if_icmp .ge 19, 3) := by decide +kernel
theorem dL_say_10 : decode cL_say 10 = .ok (.aload_n 0, 1) := by decide +kernel
theorem dL_say_11 : decode cL_say 11 = .ok (.aload_n 1, 1) := by decide +kernel
theorem dL_say_12 : decode cL_say 12 = .ok (.aload_n 2, 1) := by decide +kernel
theorem dL_say_13 : decode cL_say 13 = .ok (.iload_n 3, 1) := by decide +kernel
theorem dL_say_14 : decode cL_say 14 = .ok (.invokevirtual 20, 3) := by decide +kernel
theorem dL_say_17 : decode cL_say 17 = .ok (.invokestatic 24, 3) := by decide +kernel
theorem dL_say_20 : decode cL_say 20 = .ok (.iinc 3 1, 3) := by decide +kernel
theorem dL_say_23 : decode cL_say 23 = .ok (.goto (-21), 3) := by decide +kernel
theorem dL_say_26 : decode cL_say 26 = .ok (.return_, 1) := by decide +kernel
theorem dL_end_0 : decode cL_end 0 = .ok (.aload_n 1, 1) := by decide +kernel
theorem dL_end_1 : decode cL_end 1 = .ok (.iconst 5, 1) := by decide +kernel
theorem dL_end_2 : decode cL_end 2 = .ok (.iaload, 1) := by decide +kernel
theorem dL_end_3 : decode cL_end 3 = .ok (.istore_n 2, 1) := by decide +kernel
theorem dL_end_4 : decode cL_end 4 = .ok (.aload_n 1, 1) := by decide +kernel
theorem dL_end_5 : decode cL_end 5 = .ok (.iconst 5, 1) := by decide +kernel
theorem dL_end_6 : decode cL_end 6 = .ok (.iaload, 1) := by decide +kernel
theorem dL_end_7 : decode cL_end 7 = .ok (.bipush 20, 2) := by decide +kernel
theorem dL_end_9 : decode cL_end 9 = .ok (.irem, 1) := by decide +kernel
theorem dL_end_10 : decode cL_end 10 = .ok (.ifCond .eq 13, 3) := by decide +kernel
theorem dL_end_13 : decode cL_end 13 = .ok (.aload_n 0, 1) := by decide +kernel
theorem dL_end_14 : decode cL_end 14 = .ok (.aload_n 1, 1) := by decide +kernel
theorem dL_end_15 : decode cL_end 15 = .ok (.bipush 32, 2) := by decide +kernel
theorem dL_end_17 : decode cL_end 17 = .ok (.invokestatic 24, 3) := by decide +kernel
theorem dL_end_20 : decode cL_end 20 = .ok (.goto (-16), 3) := by decide +kernel
theorem dL_end_23 : decode cL_end 23 = .ok (.aload_n 1, 1) := by decide +kernel
theorem dL_end_24 : decode cL_end 24 = .ok (.iconst 5, 1) := by decide +kernel
theorem dL_end_25 : decode cL_end 25 = .ok (.iconst 0, 1) := by decide +kernel
theorem dL_end_26 : decode cL_end 26 = .ok (.iastore, 1) := by decide +kernel
theorem dL_end_27 : decode cL_end 27 = .ok (.iload_n 2, 1) := by decide +kernel
theorem dL_end_28 : decode cL_end 28 = .ok (.ireturn, 1) := by decide +kernel
theorem dL_all_0 : decode cL_all 0 = .ok (.aload_n 0, 1) := by decide +kernel
theorem dL_all_1 : decode cL_all 1 = .ok (.invokevirtual 30, 3) := by decide +kernel
theorem dL_all_4 : decode cL_all 4 = .ok (.istore_n 1, 1) := by decide +kernel
theorem dL_all_5 : decode cL_all 5 = .ok (.iconst 0, 1) := by decide +kernel
theorem dL_all_6 : decode cL_all 6 = .ok (.istore_n 2, 1) := by decide +kernel
theorem dL_all_7 : decode cL_all 7 = .ok (.iconst 0, 1) := by decide +kernel
theorem dL_all_8 : decode cL_all 8 = .ok (.istore_n 3, 1) := by decide +kernel
theorem dL_all_9 : decode cL_all 9 = .ok (.iload_n 3, 1) := by decide +kernel
theorem dL_all_10 : decode cL_all 10 = .ok (.iload_n 1, 1) := by decide +kernel
theorem dL_all_11 : decode cL_all 11 = .ok (.if_icmp .ge 17, 3) := by decide +kernel
theorem dL_all_14 : decode cL_all 14 = .ok (.iload_n 2, 1) := by decide +kernel
theorem dL_all_15 : decode cL_all 15 = .ok (.aload_n 0, 1) := by decide +kernel
theorem dL_all_16 : decode cL_all 16 = .ok (.iload_n 3, 1) := by decide +kernel
theorem dL_all_17 : decode cL_all 17 = .ok (.invokevirtual 33, 3) := by decide +kernel
theorem dL_all_20 : decode cL_all 20 = .ok (.iadd, 1) := by decide +kernel
theorem dL_all_21 : decode cL_all 21 = .ok (.istore_n 2, 1) := by decide +kernel
theorem dL_all_22 : decode cL_all 22 = .ok (.iinc 3 1, 3) := by decide +kernel
theorem dL_all_25 : decode cL_all 25 = .ok (.goto (-16), 3) := by decide +kernel
theorem dL_all_28 : decode cL_all 28 = .ok (.iconst 5, 1) := by decide +kernel
theorem dL_all_29 : decode cL_all 29 = .ok (.iconst 2, 1) := by decide +kernel
theorem dL_all_30 : decode cL_all 30 = .ok (.iload_n 1, 1) := by decide +kernel
theorem dL_all_31 : decode cL_all 31 = .ok (.imul, 1) := by decide +kernel
theorem dL_all_32 : decode cL_all 32 = .ok (.iadd, 1) := by decide +kernel
theorem dL_all_33 : decode cL_all 33 = .ok (.iconst 2, 1) := by decide +kernel
theorem dL_all_34 : decode cL_all 34 = .ok (.iload_n 2, 1) := by decide +kernel
theorem dL_all_35 : decode cL_all 35 = .ok (.imul, 1) := by decide +kernel
theorem dL_all_36 : decode cL_all 36 = .ok (.iadd, 1) := by decide +kernel
theorem dL_all_37 : decode cL_all 37 = .ok (.newarray .int, 2) := by decide +kernel
theorem dL_all_39 : decode cL_all 39 = .ok (.astore_n 3, 1) := by decide +kernel
theorem dL_all_40 : decode cL_all 40 = .ok (.iconst 0, 1) := by decide +kernel
theorem dL_all_41 : decode cL_all 41 = .ok (.istore 4, 2) := by decide +kernel
theorem dL_all_43 : decode cL_all 43 = .ok (.aload_n 3, 1) := by decide +kernel
theorem dL_all_44 : decode cL_all 44 = .ok (.iload 4, 2) := by decide +kernel
theorem dL_all_46 : decode cL_all 46 = .ok (.iinc 4 1, 3) := by decide +kernel
theorem dL_all_49 : decode cL_all 49 = .ok (.iload_n 1, 1) := by decide +kernel
theorem dL_all_50 : decode cL_all 50 = .ok (.iastore, 1) := by decide +kernel
theorem dL_all_51 : decode cL_all 51 = .ok (.aload_n 3, 1) := by decide +kernel
theorem dL_all_52 : decode cL_all 52 = .ok (.iload 4, 2) := by decide +kernel
theorem dL_all_54 : decode cL_all 54 = .ok (.iinc 4 1, 3) := by decide +kernel
theorem dL_all_57 : decode cL_all 57 = .ok (.aload_n 0, 1) := by decide +kernel
theorem dL_all_58 : decode cL_all 58 = .ok (.invokevirtual 37, 3) := by decide +kernel
theorem dL_all_61 : decode cL_all 61 = .ok (.ifCond .eq 7, 3) := by decide +kernel
theorem dL_all_64 : decode cL_all 64 = .ok (.iconst 1, 1) := by decide +kernel
theorem dL_all_65 : decode cL_all 65 = .ok (.goto 4, 3) := by decide +kernel
theorem dL_all_68 : decode cL_all 68 = .ok (.iconst 0, 1) := by decide +kernel
theorem dL_all_69 : decode cL_all 69 = .ok (.iastore, 1) := by decide +kernel
theorem dL_all_70 : decode cL_all 70 = .ok (.aload_n 3, 1) := by decide +kernel
theorem dL_all_71 : decode cL_all 71 = .ok (.iload 4, 2) := by decide +kernel
theorem dL_all_73 : decode cL_all 73 = .ok (.iinc 4 1, 3) := by decide +kernel
theorem dL_all_76 : decode cL_all 76 = .ok (.aload_n 0, 1) := by decide +kernel
theorem dL_all_77 : decode cL_all 77 = .ok (.invokevirtual 41, 3) := by decide +kernel
theorem dL_all_80 : decode cL_all 80 = .ok (.iastore, 1) := by decide +kernel
theorem dL_all_81 : decode cL_all 81 = .ok (.aload_n 3, 1) := by decide +kernel
theorem dL_all_82 : decode cL_all 82 = .ok (.iload 4, 2) := by decide +kernel
theorem dL_all_84 : decode cL_all 84 = .ok (.iinc 4 1, 3) := by decide +kernel
theorem dL_all_87 : decode cL_all 87 = .ok (.aload_n 0, 1) := by decide +kernel
theorem dL_all_88 : decode cL_all 88 = .ok (.invokevirtual 44, 3) := by decide +kernel
theorem dL_all_91 : decode cL_all 91 = .ok (.iastore, 1) := by decide +kernel
theorem dL_all_92 : decode cL_all 92 = .ok (.aload_n 3, 1) := by decide +kernel
theorem dL_all_93 : decode cL_all 93 = .ok (.iload 4, 2) := by decide +kernel
theorem dL_all_95 : decode cL_all 95 = .ok (.iinc 4 1, 3) := by decide +kernel
theorem dL_all_98 : decode cL_all 98 = .ok (.aload_n 0, 1) := by decide +kernel
theorem dL_all_99 : decode cL_all 99 = .ok (.invokevirtual 47, 3) := by decide +kernel
theorem dL_all_102 : decode cL_all 102 = .ok (.iastore, 1) := by decide +kernel
theorem dL_all_103 : decode cL_all 103 = .ok (.iconst 0, 1) := by decide +kernel
theorem dL_all_104 : decode cL_all 104 = .ok (.istore 5, 2) := by decide +kernel
theorem dL_all_106 : decode cL_all 106 = .ok (.iload 5, 2) := by decide +kernel
theorem dL_all_108 : decode cL_all 108 = .ok (.iload_n 1, 1) := by decide +kernel
theorem dL_all_109 : decode cL_all 109 = .ok (.if_icmp .ge 93, 3) := by decide +kernel
theorem dL_all_112 : decode cL_all 112 = .ok (.aload_n 3, 1) := by decide +kernel
theorem dL_all_113 : decode cL_all 113 = .ok (.iload 4, 2) := by decide +kernel
theorem dL_all_115 : decode cL_all 115 = .ok (.iinc 4 1, 3) := by decide +kernel
theorem dL_all_118 : decode cL_all 118 = .ok (.aload_n 0, 1) := by decide +kernel
theorem dL_all_119 : decode cL_all 119 = .ok (.iload 5, 2) := by decide +kernel
theorem dL_all_121 : decode cL_all 121 = .ok (.invokevirtual 50, 3) := by decide +kernel
theorem dL_all_124 : decode cL_all 124 = .ok (.ifCond .eq 7, 3) := by decide +kernel
theorem dL_all_127 : decode cL_all 127 = .ok (.iconst 1, 1) := by decide +kernel
theorem dL_all_128 : decode cL_all 128 = .ok (.goto 4, 3) := by decide +kernel
theorem dL_all_131 : decode cL_all 131 = .ok (.iconst 0, 1) := by decide +kernel
theorem dL_all_132 : decode cL_all 132 = .ok (.iastore, 1) := by decide +kernel
theorem dL_all_133 : decode cL_all 133 = .ok (.aload_n 3, 1) := by decide +kernel
theorem dL_all_134 : decode cL_all 134 = .ok (.iload 4, 2) := by decide +kernel
theorem dL_all_136 : decode cL_all 136 = .ok (.iinc 4 1, 3) := by decide +kernel
theorem dL_all_139 : decode cL_all 139 = .ok (.aload_n 0, 1) := by decide +kernel
theorem dL_all_140 : decode cL_all 140 = .ok (.iload 5, 2) := by decide +kernel
theorem dL_all_142 : decode cL_all 142 = .ok (.invokevirtual 33, 3) := by decide +kernel
theorem dL_all_145 : decode cL_all 145 = .ok (.iastore, 1) := by decide +kernel
theorem dL_all_146 : decode cL_all 146 = .ok (.iconst 0, 1) := by decide +kernel
theorem dL_all_147 : decode cL_all 147 = .ok (.istore 6, 2) := by decide +kernel
theorem dL_all_149 : decode cL_all 149 = .ok (.iload 6, 2) := by decide +kernel
theorem dL_all_151 : decode cL_all 151 = .ok (.aload_n 0, 1) := by decide +kernel
theorem dL_all_152 : decode cL_all 152 = .ok (.iload 5, 2) := by decide +kernel
theorem dL_all_154 : decode cL_all 154 = .ok (.invokevirtual 33, 3) := by decide +kernel
theorem dL_all_157 : decode cL_all 157 = .ok (.if_icmp .ge 39, 3) := by decide +kernel
theorem dL_all_160 : decode cL_all 160 = .ok (.aload_n 3, 1) := by decide +kernel
theorem dL_all_161 : decode cL_all 161 = .ok (.iload 4, 2) := by decide +kernel
theorem dL_all_163 : decode cL_all 163 = .ok (.iinc 4 1, 3) := by decide +kernel
theorem dL_all_166 : decode cL_all 166 = .ok (.aload_n 0, 1) := by decide +kernel
theorem dL_all_167 : decode cL_all 167 = .ok (.iload 5, 2) := by decide +kernel
theorem dL_all_169 : decode cL_all 169 = .ok (.iload 6, 2) := by decide +kernel
theorem dL_all_171 : decode cL_all 171 = .ok (.invokevirtual 54, 3) := by decide +kernel
theorem dL_all_174 : decode cL_all 174 = .ok (.iastore, 1) := by decide +kernel
theorem dL_all_175 : decode cL_all 175 = .ok (.aload_n 3, 1) := by decide +kernel
theorem dL_all_176 : decode cL_all 176 = .ok (.iload 4, 2) := by decide +kernel
theorem dL_all_178 : decode cL_all 178 = .ok (.iinc 4 1, 3) := by decide +kernel
theorem dL_all_181 : decode cL_all 181 = .ok (.aload_n 0, 1) := by decide +kernel
theorem dL_all_182 : decode cL_all 182 = .ok (.iload 5, 2) := by decide +kernel
theorem dL_all_184 : decode cL_all 184 = .ok (.iload 6, 2) := by decide +kernel
theorem dL_all_186 : decode cL_all 186 = .ok (.invokevirtual 58, 3) := by decide +kernel
theorem dL_all_189 : decode cL_all 189 = .ok (.iastore, 1) := by decide +kernel
theorem dL_all_190 : decode cL_all 190 = .ok (.iinc 6 1, 3) := by decide +kernel
theorem dL_all_193 : decode cL_all 193 = .ok (.goto (-44), 3) := by decide +kernel
theorem dL_all_196 : decode cL_all 196 = .ok (.iinc 5 1, 3) := by decide +kernel
theorem dL_all_199 : decode cL_all 199 = .ok (.goto (-93), 3) := by decide +kernel
theorem dL_all_202 : decode cL_all 202 = .ok (.aload_n 3, 1) := by decide +kernel
theorem dL_all_203 : decode cL_all 203 = .ok (.areturn, 1) := by decide +kernel
theorem dL_alike_0 : decode cL_alike 0 = .ok (.aload_n 0, 1) := by decide +kernel
theorem dL_alike_1 : decode cL_alike 1 = .ok (.arraylength, 1) := by decide +kernel
theorem dL_alike_2 : decode cL_alike 2 = .ok (.aload_n 1, 1) := by decide +kernel
theorem dL_alike_3 : decode cL_alike 3 = .ok (.arraylength, 1) := by decide +kernel
theorem dL_alike_4 : decode cL_alike 4 = .ok (.if_icmp .eq 5, 3) := by decide +kernel
theorem dL_alike_7 : decode cL_alike 7 = .ok (.iconst 0, 1) := by decide +kernel
theorem dL_alike_8 : decode cL_alike 8 = .ok (.ireturn, 1) := by decide +kernel
theorem dL_alike_9 : decode cL_alike 9 = .ok (.iconst 0, 1) := by decide +kernel
theorem dL_alike_10 : decode cL_alike 10 = .ok (.istore_n 2, 1) := by decide +kernel
theorem dL_alike_11 : decode cL_alike 11 = .ok (.iload_n 2, 1) := by decide +kernel
theorem dL_alike_12 : decode cL_alike 12 = .ok (.aload_n 0, 1) := by decide +kernel
theorem dL_alike_13 : decode cL_alike 13 = .ok (.arraylength, 1) := by decide +kernel
theorem dL_alike_14 : decode cL_alike 14 = .ok (.if_icmp .ge 20, 3) := by decide +kernel
theorem dL_alike_17 : decode cL_alike 17 = .ok (.aload_n 0, 1) := by decide +kernel
theorem dL_alike_18 : decode cL_alike 18 = .ok (.iload_n 2, 1) := by decide +kernel
theorem dL_alike_19 : decode cL_alike 19 = .ok (.iaload, 1) := by decide +kernel
theorem dL_alike_20 : decode cL_alike 20 = .ok (.aload_n 1, 1) := by decide +kernel
theorem dL_alike_21 : decode cL_alike 21 = .ok (.iload_n 2, 1) := by decide +kernel
theorem dL_alike_22 : decode cL_alike 22 = .ok (.iaload, 1) := by decide +kernel
theorem dL_alike_23 : decode cL_alike 23 = .ok (.if_icmp .eq 5, 3) := by decide +kernel
theorem dL_alike_26 : decode cL_alike 26 = .ok (.iconst 0, 1) := by decide +kernel
theorem dL_alike_27 : decode cL_alike 27 = .ok (.ireturn, 1) := by decide +kernel
theorem dL_alike_28 : decode cL_alike 28 = .ok (.iinc 2 1, 3) := by decide +kernel
theorem dL_alike_31 : decode cL_alike 31 = .ok (.goto (-20), 3) := by decide +kernel
theorem dL_alike_34 : decode cL_alike 34 = .ok (.iconst 1, 1) := by decide +kernel
theorem dL_alike_35 : decode cL_alike 35 = .ok (.ireturn, 1) := by decide +kernel
theorem dL_areSticks_0 : decode cL_areSticks 0 = .ok (.aload_n 0, 1) := by decide +kernel
theorem dL_areSticks_1 : decode cL_areSticks 1 = .ok (.iload_n 1, 1) := by decide +kernel
theorem dL_areSticks_2 : decode cL_areSticks 2 = .ok (.invokevirtual 33, 3) := by decide +kernel
theorem dL_areSticks_5 : decode cL_areSticks 5 = .ok (.istore_n 2, 1) := by decide +kernel
theorem dL_areSticks_6 : decode cL_areSticks 6 = .ok (.iconst 0, 1) := by decide +kernel
theorem dL_areSticks_7 : decode cL_areSticks 7 = .ok (.istore_n 3, 1) := by decide +kernel
theorem dL_areSticks_8 : decode cL_areSticks 8 = .ok (.iload_n 3, 1) := by decide +kernel
theorem dL_areSticks_9 : decode cL_areSticks 9 = .ok (.bipush 8, 2) := by decide +kernel
theorem dL_areSticks_11 : decode cL_areSticks 11 = .ok (.if_icmp .ge 311, 3) := by decide +kernel
theorem dL_areSticks_14 : decode cL_areSticks 14 = .ok (.aload_n 0, 1) := by decide +kernel
theorem dL_areSticks_15 : decode cL_areSticks 15 = .ok (.iload_n 1, 1) := by decide +kernel
theorem dL_areSticks_16 : decode cL_areSticks 16 = .ok (.iload_n 3, 1) := by decide +kernel
theorem dL_areSticks_17 : decode cL_areSticks 17 = .ok (.invokevirtual 61, 3) := by decide +kernel
theorem dL_areSticks_20 : decode cL_areSticks 20 = .ok (.istore 4, 2) := by decide +kernel
theorem dL_areSticks_22 : decode cL_areSticks 22 = .ok (.iconst 0, 1) := by decide +kernel
theorem dL_areSticks_23 : decode cL_areSticks 23 = .ok (.istore 5, 2) := by decide +kernel
theorem dL_areSticks_25 : decode cL_areSticks 25 = .ok (.aload_n 0, 1) := by decide +kernel
theorem dL_areSticks_26 : decode cL_areSticks 26 = .ok (.iload_n 1, 1) := by decide +kernel
theorem dL_areSticks_27 : decode cL_areSticks 27 = .ok (.iload_n 3, 1) := by decide +kernel
theorem dL_areSticks_28 : decode cL_areSticks 28 = .ok (.invokevirtual 64, 3) := by decide +kernel
theorem dL_areSticks_31 : decode cL_areSticks 31 = .ok (.istore 6, 2) := by decide +kernel
theorem dL_areSticks_33 : decode cL_areSticks 33 = .ok (.iconst 0, 1) := by decide +kernel
theorem dL_areSticks_34 : decode cL_areSticks 34 = .ok (.istore 7, 2) := by decide +kernel
theorem dL_areSticks_36 : decode cL_areSticks 36 = .ok (.iload 7, 2) := by decide +kernel
theorem dL_areSticks_38 : decode cL_areSticks 38 = .ok (.iload 4, 2) := by decide +kernel
theorem dL_areSticks_40 : decode cL_areSticks 40 = .ok (.if_icmp .ge 139, 3) := by decide +kernel
theorem dL_areSticks_43 : decode cL_areSticks 43 = .ok (.aload_n 0, 1) := by decide +kernel
theorem dL_areSticks_44 : decode cL_areSticks 44 = .ok (.iload_n 1, 1) := by decide +kernel
theorem dL_areSticks_45 : decode cL_areSticks 45 = .ok (.iload_n 3, 1) := by decide +kernel
theorem dL_areSticks_46 : decode cL_areSticks 46 = .ok (.iload 7, 2) := by decide +kernel
theorem dL_areSticks_48 : decode cL_areSticks 48 = .ok (.invokevirtual 67, 3) := by decide +kernel
theorem dL_areSticks_51 : decode cL_areSticks 51 = .ok (.istore 8, 2) := by decide +kernel
theorem dL_areSticks_53 : decode cL_areSticks 53 = .ok (.iload 7, 2) := by decide +kernel
theorem dL_areSticks_55 : decode cL_areSticks 55 = .ok (.iconst 1, 1) := by decide +kernel
theorem dL_areSticks_56 : decode cL_areSticks 56 = .ok (.iadd, 1) := by decide +kernel
theorem dL_areSticks_57 : decode cL_areSticks 57 = .ok (.iload 4, 2) := by decide +kernel
theorem dL_areSticks_59 : decode cL_areSticks 59 = .ok (.if_icmp .ge 16, 3) := by decide +kernel
theorem dL_areSticks_62 : decode cL_areSticks 62 = .ok (.aload_n 0, 1) := by decide +kernel
theorem dL_areSticks_63 : decode cL_areSticks 63 = .ok (.iload_n 1, 1) := by decide +kernel
theorem dL_areSticks_64 : decode cL_areSticks 64 = .ok (.iload_n 3, 1) := by decide +kernel
theorem dL_areSticks_65 : decode cL_areSticks 65 = .ok (.iload 7, 2) := by decide +kernel
theorem dL_areSticks_67 : decode cL_areSticks 67 = .ok (.iconst 1, 1) := by decide +kernel
theorem dL_areSticks_68 : decode cL_areSticks 68 = .ok (.iadd, 1) := by decide +kernel
theorem dL_areSticks_69 : decode cL_areSticks 69 = .ok (.invokevirtual 67, 3) := by decide +kernel
theorem dL_areSticks_72 : decode cL_areSticks 72 = .ok (.goto 18, 3) := by decide +kernel
theorem dL_areSticks_75 : decode cL_areSticks 75 = .ok (.aload_n 0, 1) := by decide +kernel
theorem dL_areSticks_76 : decode cL_areSticks 76 = .ok (.iload_n 1, 1) := by decide +kernel
theorem dL_areSticks_77 : decode cL_areSticks 77 = .ok (.invokevirtual 50, 3) := by decide +kernel
theorem dL_areSticks_80 : decode cL_areSticks 80 = .ok (.ifCond .eq 7, 3) := by decide +kernel
theorem dL_areSticks_83 : decode cL_areSticks 83 = .ok (.iconst 0, 1) := by decide +kernel
theorem dL_areSticks_84 : decode cL_areSticks 84 = .ok (.goto 6, 3) := by decide +kernel
theorem dL_areSticks_87 : decode cL_areSticks 87 = .ok (.iload_n 2, 1) := by decide +kernel
theorem dL_areSticks_88 : decode cL_areSticks 88 = .ok (.iconst 1, 1) := by decide +kernel
theorem dL_areSticks_89 : decode cL_areSticks 89 = .ok (.isub, 1) := by decide +kernel
theorem dL_areSticks_90 : decode cL_areSticks 90 = .ok (.istore 9, 2) := by decide +kernel
theorem dL_areSticks_92 : decode cL_areSticks 92 = .ok (.aload_n 0, 1) := by decide +kernel
theorem dL_areSticks_93 : decode cL_areSticks 93 = .ok (.iload_n 1, 1) := by decide +kernel
theorem dL_areSticks_94 : decode cL_areSticks 94 = .ok (.iload_n 3, 1) := by decide +kernel
theorem dL_areSticks_95 : decode cL_areSticks 95 = .ok (.iload 7, 2) := by decide +kernel
theorem dL_areSticks_97 : decode cL_areSticks 97 = .ok (.invokevirtual 71, 3) := by decide +kernel
theorem dL_areSticks_100 : decode cL_areSticks 100 = .ok (.istore 10, 2) := by decide +kernel
theorem dL_areSticks_102 : decode cL_areSticks 102 = .ok (.iload 5, 2) := by decide +kernel
theorem dL_areSticks_104 : decode cL_areSticks 104 = .ok (.iload 10, 2) := by decide +kernel
theorem dL_areSticks_106 : decode cL_areSticks 106 = .ok (.iadd, 1) := by decide +kernel
theorem dL_areSticks_107 : decode cL_areSticks 107 = .ok (.istore 5, 2) := by decide +kernel
theorem dL_areSticks_109 : decode cL_areSticks 109 = .ok (.iload 8, 2) := by decide +kernel
theorem dL_areSticks_111 : decode cL_areSticks 111 = .ok (.iload 7, 2) := by decide +kernel
theorem dL_areSticks_113 : decode cL_areSticks 113 = .ok (.iload_n 3, 1) := by decide +kernel
theorem dL_areSticks_114 : decode cL_areSticks 114 = .ok (.ishl, 1) := by decide +kernel
theorem dL_areSticks_115 : decode cL_areSticks 115 = .ok (.if_icmp .ne 56, 3) := by decide +kernel
theorem dL_areSticks_118 : decode cL_areSticks 118 = .ok (.iload 8, 2) := by decide +kernel
theorem dL_areSticks_120 : decode cL_areSticks 120 = .ok (.iload_n 2, 1) := by decide +kernel
theorem dL_areSticks_121 : decode cL_areSticks 121 = .ok (.if_icmp .ge 50, 3) := by decide +kernel
theorem dL_areSticks_124 : decode cL_areSticks 124 = .ok (.iload 10, 2) := by decide +kernel
theorem dL_areSticks_126 : decode cL_areSticks 126 = .ok (.aload_n 0, 1) := by decide +kernel
theorem dL_areSticks_127 : decode cL_areSticks 127 = .ok (.iload_n 1, 1) := by decide +kernel
theorem dL_areSticks_128 : decode cL_areSticks 128 = .ok (.iload 8, 2) := by decide +kernel
theorem dL_areSticks_130 : decode cL_areSticks 130 = .ok (.iload 9, 2) := by decide +kernel
theorem dL_areSticks_132 : decode cL_areSticks 132 = .ok (.invokevirtual 74, 3) := by decide +kernel
theorem dL_areSticks_135 : decode cL_areSticks 135 = .ok (.if_icmp .ne 36, 3) := by decide +kernel
theorem dL_areSticks_138 : decode cL_areSticks 138 = .ok (.iload 10, 2) := by decide +kernel
theorem dL_areSticks_140 : decode cL_areSticks 140 = .ok (.aload_n 0, 1) := by decide +kernel
theorem dL_areSticks_141 : decode cL_areSticks 141 = .ok (.iload_n 1, 1) := by decide +kernel
theorem dL_areSticks_142 : decode cL_areSticks 142 = .ok (.iload_n 3, 1) := by decide +kernel
theorem dL_areSticks_143 : decode cL_areSticks 143 = .ok (.iload 6, 2) := by decide +kernel
theorem dL_areSticks_145 : decode cL_areSticks 145 = .ok (.invokevirtual 71, 3) := by decide +kernel
theorem dL_areSticks_148 : decode cL_areSticks 148 = .ok (.if_icmp .gt 23, 3) := by decide +kernel
theorem dL_areSticks_151 : decode cL_areSticks 151 = .ok (.iload 7, 2) := by decide +kernel
theorem dL_areSticks_153 : decode cL_areSticks 153 = .ok (.iload 6, 2) := by decide +kernel
theorem dL_areSticks_155 : decode cL_areSticks 155 = .ok (.if_icmp .ge 18, 3) := by decide +kernel
theorem dL_areSticks_158 : decode cL_areSticks 158 = .ok (.iload 10, 2) := by decide +kernel
theorem dL_areSticks_160 : decode cL_areSticks 160 = .ok (.aload_n 0, 1) := by decide +kernel
theorem dL_areSticks_161 : decode cL_areSticks 161 = .ok (.iload_n 1, 1) := by decide +kernel
theorem dL_areSticks_162 : decode cL_areSticks 162 = .ok (.iload_n 3, 1) := by decide +kernel
theorem dL_areSticks_163 : decode cL_areSticks 163 = .ok (.iload 6, 2) := by decide +kernel
theorem dL_areSticks_165 : decode cL_areSticks 165 = .ok (.invokevirtual 71, 3) := by decide +kernel
theorem dL_areSticks_168 : decode cL_areSticks 168 = .ok (.if_icmp .ne 5, 3) := by decide +kernel

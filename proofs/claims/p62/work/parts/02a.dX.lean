theorem dX1_init_0 : decode cX1_init 0 = .ok (.aload_n 0, 1) := by decide +kernel
theorem dX1_init_1 : decode cX1_init 1 = .ok (.invokespecial 3, 3) := by decide +kernel
theorem dX1_init_4 : decode cX1_init 4 = .ok (.aload_n 0, 1) := by decide +kernel
theorem dX1_init_5 : decode cX1_init 5 = .ok (.bipush 6, 2) := by decide +kernel
theorem dX1_init_7 : decode cX1_init 7 = .ok (.anewarray 9, 3) := by decide +kernel
theorem dX1_init_10 : decode cX1_init 10 = .ok (.putfield 11, 3) := by decide +kernel
theorem dX1_init_13 : decode cX1_init 13 = .ok (.iconst 0, 1) := by decide +kernel
theorem dX1_init_14 : decode cX1_init 14 = .ok (.istore_n 1, 1) := by decide +kernel
theorem dX1_init_15 : decode cX1_init 15 = .ok (.iload_n 1, 1) := by decide +kernel
theorem dX1_init_16 : decode cX1_init 16 = .ok (.bipush 6, 2) := by decide +kernel
theorem dX1_init_18 : decode cX1_init 18 = .ok (.if_icmp .ge 25, 3) := by decide +kernel
theorem dX1_init_21 : decode cX1_init 21 = .ok (.aload_n 0, 1) := by decide +kernel
theorem dX1_init_22 : decode cX1_init 22 = .ok (.getfield 11, 3) := by decide +kernel
theorem dX1_init_25 : decode cX1_init 25 = .ok (.iload_n 1, 1) := by decide +kernel
theorem dX1_init_26 : decode cX1_init 26 = .ok (.new 9, 3) := by decide +kernel
theorem dX1_init_29 : decode cX1_init 29 = .ok (.dup, 1) := by decide +kernel
theorem dX1_init_30 : decode cX1_init 30 = .ok (.sipush 129, 3) := by decide +kernel
theorem dX1_init_33 : decode cX1_init 33 = .ok (.invokespecial 17, 3) := by decide +kernel
theorem dX1_init_36 : decode cX1_init 36 = .ok (.aastore, 1) := by decide +kernel
theorem dX1_init_37 : decode cX1_init 37 = .ok (.iinc 1 1, 3) := by decide +kernel
theorem dX1_init_40 : decode cX1_init 40 = .ok (.goto (-25), 3) := by decide +kernel
theorem dX1_init_43 : decode cX1_init 43 = .ok (.return_, 1) := by decide +kernel
theorem dX1_copyFrom_0 : decode cX1_copyFrom 0 = .ok (.iconst 0, 1) := by decide +kernel
theorem dX1_copyFrom_1 : decode cX1_copyFrom 1 = .ok (.istore_n 2, 1) := by decide +kernel
theorem dX1_copyFrom_2 : decode cX1_copyFrom 2 = .ok (.iload_n 2, 1) := by decide +kernel
theorem dX1_copyFrom_3 : decode cX1_copyFrom 3 = .ok (.aload_n 1, 1) := by decide +kernel
theorem dX1_copyFrom_4 : decode cX1_copyFrom 4 = .ok (.getfield 20, 3) := by decide +kernel
theorem dX1_copyFrom_7 : decode cX1_copyFrom 7 = .ok (.if_icmp .ge 24, 3) := by decide +kernel
theorem dX1_copyFrom_10 : decode cX1_copyFrom 10 = .ok (.aload_n 0, 1) := by decide +kernel
theorem dX1_copyFrom_11 : decode cX1_copyFrom 11 = .ok (.getfield 11, 3) := by decide +kernel
theorem dX1_copyFrom_14 : decode cX1_copyFrom 14 = .ok (.iload_n 2, 1) := by decide +kernel
theorem dX1_copyFrom_15 : decode cX1_copyFrom 15 = .ok (.aaload, 1) := by decide +kernel
theorem dX1_copyFrom_16 : decode cX1_copyFrom 16 = .ok (.aload_n 1, 1) := by decide +kernel
theorem dX1_copyFrom_17 : decode cX1_copyFrom 17 = .ok (.getfield 11, 3) := by decide +kernel
theorem dX1_copyFrom_20 : decode cX1_copyFrom 20 = .ok (.iload_n 2, 1) := by decide +kernel
theorem dX1_copyFrom_21 : decode cX1_copyFrom 21 = .ok (.aaload, 1) := by decide +kernel
theorem dX1_copyFrom_22 : decode cX1_copyFrom 22 = .ok (.invokevirtual 24, 3) := by decide +kernel
theorem dX1_copyFrom_25 : decode cX1_copyFrom 25 = .ok (.iinc 2 1, 3) := by decide +kernel
theorem dX1_copyFrom_28 : decode cX1_copyFrom 28 = .ok (.goto (-26), 3) := by decide +kernel
theorem dX1_copyFrom_31 : decode cX1_copyFrom 31 = .ok (.aload_n 0, 1) := by decide +kernel
theorem dX1_copyFrom_32 : decode cX1_copyFrom 32 = .ok (.aload_n 1, 1) := by decide +kernel
theorem dX1_copyFrom_33 : decode cX1_copyFrom 33 = .ok (.getfield 20, 3) := by decide +kernel
theorem dX1_copyFrom_36 : decode cX1_copyFrom 36 = .ok (.putfield 20, 3) := by decide +kernel
theorem dX1_copyFrom_39 : decode cX1_copyFrom 39 = .ok (.aload_n 0, 1) := by decide +kernel
theorem dX1_copyFrom_40 : decode cX1_copyFrom 40 = .ok (.aload_n 1, 1) := by decide +kernel
theorem dX1_copyFrom_41 : decode cX1_copyFrom 41 = .ok (.getfield 28, 3) := by decide +kernel
theorem dX1_copyFrom_44 : decode cX1_copyFrom 44 = .ok (.putfield 28, 3) := by decide +kernel
theorem dX1_copyFrom_47 : decode cX1_copyFrom 47 = .ok (.aload_n 0, 1) := by decide +kernel
theorem dX1_copyFrom_48 : decode cX1_copyFrom 48 = .ok (.aload_n 1, 1) := by decide +kernel
theorem dX1_copyFrom_49 : decode cX1_copyFrom 49 = .ok (.getfield 32, 3) := by decide +kernel
theorem dX1_copyFrom_52 : decode cX1_copyFrom 52 = .ok (.putfield 32, 3) := by decide +kernel
theorem dX1_copyFrom_55 : decode cX1_copyFrom 55 = .ok (.aload_n 0, 1) := by decide +kernel
theorem dX1_copyFrom_56 : decode cX1_copyFrom 56 = .ok (.aload_n 1, 1) := by decide +kernel
theorem dX1_copyFrom_57 : decode cX1_copyFrom 57 = .ok (.getfield 35, 3) := by decide +kernel
theorem dX1_copyFrom_60 : decode cX1_copyFrom 60 = .ok (.putfield 35, 3) := by decide +kernel
theorem dX1_copyFrom_63 : decode cX1_copyFrom 63 = .ok (.aload_n 0, 1) := by decide +kernel
theorem dX1_copyFrom_64 : decode cX1_copyFrom 64 = .ok (.aload_n 1, 1) := by decide +kernel
theorem dX1_copyFrom_65 : decode cX1_copyFrom 65 = .ok (.getfield 38, 3) := by decide +kernel
theorem dX1_copyFrom_68 : decode cX1_copyFrom 68 = .ok (.putfield 38, 3) := by decide +kernel
theorem dX1_copyFrom_71 : decode cX1_copyFrom 71 = .ok (.return_, 1) := by decide +kernel
theorem dX1_place_0 : decode cX1_place 0 = .ok (.aload_n 0, 1) := by decide +kernel
theorem dX1_place_1 : decode cX1_place 1 = .ok (.getfield 11, 3) := by decide +kernel
theorem dX1_place_4 : decode cX1_place 4 = .ok (.aload_n 0, 1) := by decide +kernel
theorem dX1_place_5 : decode cX1_place 5 = .ok (.getfield 20, 3) := by decide +kernel
theorem dX1_place_8 : decode cX1_place 8 = .ok (.aaload, 1) := by decide +kernel
theorem dX1_place_9 : decode cX1_place 9 = .ok (.astore_n 3, 1) := by decide +kernel
theorem dX1_place_10 : decode cX1_place 10 = .ok (.aload_n 3, 1) := by decide +kernel
theorem dX1_place_11 : decode cX1_place 11 = .ok (.iload_n 2, 1) := by decide +kernel
theorem dX1_place_12 : decode cX1_place 12 = .ok (.putfield 41, 3) := by decide +kernel
theorem dX1_place_15 : decode cX1_place 15 = .ok (.iconst 0, 1) := by decide +kernel
theorem dX1_place_16 : decode cX1_place 16 = .ok (.istore 4, 2) := by decide +kernel
theorem dX1_place_18 : decode cX1_place 18 = .ok (.iload 4, 2) := by decide +kernel
theorem dX1_place_20 : decode cX1_place 20 = .ok (.iconst 1, 1) := by decide +kernel
theorem dX1_place_21 : decode cX1_place 21 = .ok (.iadd, 1) := by decide +kernel
theorem dX1_place_22 : decode cX1_place 22 = .ok (.aload_n 1, 1) := by decide +kernel
theorem dX1_place_23 : decode cX1_place 23 = .ok (.arraylength, 1) := by decide +kernel
theorem dX1_place_24 : decode cX1_place 24 = .ok (.if_icmp .ge 27, 3) := by decide +kernel
theorem dX1_place_27 : decode cX1_place 27 = .ok (.aload_n 3, 1) := by decide +kernel
theorem dX1_place_28 : decode cX1_place 28 = .ok (.aload_n 3, 1) := by decide +kernel
theorem dX1_place_29 : decode cX1_place 29 = .ok (.getfield 44, 3) := by decide +kernel
theorem dX1_place_32 : decode cX1_place 32 = .ok (.aload_n 1, 1) := by decide +kernel
theorem dX1_place_33 : decode cX1_place 33 = .ok (.iload 4, 2) := by decide +kernel
theorem dX1_place_35 : decode cX1_place 35 = .ok (.iaload, 1) := by decide +kernel
theorem dX1_place_36 : decode cX1_place 36 = .ok (.aload_n 1, 1) := by decide +kernel
theorem dX1_place_37 : decode cX1_place 37 = .ok (.iload 4, 2) := by decide +kernel
theorem dX1_place_39 : decode cX1_place 39 = .ok (.iconst 1, 1) := by decide +kernel
theorem dX1_place_40 : decode cX1_place 40 = .ok (.iadd, 1) := by decide +kernel
theorem dX1_place_41 : decode cX1_place 41 = .ok (.iaload, 1) := by decide +kernel
theorem dX1_place_42 : decode cX1_place 42 = .ok (.invokevirtual 45, 3) := by decide +kernel
theorem dX1_place_45 : decode cX1_place 45 = .ok (.iinc 4 2, 3) := by decide +kernel
theorem dX1_place_48 : decode cX1_place 48 = .ok (.goto (-30), 3) := by decide +kernel
theorem dX1_place_51 : decode cX1_place 51 = .ok (.aload_n 0, 1) := by decide +kernel
theorem dX1_place_52 : decode cX1_place 52 = .ok (.dup, 1) := by decide +kernel
theorem dX1_place_53 : decode cX1_place 53 = .ok (.getfield 20, 3) := by decide +kernel
theorem dX1_place_56 : decode cX1_place 56 = .ok (.iconst 1, 1) := by decide +kernel
theorem dX1_place_57 : decode cX1_place 57 = .ok (.iadd, 1) := by decide +kernel
theorem dX1_place_58 : decode cX1_place 58 = .ok (.putfield 20, 3) := by decide +kernel
theorem dX1_place_61 : decode cX1_place 61 = .ok (.return_, 1) := by decide +kernel
theorem dX1_startLedgers_0 : decode cX1_startLedgers 0 = .ok (.aload_n 0, 1) := by decide +kernel
theorem dX1_startLedgers_1 : decode cX1_startLedgers 1 = .ok (.aload_n 0, 1) := by decide +kernel
theorem dX1_startLedgers_2 : decode cX1_startLedgers 2 = .ok (.invokevirtual 49, 3) := by decide +kernel
theorem dX1_startLedgers_5 : decode cX1_startLedgers 5 = .ok (.putfield 32, 3) := by decide +kernel
theorem dX1_startLedgers_8 : decode cX1_startLedgers 8 = .ok (.aload_n 0, 1) := by decide +kernel
theorem dX1_startLedgers_9 : decode cX1_startLedgers 9 = .ok (.iconst 0, 1) := by decide +kernel
theorem dX1_startLedgers_10 : decode cX1_startLedgers 10 = .ok (.putfield 35, 3) := by decide +kernel
theorem dX1_startLedgers_13 : decode cX1_startLedgers 13 = .ok (.aload_n 0, 1) := by decide +kernel
theorem dX1_startLedgers_14 : decode cX1_startLedgers 14 = .ok (.iconst 0, 1) := by decide +kernel
theorem dX1_startLedgers_15 : decode cX1_startLedgers 15 = .ok (.putfield 38, 3) := by decide +kernel
theorem dX1_startLedgers_18 : decode cX1_startLedgers 18 = .ok (.return_, 1) := by decide +kernel
theorem dX1_pointTotal_0 : decode cX1_pointTotal 0 = .ok (.iconst 0, 1) := by decide +kernel
theorem dX1_pointTotal_1 : decode cX1_pointTotal 1 = .ok (.istore_n 1, 1) := by decide +kernel
theorem dX1_pointTotal_2 : decode cX1_pointTotal 2 = .ok (.iconst 0, 1) := by decide +kernel
theorem dX1_pointTotal_3 : decode cX1_pointTotal 3 = .ok (.istore_n 2, 1) := by decide +kernel
theorem dX1_pointTotal_4 : decode cX1_pointTotal 4 = .ok (.iload_n 2, 1) := by decide +kernel
theorem dX1_pointTotal_5 : decode cX1_pointTotal 5 = .ok (.aload_n 0, 1) := by decide +kernel
theorem dX1_pointTotal_6 : decode cX1_pointTotal 6 = .ok (.getfield 20, 3) := by decide +kernel
theorem dX1_pointTotal_9 : decode cX1_pointTotal 9 = .ok (.if_icmp .ge 21, 3) := by decide +kernel
theorem dX1_pointTotal_12 : decode cX1_pointTotal 12 = .ok (.iload_n 1, 1) := by decide +kernel
theorem dX1_pointTotal_13 : decode cX1_pointTotal 13 = .ok (.aload_n 0, 1) := by decide +kernel
theorem dX1_pointTotal_14 : decode cX1_pointTotal 14 = .ok (.getfield 11, 3) := by decide +kernel
theorem dX1_pointTotal_17 : decode cX1_pointTotal 17 = .ok (.iload_n 2, 1) := by decide +kernel
theorem dX1_pointTotal_18 : decode cX1_pointTotal 18 = .ok (.aaload, 1) := by decide +kernel
theorem dX1_pointTotal_19 : decode cX1_pointTotal 19 = .ok (.getfield 44, 3) := by decide +kernel
theorem dX1_pointTotal_22 : decode cX1_pointTotal 22 = .ok (.iadd, 1) := by decide +kernel
theorem dX1_pointTotal_23 : decode cX1_pointTotal 23 = .ok (.istore_n 1, 1) := by decide +kernel
theorem dX1_pointTotal_24 : decode cX1_pointTotal 24 = .ok (.iinc 2 1, 3) := by decide +kernel
theorem dX1_pointTotal_27 : decode cX1_pointTotal 27 = .ok (.goto (-23), 3) := by decide +kernel
theorem dX1_pointTotal_30 : decode cX1_pointTotal 30 = .ok (.iload_n 1, 1) := by decide +kernel
theorem dX1_pointTotal_31 : decode cX1_pointTotal 31 = .ok (.ireturn, 1) := by decide +kernel
theorem dX1_hasCoast_0 : decode cX1_hasCoast 0 = .ok (.iload_n 1, 1) := by decide +kernel
theorem dX1_hasCoast_1 : decode cX1_hasCoast 1 = .ok (.ifCond .lt 15, 3) := by decide +kernel
theorem dX1_hasCoast_4 : decode cX1_hasCoast 4 = .ok (.iload_n 1, 1) := by decide +kernel
theorem dX1_hasCoast_5 : decode cX1_hasCoast 5 = .ok (.aload_n 0, 1) := by decide +kernel
theorem dX1_hasCoast_6 : decode cX1_hasCoast 6 = .ok (.getfield 20, 3) := by decide +kernel
theorem dX1_hasCoast_9 : decode cX1_hasCoast 9 = .ok (.if_icmp .ge 7, 3) := by decide +kernel
theorem dX1_hasCoast_12 : decode cX1_hasCoast 12 = .ok (.iconst 1, 1) := by decide +kernel
theorem dX1_hasCoast_13 : decode cX1_hasCoast 13 = .ok (.goto 4, 3) := by decide +kernel
theorem dX1_hasCoast_16 : decode cX1_hasCoast 16 = .ok (.iconst 0, 1) := by decide +kernel
theorem dX1_hasCoast_17 : decode cX1_hasCoast 17 = .ok (.ireturn, 1) := by decide +kernel
theorem dX1_surrounds_0 : decode cX1_surrounds 0 = .ok (.iload_n 1, 1) := by decide +kernel
theorem dX1_surrounds_1 : decode cX1_surrounds 1 = .ok (.iload_n 2, 1) := by decide +kernel
theorem dX1_surrounds_2 : decode cX1_surrounds 2 = .ok (.if_icmp .eq 37, 3) := by decide +kernel
theorem dX1_surrounds_5 : decode cX1_surrounds 5 = .ok (.aload_n 0, 1) := by decide +kernel
theorem dX1_surrounds_6 : decode cX1_surrounds 6 = .ok (.getfield 11, 3) := by decide +kernel
theorem dX1_surrounds_9 : decode cX1_surrounds 9 = .ok (.iload_n 1, 1) := by decide +kernel
theorem dX1_surrounds_10 : decode cX1_surrounds 10 = .ok (.aaload, 1) := by decide +kernel
theorem dX1_surrounds_11 : decode cX1_surrounds 11 = .ok (.getfield 41, 3) := by decide +kernel
theorem dX1_surrounds_14 : decode cX1_surrounds 14 = .ok (.ifCond .eq 25, 3) := by decide +kernel
theorem dX1_surrounds_17 : decode cX1_surrounds 17 = .ok (.aload_n 0, 1) := by decide +kernel
theorem dX1_surrounds_18 : decode cX1_surrounds 18 = .ok (.getfield 11, 3) := by decide +kernel
theorem dX1_surrounds_21 : decode cX1_surrounds 21 = .ok (.iload_n 1, 1) := by decide +kernel
theorem dX1_surrounds_22 : decode cX1_surrounds 22 = .ok (.aaload, 1) := by decide +kernel
theorem dX1_surrounds_23 : decode cX1_surrounds 23 = .ok (.aload_n 0, 1) := by decide +kernel
theorem dX1_surrounds_24 : decode cX1_surrounds 24 = .ok (.getfield 11, 3) := by decide +kernel
theorem dX1_surrounds_27 : decode cX1_surrounds 27 = .ok (.iload_n 2, 1) := by decide +kernel
theorem dX1_surrounds_28 : decode cX1_surrounds 28 = .ok (.aaload, 1) := by decide +kernel
theorem dX1_surrounds_29 : decode cX1_surrounds 29 = .ok (.invokevirtual 53, 3) := by decide +kernel
theorem dX1_surrounds_32 : decode cX1_surrounds 32 = .ok (.ifCond .eq 7, 3) := by decide +kernel
theorem dX1_surrounds_35 : decode cX1_surrounds 35 = .ok (.iconst 1, 1) := by decide +kernel
theorem dX1_surrounds_36 : decode cX1_surrounds 36 = .ok (.goto 4, 3) := by decide +kernel
theorem dX1_surrounds_39 : decode cX1_surrounds 39 = .ok (.iconst 0, 1) := by decide +kernel
theorem dX1_surrounds_40 : decode cX1_surrounds 40 = .ok (.ireturn, 1) := by decide +kernel
theorem dX1_refusalOf_0 : decode cX1_refusalOf 0 = .ok (.aload_n 1, 1) := by decide +kernel
theorem dX1_refusalOf_1 : decode cX1_refusalOf 1 = .ok (.getfield 57, 3) := by decide +kernel
theorem dX1_refusalOf_4 : decode cX1_refusalOf 4 = .ok (.astore_n 2, 1) := by decide +kernel
theorem dX1_refusalOf_5 : decode cX1_refusalOf 5 = .ok (.aload_n 2, 1) := by decide +kernel
theorem dX1_refusalOf_6 : decode cX1_refusalOf 6 = .ok (.getfield 63, 3) := by decide +kernel
theorem dX1_refusalOf_9 : decode cX1_refusalOf 9 = .ok (.ifCond .eq 18, 3) := by decide +kernel
theorem dX1_refusalOf_12 : decode cX1_refusalOf 12 = .ok (.aload_n 0, 1) := by decide +kernel
theorem dX1_refusalOf_13 : decode cX1_refusalOf 13 = .ok (.getfield 20, 3) := by decide +kernel
theorem dX1_refusalOf_16 : decode cX1_refusalOf 16 = .ok (.bipush 6, 2) := by decide +kernel
theorem dX1_refusalOf_18 : decode cX1_refusalOf 18 = .ok (.if_icmp .ge 7, 3) := by decide +kernel
theorem dX1_refusalOf_21 : decode cX1_refusalOf 21 = .ok (.iconst 0, 1) := by decide +kernel
theorem dX1_refusalOf_22 : decode cX1_refusalOf 22 = .ok (.goto 4, 3) := by decide +kernel
theorem dX1_refusalOf_25 : decode cX1_refusalOf 25 = .ok (.iconst 3, 1) := by decide +kernel
theorem dX1_refusalOf_26 : decode cX1_refusalOf 26 = .ok (.ireturn, 1) := by decide +kernel
theorem dX1_refusalOf_27 : decode cX1_refusalOf 27 = .ok (.aload_n 2, 1) := by decide +kernel
theorem dX1_refusalOf_28 : decode cX1_refusalOf 28 = .ok (.getstatic 68, 3) := by decide +kernel
theorem dX1_refusalOf_31 : decode cX1_refusalOf 31 = .ok (.if_acmp .ne 5, 3) := by decide +kernel
theorem dX1_refusalOf_34 : decode cX1_refusalOf 34 = .ok (.iconst 0, 1) := by decide +kernel
theorem dX1_refusalOf_35 : decode cX1_refusalOf 35 = .ok (.ireturn, 1) := by decide +kernel
theorem dX1_refusalOf_36 : decode cX1_refusalOf 36 = .ok (.aload_n 0, 1) := by decide +kernel
theorem dX1_refusalOf_37 : decode cX1_refusalOf 37 = .ok (.aload_n 1, 1) := by decide +kernel
theorem dX1_refusalOf_38 : decode cX1_refusalOf 38 = .ok (.getfield 71, 3) := by decide +kernel
theorem dX1_refusalOf_41 : decode cX1_refusalOf 41 = .ok (.invokevirtual 74, 3) := by decide +kernel
theorem dX1_refusalOf_44 : decode cX1_refusalOf 44 = .ok (.ifCond .ne 5, 3) := by decide +kernel
theorem dX1_refusalOf_47 : decode cX1_refusalOf 47 = .ok (.iconst 1, 1) := by decide +kernel
theorem dX1_refusalOf_48 : decode cX1_refusalOf 48 = .ok (.ireturn, 1) := by decide +kernel
theorem dX1_refusalOf_49 : decode cX1_refusalOf 49 = .ok (.aload_n 0, 1) := by decide +kernel
theorem dX1_refusalOf_50 : decode cX1_refusalOf 50 = .ok (.getfield 11, 3) := by decide +kernel
theorem dX1_refusalOf_53 : decode cX1_refusalOf 53 = .ok (.aload_n 1, 1) := by decide +kernel
theorem dX1_refusalOf_54 : decode cX1_refusalOf 54 = .ok (.getfield 71, 3) := by decide +kernel
theorem dX1_refusalOf_57 : decode cX1_refusalOf 57 = .ok (.aaload, 1) := by decide +kernel
theorem dX1_refusalOf_58 : decode cX1_refusalOf 58 = .ok (.astore_n 3, 1) := by decide +kernel
theorem dX1_refusalOf_59 : decode cX1_refusalOf 59 = .ok (.aload_n 2, 1) := by decide +kernel
theorem dX1_refusalOf_60 : decode cX1_refusalOf 60 = .ok (.getstatic 78, 3) := by decide +kernel
theorem dX1_refusalOf_63 : decode cX1_refusalOf 63 = .ok (.if_acmp .ne 12, 3) := by decide +kernel
theorem dX1_refusalOf_66 : decode cX1_refusalOf 66 = .ok (.aload_n 3, 1) := by decide +kernel
theorem dX1_refusalOf_67 : decode cX1_refusalOf 67 = .ok (.getfield 44, 3) := by decide +kernel
theorem dX1_refusalOf_70 : decode cX1_refusalOf 70 = .ok (.iconst 1, 1) := by decide +kernel
theorem dX1_refusalOf_71 : decode cX1_refusalOf 71 = .ok (.iadd, 1) := by decide +kernel
theorem dX1_refusalOf_72 : decode cX1_refusalOf 72 = .ok (.goto 7, 3) := by decide +kernel
theorem dX1_refusalOf_75 : decode cX1_refusalOf 75 = .ok (.aload_n 3, 1) := by decide +kernel
theorem dX1_refusalOf_76 : decode cX1_refusalOf 76 = .ok (.getfield 44, 3) := by decide +kernel
theorem dX1_refusalOf_79 : decode cX1_refusalOf 79 = .ok (.istore 4, 2) := by decide +kernel
theorem dX1_refusalOf_81 : decode cX1_refusalOf 81 = .ok (.aload_n 2, 1) := by decide +kernel
theorem dX1_refusalOf_82 : decode cX1_refusalOf 82 = .ok (.getfield 81, 3) := by decide +kernel
theorem dX1_refusalOf_85 : decode cX1_refusalOf 85 = .ok (.ifCond .eq 21, 3) := by decide +kernel
theorem dX1_refusalOf_88 : decode cX1_refusalOf 88 = .ok (.aload_n 1, 1) := by decide +kernel
theorem dX1_refusalOf_89 : decode cX1_refusalOf 89 = .ok (.getfield 84, 3) := by decide +kernel
theorem dX1_refusalOf_92 : decode cX1_refusalOf 92 = .ok (.ifCond .lt 12, 3) := by decide +kernel
theorem dX1_refusalOf_95 : decode cX1_refusalOf 95 = .ok (.aload_n 1, 1) := by decide +kernel
theorem dX1_refusalOf_96 : decode cX1_refusalOf 96 = .ok (.getfield 84, 3) := by decide +kernel
theorem dX1_refusalOf_99 : decode cX1_refusalOf 99 = .ok (.iload 4, 2) := by decide +kernel
theorem dX1_refusalOf_101 : decode cX1_refusalOf 101 = .ok (.if_icmp .lt 5, 3) := by decide +kernel
theorem dX1_refusalOf_104 : decode cX1_refusalOf 104 = .ok (.iconst 1, 1) := by decide +kernel
theorem dX1_refusalOf_105 : decode cX1_refusalOf 105 = .ok (.ireturn, 1) := by decide +kernel
theorem dX1_refusalOf_106 : decode cX1_refusalOf 106 = .ok (.aload_n 2, 1) := by decide +kernel
theorem dX1_refusalOf_107 : decode cX1_refusalOf 107 = .ok (.aload_n 1, 1) := by decide +kernel
theorem dX1_refusalOf_108 : decode cX1_refusalOf 108 = .ok (.getfield 87, 3) := by decide +kernel
theorem dX1_refusalOf_111 : decode cX1_refusalOf 111 = .ok (.invokevirtual 90, 3) := by decide +kernel
theorem dX1_refusalOf_114 : decode cX1_refusalOf 114 = .ok (.ifCond .eq 14, 3) := by decide +kernel
theorem dX1_refusalOf_117 : decode cX1_refusalOf 117 = .ok (.aload_n 2, 1) := by decide +kernel
theorem dX1_refusalOf_118 : decode cX1_refusalOf 118 = .ok (.aload_n 1, 1) := by decide +kernel
theorem dX1_refusalOf_119 : decode cX1_refusalOf 119 = .ok (.getfield 93, 3) := by decide +kernel
theorem dX1_refusalOf_122 : decode cX1_refusalOf 122 = .ok (.invokevirtual 90, 3) := by decide +kernel
theorem dX1_refusalOf_125 : decode cX1_refusalOf 125 = .ok (.ifCond .ne 5, 3) := by decide +kernel
theorem dX1_refusalOf_128 : decode cX1_refusalOf 128 = .ok (.iconst 2, 1) := by decide +kernel
theorem dX1_refusalOf_129 : decode cX1_refusalOf 129 = .ok (.ireturn, 1) := by decide +kernel
theorem dX1_refusalOf_130 : decode cX1_refusalOf 130 = .ok (.aload_n 0, 1) := by decide +kernel
theorem dX1_refusalOf_131 : decode cX1_refusalOf 131 = .ok (.aload_n 3, 1) := by decide +kernel
theorem dX1_refusalOf_132 : decode cX1_refusalOf 132 = .ok (.aload_n 1, 1) := by decide +kernel
theorem dX1_refusalOf_133 : decode cX1_refusalOf 133 = .ok (.invokevirtual 96, 3) := by decide +kernel
theorem dX1_refusalOf_136 : decode cX1_refusalOf 136 = .ok (.ifCond .eq 7, 3) := by decide +kernel
theorem dX1_refusalOf_139 : decode cX1_refusalOf 139 = .ok (.iconst 0, 1) := by decide +kernel
theorem dX1_refusalOf_140 : decode cX1_refusalOf 140 = .ok (.goto 4, 3) := by decide +kernel
theorem dX1_refusalOf_143 : decode cX1_refusalOf 143 = .ok (.iconst 3, 1) := by decide +kernel
theorem dX1_refusalOf_144 : decode cX1_refusalOf 144 = .ok (.ireturn, 1) := by decide +kernel
theorem dX1_allowsChange_0 : decode cX1_allowsChange 0 = .ok (.getstatic 100, 3) := by decide +kernel
theorem dX1_allowsChange_3 : decode cX1_allowsChange 3 = .ok (.aload_n 2, 1) := by decide +kernel
theorem dX1_allowsChange_4 : decode cX1_allowsChange 4 = .ok (.getfield 57, 3) := by decide +kernel
theorem dX1_allowsChange_7 : decode cX1_allowsChange 7 = .ok (.invokevirtual 106, 3) := by decide +kernel
theorem dX1_allowsChange_10 : decode cX1_allowsChange 10 = .ok (.iaload, 1) := by decide +kernel
theorem dX1_allowsChange_11 : decode cX1_allowsChange 11 = .ok (.tableswitch 113 1 5 #[33, 50, 67, 83, 100], 33) := by decide +kernel
theorem dX1_allowsChange_44 : decode cX1_allowsChange 44 = .ok (.aload_n 1, 1) := by decide +kernel
theorem dX1_allowsChange_45 : decode cX1_allowsChange 45 = .ok (.aload_n 2, 1) := by decide +kernel
theorem dX1_allowsChange_46 : decode cX1_allowsChange 46 = .ok (.getfield 87, 3) := by decide +kernel
theorem dX1_allowsChange_49 : decode cX1_allowsChange 49 = .ok (.invokevirtual 109, 3) := by decide +kernel
theorem dX1_allowsChange_52 : decode cX1_allowsChange 52 = .ok (.ifCond .ne 7, 3) := by decide +kernel
theorem dX1_allowsChange_55 : decode cX1_allowsChange 55 = .ok (.iconst 1, 1) := by decide +kernel
theorem dX1_allowsChange_56 : decode cX1_allowsChange 56 = .ok (.goto 4, 3) := by decide +kernel
theorem dX1_allowsChange_59 : decode cX1_allowsChange 59 = .ok (.iconst 0, 1) := by decide +kernel
theorem dX1_allowsChange_60 : decode cX1_allowsChange 60 = .ok (.ireturn, 1) := by decide +kernel
theorem dX1_allowsChange_61 : decode cX1_allowsChange 61 = .ok (.aload_n 1, 1) := by decide +kernel
theorem dX1_allowsChange_62 : decode cX1_allowsChange 62 = .ok (.invokevirtual 113, 3) := by decide +kernel
theorem dX1_allowsChange_65 : decode cX1_allowsChange 65 = .ok (.aload_n 1, 1) := by decide +kernel
theorem dX1_allowsChange_66 : decode cX1_allowsChange 66 = .ok (.invokevirtual 116, 3) := by decide +kernel
theorem dX1_allowsChange_69 : decode cX1_allowsChange 69 = .ok (.if_icmp .lt 7, 3) := by decide +kernel
theorem dX1_allowsChange_72 : decode cX1_allowsChange 72 = .ok (.iconst 1, 1) := by decide +kernel
theorem dX1_allowsChange_73 : decode cX1_allowsChange 73 = .ok (.goto 4, 3) := by decide +kernel
theorem dX1_allowsChange_76 : decode cX1_allowsChange 76 = .ok (.iconst 0, 1) := by decide +kernel
theorem dX1_allowsChange_77 : decode cX1_allowsChange 77 = .ok (.ireturn, 1) := by decide +kernel
theorem dX1_allowsChange_78 : decode cX1_allowsChange 78 = .ok (.aload_n 1, 1) := by decide +kernel
theorem dX1_allowsChange_79 : decode cX1_allowsChange 79 = .ok (.getfield 44, 3) := by decide +kernel
theorem dX1_allowsChange_82 : decode cX1_allowsChange 82 = .ok (.sipush 129, 3) := by decide +kernel
theorem dX1_allowsChange_85 : decode cX1_allowsChange 85 = .ok (.if_icmp .ge 7, 3) := by decide +kernel
theorem dX1_allowsChange_88 : decode cX1_allowsChange 88 = .ok (.iconst 1, 1) := by decide +kernel
theorem dX1_allowsChange_89 : decode cX1_allowsChange 89 = .ok (.goto 4, 3) := by decide +kernel
theorem dX1_allowsChange_92 : decode cX1_allowsChange 92 = .ok (.iconst 0, 1) := by decide +kernel
theorem dX1_allowsChange_93 : decode cX1_allowsChange 93 = .ok (.ireturn, 1) := by decide +kernel
theorem dX1_allowsChange_94 : decode cX1_allowsChange 94 = .ok (.aload_n 1, 1) := by decide +kernel
theorem dX1_allowsChange_95 : decode cX1_allowsChange 95 = .ok (.getfield 44, 3) := by decide +kernel
theorem dX1_allowsChange_98 : decode cX1_allowsChange 98 = .ok (.aload_n 1, 1) := by decide +kernel
theorem dX1_allowsChange_99 : decode cX1_allowsChange 99 = .ok (.invokevirtual 116, 3) := by decide +kernel
theorem dX1_allowsChange_102 : decode cX1_allowsChange 102 = .ok (.if_icmp .le 7, 3) := by decide +kernel
theorem dX1_allowsChange_105 : decode cX1_allowsChange 105 = .ok (.iconst 1, 1) := by decide +kernel
theorem dX1_allowsChange_106 : decode cX1_allowsChange 106 = .ok (.goto 4, 3) := by decide +kernel
theorem dX1_allowsChange_109 : decode cX1_allowsChange 109 = .ok (.iconst 0, 1) := by decide +kernel
theorem dX1_allowsChange_110 : decode cX1_allowsChange 110 = .ok (.ireturn, 1) := by decide +kernel
theorem dX1_allowsChange_111 : decode cX1_allowsChange 111 = .ok (.aload_n 1, 1) := by decide +kernel
theorem dX1_allowsChange_112 : decode cX1_allowsChange 112 = .ok (.aload_n 2, 1) := by decide +kernel
theorem dX1_allowsChange_113 : decode cX1_allowsChange 113 = .ok (.getfield 87, 3) := by decide +kernel
theorem dX1_allowsChange_116 : decode cX1_allowsChange 116 = .ok (.aload_n 2, 1) := by decide +kernel
theorem dX1_allowsChange_117 : decode cX1_allowsChange 117 = .ok (.getfield 93, 3) := by decide +kernel
theorem dX1_allowsChange_120 : decode cX1_allowsChange 120 = .ok (.invokevirtual 119, 3) := by decide +kernel
theorem dX1_allowsChange_123 : decode cX1_allowsChange 123 = .ok (.ireturn, 1) := by decide +kernel
theorem dX1_allowsChange_124 : decode cX1_allowsChange 124 = .ok (.iconst 1, 1) := by decide +kernel
theorem dX1_allowsChange_125 : decode cX1_allowsChange 125 = .ok (.ireturn, 1) := by decide +kernel
theorem dX1_apply_0 : decode cX1_apply 0 = .ok (.getstatic 100, 3) := by decide +kernel
theorem dX1_apply_3 : decode cX1_apply 3 = .ok (.aload_n 1, 1) := by decide +kernel
theorem dX1_apply_4 : decode cX1_apply 4 = .ok (.getfield 57, 3) := by decide +kernel
theorem dX1_apply_7 : decode cX1_apply 7 = .ok (.invokevirtual 106, 3) := by decide +kernel
theorem dX1_apply_10 : decode cX1_apply 10 = .ok (.iaload, 1) := by decide +kernel
theorem dX1_apply_11 : decode cX1_apply 11 = .ok (.tableswitch 89 6 10 #[33, 33, 42, 65, 74], 33) := by decide +kernel
theorem dX1_apply_44 : decode cX1_apply 44 = .ok (.aload_n 0, 1) := by decide +kernel
theorem dX1_apply_45 : decode cX1_apply 45 = .ok (.aload_n 1, 1) := by decide +kernel
theorem dX1_apply_46 : decode cX1_apply 46 = .ok (.getfield 123, 3) := by decide +kernel
theorem dX1_apply_49 : decode cX1_apply 49 = .ok (.invokevirtual 127, 3) := by decide +kernel
theorem dX1_apply_52 : decode cX1_apply 52 = .ok (.ireturn, 1) := by decide +kernel
theorem dX1_apply_53 : decode cX1_apply 53 = .ok (.aload_n 0, 1) := by decide +kernel
theorem dX1_apply_54 : decode cX1_apply 54 = .ok (.getfield 28, 3) := by decide +kernel
theorem dX1_apply_57 : decode cX1_apply 57 = .ok (.ifCond .eq 7, 3) := by decide +kernel
theorem dX1_apply_60 : decode cX1_apply 60 = .ok (.iconst 1, 1) := by decide +kernel
theorem dX1_apply_61 : decode cX1_apply 61 = .ok (.goto 4, 3) := by decide +kernel
theorem dX1_apply_64 : decode cX1_apply 64 = .ok (.iconst 0, 1) := by decide +kernel
theorem dX1_apply_65 : decode cX1_apply 65 = .ok (.istore_n 2, 1) := by decide +kernel
theorem dX1_apply_66 : decode cX1_apply 66 = .ok (.aload_n 0, 1) := by decide +kernel
theorem dX1_apply_67 : decode cX1_apply 67 = .ok (.aload_n 1, 1) := by decide +kernel
theorem dX1_apply_68 : decode cX1_apply 68 = .ok (.getfield 131, 3) := by decide +kernel
theorem dX1_apply_71 : decode cX1_apply 71 = .ok (.putfield 28, 3) := by decide +kernel
theorem dX1_apply_74 : decode cX1_apply 74 = .ok (.iload_n 2, 1) := by decide +kernel
theorem dX1_apply_75 : decode cX1_apply 75 = .ok (.ireturn, 1) := by decide +kernel
theorem dX1_apply_76 : decode cX1_apply 76 = .ok (.aload_n 0, 1) := by decide +kernel
theorem dX1_apply_77 : decode cX1_apply 77 = .ok (.aload_n 1, 1) := by decide +kernel
theorem dX1_apply_78 : decode cX1_apply 78 = .ok (.getfield 71, 3) := by decide +kernel
theorem dX1_apply_81 : decode cX1_apply 81 = .ok (.invokevirtual 132, 3) := by decide +kernel
theorem dX1_apply_84 : decode cX1_apply 84 = .ok (.ireturn, 1) := by decide +kernel
theorem dX1_apply_85 : decode cX1_apply 85 = .ok (.aload_n 0, 1) := by decide +kernel
theorem dX1_apply_86 : decode cX1_apply 86 = .ok (.aload_n 0, 1) := by decide +kernel
theorem dX1_apply_87 : decode cX1_apply 87 = .ok (.getfield 11, 3) := by decide +kernel
theorem dX1_apply_90 : decode cX1_apply 90 = .ok (.aload_n 1, 1) := by decide +kernel
theorem dX1_apply_91 : decode cX1_apply 91 = .ok (.getfield 71, 3) := by decide +kernel
theorem dX1_apply_94 : decode cX1_apply 94 = .ok (.aaload, 1) := by decide +kernel
theorem dX1_apply_95 : decode cX1_apply 95 = .ok (.aload_n 1, 1) := by decide +kernel
theorem dX1_apply_96 : decode cX1_apply 96 = .ok (.invokevirtual 135, 3) := by decide +kernel
theorem dX1_apply_99 : decode cX1_apply 99 = .ok (.ireturn, 1) := by decide +kernel
theorem dX1_apply_100 : decode cX1_apply 100 = .ok (.aload_n 0, 1) := by decide +kernel
theorem dX1_apply_101 : decode cX1_apply 101 = .ok (.getfield 11, 3) := by decide +kernel
theorem dX1_apply_104 : decode cX1_apply 104 = .ok (.aload_n 1, 1) := by decide +kernel
theorem dX1_apply_105 : decode cX1_apply 105 = .ok (.getfield 71, 3) := by decide +kernel
theorem dX1_apply_108 : decode cX1_apply 108 = .ok (.aaload, 1) := by decide +kernel
theorem dX1_apply_109 : decode cX1_apply 109 = .ok (.astore_n 3, 1) := by decide +kernel
theorem dX1_apply_110 : decode cX1_apply 110 = .ok (.aload_n 3, 1) := by decide +kernel
theorem dX1_apply_111 : decode cX1_apply 111 = .ok (.getfield 44, 3) := by decide +kernel
theorem dX1_apply_114 : decode cX1_apply 114 = .ok (.istore 4, 2) := by decide +kernel
theorem dX1_apply_116 : decode cX1_apply 116 = .ok (.aload_n 0, 1) := by decide +kernel
theorem dX1_apply_117 : decode cX1_apply 117 = .ok (.aload_n 3, 1) := by decide +kernel
theorem dX1_apply_118 : decode cX1_apply 118 = .ok (.aload_n 1, 1) := by decide +kernel
theorem dX1_apply_119 : decode cX1_apply 119 = .ok (.invokevirtual 139, 3) := by decide +kernel
theorem dX1_apply_122 : decode cX1_apply 122 = .ok (.aload_n 0, 1) := by decide +kernel
theorem dX1_apply_123 : decode cX1_apply 123 = .ok (.dup, 1) := by decide +kernel
theorem dX1_apply_124 : decode cX1_apply 124 = .ok (.getfield 35, 3) := by decide +kernel
theorem dX1_apply_127 : decode cX1_apply 127 = .ok (.iconst 0, 1) := by decide +kernel
theorem dX1_apply_128 : decode cX1_apply 128 = .ok (.aload_n 3, 1) := by decide +kernel
theorem dX1_apply_129 : decode cX1_apply 129 = .ok (.getfield 44, 3) := by decide +kernel
theorem dX1_apply_132 : decode cX1_apply 132 = .ok (.iload 4, 2) := by decide +kernel
theorem dX1_apply_134 : decode cX1_apply 134 = .ok (.isub, 1) := by decide +kernel
theorem dX1_apply_135 : decode cX1_apply 135 = .ok (.invokestatic 143, 3) := by decide +kernel
theorem dX1_apply_138 : decode cX1_apply 138 = .ok (.iadd, 1) := by decide +kernel
theorem dX1_apply_139 : decode cX1_apply 139 = .ok (.putfield 35, 3) := by decide +kernel
theorem dX1_apply_142 : decode cX1_apply 142 = .ok (.aload_n 0, 1) := by decide +kernel
theorem dX1_apply_143 : decode cX1_apply 143 = .ok (.dup, 1) := by decide +kernel
theorem dX1_apply_144 : decode cX1_apply 144 = .ok (.getfield 38, 3) := by decide +kernel
theorem dX1_apply_147 : decode cX1_apply 147 = .ok (.iconst 0, 1) := by decide +kernel
theorem dX1_apply_148 : decode cX1_apply 148 = .ok (.iload 4, 2) := by decide +kernel
theorem dX1_apply_150 : decode cX1_apply 150 = .ok (.aload_n 3, 1) := by decide +kernel
theorem dX1_apply_151 : decode cX1_apply 151 = .ok (.getfield 44, 3) := by decide +kernel
theorem dX1_apply_154 : decode cX1_apply 154 = .ok (.isub, 1) := by decide +kernel
theorem dX1_apply_155 : decode cX1_apply 155 = .ok (.invokestatic 143, 3) := by decide +kernel
theorem dX1_apply_158 : decode cX1_apply 158 = .ok (.iadd, 1) := by decide +kernel
theorem dX1_apply_159 : decode cX1_apply 159 = .ok (.putfield 38, 3) := by decide +kernel
theorem dX1_apply_162 : decode cX1_apply 162 = .ok (.aload_n 3, 1) := by decide +kernel
theorem dX1_apply_163 : decode cX1_apply 163 = .ok (.getfield 44, 3) := by decide +kernel
theorem dX1_apply_166 : decode cX1_apply 166 = .ok (.ireturn, 1) := by decide +kernel
theorem dX1_add_0 : decode cX1_add 0 = .ok (.aload_n 0, 1) := by decide +kernel
theorem dX1_add_1 : decode cX1_add 1 = .ok (.getfield 11, 3) := by decide +kernel
theorem dX1_add_4 : decode cX1_add 4 = .ok (.aload_n 0, 1) := by decide +kernel
theorem dX1_add_5 : decode cX1_add 5 = .ok (.getfield 20, 3) := by decide +kernel
theorem dX1_add_8 : decode cX1_add 8 = .ok (.aaload, 1) := by decide +kernel
theorem dX1_add_9 : decode cX1_add 9 = .ok (.aload_n 1, 1) := by decide +kernel
theorem dX1_add_10 : decode cX1_add 10 = .ok (.invokevirtual 24, 3) := by decide +kernel
theorem dX1_add_13 : decode cX1_add 13 = .ok (.aload_n 0, 1) := by decide +kernel
theorem dX1_add_14 : decode cX1_add 14 = .ok (.dup, 1) := by decide +kernel
theorem dX1_add_15 : decode cX1_add 15 = .ok (.getfield 35, 3) := by decide +kernel
theorem dX1_add_18 : decode cX1_add 18 = .ok (.aload_n 1, 1) := by decide +kernel
theorem dX1_add_19 : decode cX1_add 19 = .ok (.getfield 44, 3) := by decide +kernel
theorem dX1_add_22 : decode cX1_add 22 = .ok (.iadd, 1) := by decide +kernel
theorem dX1_add_23 : decode cX1_add 23 = .ok (.putfield 35, 3) := by decide +kernel
theorem dX1_add_26 : decode cX1_add 26 = .ok (.aload_n 0, 1) := by decide +kernel
theorem dX1_add_27 : decode cX1_add 27 = .ok (.dup, 1) := by decide +kernel
theorem dX1_add_28 : decode cX1_add 28 = .ok (.getfield 20, 3) := by decide +kernel
theorem dX1_add_31 : decode cX1_add 31 = .ok (.iconst 1, 1) := by decide +kernel
theorem dX1_add_32 : decode cX1_add 32 = .ok (.iadd, 1) := by decide +kernel
theorem dX1_add_33 : decode cX1_add 33 = .ok (.putfield 20, 3) := by decide +kernel
theorem dX1_add_36 : decode cX1_add 36 = .ok (.aload_n 0, 1) := by decide +kernel
theorem dX1_add_37 : decode cX1_add 37 = .ok (.getfield 20, 3) := by decide +kernel
theorem dX1_add_40 : decode cX1_add 40 = .ok (.iconst 1, 1) := by decide +kernel
theorem dX1_add_41 : decode cX1_add 41 = .ok (.isub, 1) := by decide +kernel
theorem dX1_add_42 : decode cX1_add 42 = .ok (.ireturn, 1) := by decide +kernel
theorem dX1_remove_0 : decode cX1_remove 0 = .ok (.aload_n 0, 1) := by decide +kernel
theorem dX1_remove_1 : decode cX1_remove 1 = .ok (.getfield 11, 3) := by decide +kernel
theorem dX1_remove_4 : decode cX1_remove 4 = .ok (.iload_n 1, 1) := by decide +kernel
theorem dX1_remove_5 : decode cX1_remove 5 = .ok (.aaload, 1) := by decide +kernel
theorem dX1_remove_6 : decode cX1_remove 6 = .ok (.astore_n 2, 1) := by decide +kernel
theorem dX1_remove_7 : decode cX1_remove 7 = .ok (.iload_n 1, 1) := by decide +kernel
theorem dX1_remove_8 : decode cX1_remove 8 = .ok (.istore_n 3, 1) := by decide +kernel
theorem dX1_remove_9 : decode cX1_remove 9 = .ok (.iload_n 3, 1) := by decide +kernel
theorem dX1_remove_10 : decode cX1_remove 10 = .ok (.iconst 1, 1) := by decide +kernel
theorem dX1_remove_11 : decode cX1_remove 11 = .ok (.iadd, 1) := by decide +kernel
theorem dX1_remove_12 : decode cX1_remove 12 = .ok (.aload_n 0, 1) := by decide +kernel
theorem dX1_remove_13 : decode cX1_remove 13 = .ok (.getfield 20, 3) := by decide +kernel
theorem dX1_remove_16 : decode cX1_remove 16 = .ok (.if_icmp .ge 23, 3) := by decide +kernel
theorem dX1_remove_19 : decode cX1_remove 19 = .ok (.aload_n 0, 1) := by decide +kernel
theorem dX1_remove_20 : decode cX1_remove 20 = .ok (.getfield 11, 3) := by decide +kernel
theorem dX1_remove_23 : decode cX1_remove 23 = .ok (.iload_n 3, 1) := by decide +kernel
theorem dX1_remove_24 : decode cX1_remove 24 = .ok (.aload_n 0, 1) := by decide +kernel
theorem dX1_remove_25 : decode cX1_remove 25 = .ok (.getfield 11, 3) := by decide +kernel
theorem dX1_remove_28 : decode cX1_remove 28 = .ok (.iload_n 3, 1) := by decide +kernel
theorem dX1_remove_29 : decode cX1_remove 29 = .ok (.iconst 1, 1) := by decide +kernel
theorem dX1_remove_30 : decode cX1_remove 30 = .ok (.iadd, 1) := by decide +kernel
theorem dX1_remove_31 : decode cX1_remove 31 = .ok (.aaload, 1) := by decide +kernel
theorem dX1_remove_32 : decode cX1_remove 32 = .ok (.aastore, 1) := by decide +kernel
theorem dX1_remove_33 : decode cX1_remove 33 = .ok (.iinc 3 1, 3) := by decide +kernel
theorem dX1_remove_36 : decode cX1_remove 36 = .ok (.goto (-27), 3) := by decide +kernel
theorem dX1_remove_39 : decode cX1_remove 39 = .ok (.aload_n 0, 1) := by decide +kernel
theorem dX1_remove_40 : decode cX1_remove 40 = .ok (.getfield 11, 3) := by decide +kernel
theorem dX1_remove_43 : decode cX1_remove 43 = .ok (.aload_n 0, 1) := by decide +kernel
theorem dX1_remove_44 : decode cX1_remove 44 = .ok (.getfield 20, 3) := by decide +kernel
theorem dX1_remove_47 : decode cX1_remove 47 = .ok (.iconst 1, 1) := by decide +kernel
theorem dX1_remove_48 : decode cX1_remove 48 = .ok (.isub, 1) := by decide +kernel
theorem dX1_remove_49 : decode cX1_remove 49 = .ok (.aload_n 2, 1) := by decide +kernel
theorem dX1_remove_50 : decode cX1_remove 50 = .ok (.aastore, 1) := by decide +kernel
theorem dX1_remove_51 : decode cX1_remove 51 = .ok (.aload_n 0, 1) := by decide +kernel
theorem dX1_remove_52 : decode cX1_remove 52 = .ok (.dup, 1) := by decide +kernel
theorem dX1_remove_53 : decode cX1_remove 53 = .ok (.getfield 20, 3) := by decide +kernel
theorem dX1_remove_56 : decode cX1_remove 56 = .ok (.iconst 1, 1) := by decide +kernel
theorem dX1_remove_57 : decode cX1_remove 57 = .ok (.isub, 1) := by decide +kernel
theorem dX1_remove_58 : decode cX1_remove 58 = .ok (.putfield 20, 3) := by decide +kernel
theorem dX1_remove_61 : decode cX1_remove 61 = .ok (.aload_n 0, 1) := by decide +kernel
theorem dX1_remove_62 : decode cX1_remove 62 = .ok (.dup, 1) := by decide +kernel
theorem dX1_remove_63 : decode cX1_remove 63 = .ok (.getfield 38, 3) := by decide +kernel
theorem dX1_remove_66 : decode cX1_remove 66 = .ok (.aload_n 2, 1) := by decide +kernel
theorem dX1_remove_67 : decode cX1_remove 67 = .ok (.getfield 44, 3) := by decide +kernel
theorem dX1_remove_70 : decode cX1_remove 70 = .ok (.iadd, 1) := by decide +kernel
theorem dX1_remove_71 : decode cX1_remove 71 = .ok (.putfield 38, 3) := by decide +kernel
theorem dX1_remove_74 : decode cX1_remove 74 = .ok (.aload_n 2, 1) := by decide +kernel
theorem dX1_remove_75 : decode cX1_remove 75 = .ok (.getfield 44, 3) := by decide +kernel
theorem dX1_remove_78 : decode cX1_remove 78 = .ok (.ireturn, 1) := by decide +kernel
theorem dX1_move_0 : decode cX1_move 0 = .ok (.aload_n 2, 1) := by decide +kernel
theorem dX1_move_1 : decode cX1_move 1 = .ok (.getfield 84, 3) := by decide +kernel
theorem dX1_move_4 : decode cX1_move 4 = .ok (.istore_n 3, 1) := by decide +kernel
theorem dX1_move_5 : decode cX1_move 5 = .ok (.aload_n 1, 1) := by decide +kernel
theorem dX1_move_6 : decode cX1_move 6 = .ok (.iload_n 3, 1) := by decide +kernel
theorem dX1_move_7 : decode cX1_move 7 = .ok (.aload_n 2, 1) := by decide +kernel
theorem dX1_move_8 : decode cX1_move 8 = .ok (.getfield 87, 3) := by decide +kernel
theorem dX1_move_11 : decode cX1_move 11 = .ok (.aload_n 2, 1) := by decide +kernel
theorem dX1_move_12 : decode cX1_move 12 = .ok (.getfield 93, 3) := by decide +kernel
theorem dX1_move_15 : decode cX1_move 15 = .ok (.aload_n 0, 1) := by decide +kernel
theorem dX1_move_16 : decode cX1_move 16 = .ok (.getfield 28, 3) := by decide +kernel
theorem dX1_move_19 : decode cX1_move 19 = .ok (.invokevirtual 149, 3) := by decide +kernel
theorem dX1_move_22 : decode cX1_move 22 = .ok (.istore 4, 2) := by decide +kernel
theorem dX1_move_24 : decode cX1_move 24 = .ok (.aload_n 1, 1) := by decide +kernel
theorem dX1_move_25 : decode cX1_move 25 = .ok (.getfield 153, 3) := by decide +kernel
theorem dX1_move_28 : decode cX1_move 28 = .ok (.iload_n 3, 1) := by decide +kernel
theorem dX1_move_29 : decode cX1_move 29 = .ok (.aload_n 2, 1) := by decide +kernel
theorem dX1_move_30 : decode cX1_move 30 = .ok (.getfield 87, 3) := by decide +kernel
theorem dX1_move_33 : decode cX1_move 33 = .ok (.iastore, 1) := by decide +kernel
theorem dX1_move_34 : decode cX1_move 34 = .ok (.aload_n 1, 1) := by decide +kernel
theorem dX1_move_35 : decode cX1_move 35 = .ok (.getfield 156, 3) := by decide +kernel
theorem dX1_move_38 : decode cX1_move 38 = .ok (.iload_n 3, 1) := by decide +kernel
theorem dX1_move_39 : decode cX1_move 39 = .ok (.aload_n 2, 1) := by decide +kernel
theorem dX1_move_40 : decode cX1_move 40 = .ok (.getfield 93, 3) := by decide +kernel
theorem dX1_move_43 : decode cX1_move 43 = .ok (.iastore, 1) := by decide +kernel
theorem dX1_move_44 : decode cX1_move 44 = .ok (.iload 4, 2) := by decide +kernel
theorem dX1_move_46 : decode cX1_move 46 = .ok (.ireturn, 1) := by decide +kernel
theorem dX1_reshape_0 : decode cX1_reshape 0 = .ok (.getstatic 100, 3) := by decide +kernel
theorem dX1_reshape_3 : decode cX1_reshape 3 = .ok (.aload_n 2, 1) := by decide +kernel
theorem dX1_reshape_4 : decode cX1_reshape 4 = .ok (.getfield 57, 3) := by decide +kernel
theorem dX1_reshape_7 : decode cX1_reshape 7 = .ok (.invokevirtual 106, 3) := by decide +kernel
theorem dX1_reshape_10 : decode cX1_reshape 10 = .ok (.iaload, 1) := by decide +kernel
theorem dX1_reshape_11 : decode cX1_reshape 11 = .ok (.tableswitch 127 1 11 #[57, 68, 75, 94, 105, 127, 127, 127, 127, 127, 120], 57) := by decide +kernel
theorem dX1_reshape_68 : decode cX1_reshape 68 = .ok (.aload_n 1, 1) := by decide +kernel
theorem dX1_reshape_69 : decode cX1_reshape 69 = .ok (.aload_n 2, 1) := by decide +kernel
theorem dX1_reshape_70 : decode cX1_reshape 70 = .ok (.getfield 87, 3) := by decide +kernel
theorem dX1_reshape_73 : decode cX1_reshape 73 = .ok (.invokevirtual 159, 3) := by decide +kernel
theorem dX1_reshape_76 : decode cX1_reshape 76 = .ok (.goto 62, 3) := by decide +kernel
theorem dX1_reshape_79 : decode cX1_reshape 79 = .ok (.aload_n 1, 1) := by decide +kernel
theorem dX1_reshape_80 : decode cX1_reshape 80 = .ok (.invokevirtual 162, 3) := by decide +kernel
theorem dX1_reshape_83 : decode cX1_reshape 83 = .ok (.goto 55, 3) := by decide +kernel
theorem dX1_reshape_86 : decode cX1_reshape 86 = .ok (.aload_n 1, 1) := by decide +kernel
theorem dX1_reshape_87 : decode cX1_reshape 87 = .ok (.aload_n 2, 1) := by decide +kernel
theorem dX1_reshape_88 : decode cX1_reshape 88 = .ok (.getfield 84, 3) := by decide +kernel
theorem dX1_reshape_91 : decode cX1_reshape 91 = .ok (.aload_n 2, 1) := by decide +kernel
theorem dX1_reshape_92 : decode cX1_reshape 92 = .ok (.getfield 87, 3) := by decide +kernel
theorem dX1_reshape_95 : decode cX1_reshape 95 = .ok (.aload_n 2, 1) := by decide +kernel
theorem dX1_reshape_96 : decode cX1_reshape 96 = .ok (.getfield 93, 3) := by decide +kernel
theorem dX1_reshape_99 : decode cX1_reshape 99 = .ok (.invokevirtual 45, 3) := by decide +kernel
theorem dX1_reshape_102 : decode cX1_reshape 102 = .ok (.goto 36, 3) := by decide +kernel
theorem dX1_reshape_105 : decode cX1_reshape 105 = .ok (.aload_n 1, 1) := by decide +kernel
theorem dX1_reshape_106 : decode cX1_reshape 106 = .ok (.aload_n 2, 1) := by decide +kernel
theorem dX1_reshape_107 : decode cX1_reshape 107 = .ok (.getfield 84, 3) := by decide +kernel
theorem dX1_reshape_110 : decode cX1_reshape 110 = .ok (.invokevirtual 165, 3) := by decide +kernel
theorem dX1_reshape_113 : decode cX1_reshape 113 = .ok (.goto 25, 3) := by decide +kernel
theorem dX1_reshape_116 : decode cX1_reshape 116 = .ok (.aload_n 1, 1) := by decide +kernel
theorem dX1_reshape_117 : decode cX1_reshape 117 = .ok (.aload_n 2, 1) := by decide +kernel
theorem dX1_reshape_118 : decode cX1_reshape 118 = .ok (.getfield 87, 3) := by decide +kernel
theorem dX1_reshape_121 : decode cX1_reshape 121 = .ok (.aload_n 2, 1) := by decide +kernel
theorem dX1_reshape_122 : decode cX1_reshape 122 = .ok (.getfield 93, 3) := by decide +kernel
theorem dX1_reshape_125 : decode cX1_reshape 125 = .ok (.invokevirtual 168, 3) := by decide +kernel
theorem dX1_reshape_128 : decode cX1_reshape 128 = .ok (.goto 10, 3) := by decide +kernel
theorem dX1_reshape_131 : decode cX1_reshape 131 = .ok (.aload_n 1, 1) := by decide +kernel
theorem dX1_reshape_132 : decode cX1_reshape 132 = .ok (.invokevirtual 172, 3) := by decide +kernel
theorem dX1_reshape_135 : decode cX1_reshape 135 = .ok (.goto 3, 3) := by decide +kernel
theorem dX1_reshape_138 : decode cX1_reshape 138 = .ok (.return_, 1) := by decide +kernel
theorem dX2_init_0 : decode cX2_init 0 = .ok (.aload_n 0, 1) := by decide +kernel
theorem dX2_init_1 : decode cX2_init 1 = .ok (.invokespecial 3, 3) := by decide +kernel
theorem dX2_init_4 : decode cX2_init 4 = .ok (.aload_n 0, 1) := by decide +kernel
theorem dX2_init_5 : decode cX2_init 5 = .ok (.iload_n 1, 1) := by decide +kernel
theorem dX2_init_6 : decode cX2_init 6 = .ok (.newarray .int, 2) := by decide +kernel
theorem dX2_init_8 : decode cX2_init 8 = .ok (.putfield 9, 3) := by decide +kernel
theorem dX2_init_11 : decode cX2_init 11 = .ok (.aload_n 0, 1) := by decide +kernel
theorem dX2_init_12 : decode cX2_init 12 = .ok (.iload_n 1, 1) := by decide +kernel
theorem dX2_init_13 : decode cX2_init 13 = .ok (.newarray .int, 2) := by decide +kernel
theorem dX2_init_15 : decode cX2_init 15 = .ok (.putfield 15, 3) := by decide +kernel
theorem dX2_init_18 : decode cX2_init 18 = .ok (.return_, 1) := by decide +kernel
theorem dX2_copyFrom_0 : decode cX2_copyFrom 0 = .ok (.aload_n 1, 1) := by decide +kernel
theorem dX2_copyFrom_1 : decode cX2_copyFrom 1 = .ok (.getfield 9, 3) := by decide +kernel
theorem dX2_copyFrom_4 : decode cX2_copyFrom 4 = .ok (.iconst 0, 1) := by decide +kernel
theorem dX2_copyFrom_5 : decode cX2_copyFrom 5 = .ok (.aload_n 0, 1) := by decide +kernel
theorem dX2_copyFrom_6 : decode cX2_copyFrom 6 = .ok (.getfield 9, 3) := by decide +kernel
theorem dX2_copyFrom_9 : decode cX2_copyFrom 9 = .ok (.iconst 0, 1) := by decide +kernel
theorem dX2_copyFrom_10 : decode cX2_copyFrom 10 = .ok (.aload_n 1, 1) := by decide +kernel
theorem dX2_copyFrom_11 : decode cX2_copyFrom 11 = .ok (.getfield 18, 3) := by decide +kernel
theorem dX2_copyFrom_14 : decode cX2_copyFrom 14 = .ok (.invokestatic 22, 3) := by decide +kernel
theorem dX2_copyFrom_17 : decode cX2_copyFrom 17 = .ok (.aload_n 1, 1) := by decide +kernel
theorem dX2_copyFrom_18 : decode cX2_copyFrom 18 = .ok (.getfield 15, 3) := by decide +kernel
theorem dX2_copyFrom_21 : decode cX2_copyFrom 21 = .ok (.iconst 0, 1) := by decide +kernel
theorem dX2_copyFrom_22 : decode cX2_copyFrom 22 = .ok (.aload_n 0, 1) := by decide +kernel
theorem dX2_copyFrom_23 : decode cX2_copyFrom 23 = .ok (.getfield 15, 3) := by decide +kernel
theorem dX2_copyFrom_26 : decode cX2_copyFrom 26 = .ok (.iconst 0, 1) := by decide +kernel
theorem dX2_copyFrom_27 : decode cX2_copyFrom 27 = .ok (.aload_n 1, 1) := by decide +kernel
theorem dX2_copyFrom_28 : decode cX2_copyFrom 28 = .ok (.getfield 18, 3) := by decide +kernel
theorem dX2_copyFrom_31 : decode cX2_copyFrom 31 = .ok (.invokestatic 22, 3) := by decide +kernel
theorem dX2_copyFrom_34 : decode cX2_copyFrom 34 = .ok (.aload_n 0, 1) := by decide +kernel
theorem dX2_copyFrom_35 : decode cX2_copyFrom 35 = .ok (.aload_n 1, 1) := by decide +kernel
theorem dX2_copyFrom_36 : decode cX2_copyFrom 36 = .ok (.getfield 18, 3) := by decide +kernel
theorem dX2_copyFrom_39 : decode cX2_copyFrom 39 = .ok (.putfield 18, 3) := by decide +kernel
theorem dX2_copyFrom_42 : decode cX2_copyFrom 42 = .ok (.aload_n 0, 1) := by decide +kernel
theorem dX2_copyFrom_43 : decode cX2_copyFrom 43 = .ok (.aload_n 1, 1) := by decide +kernel
theorem dX2_copyFrom_44 : decode cX2_copyFrom 44 = .ok (.getfield 28, 3) := by decide +kernel
theorem dX2_copyFrom_47 : decode cX2_copyFrom 47 = .ok (.putfield 28, 3) := by decide +kernel
theorem dX2_copyFrom_50 : decode cX2_copyFrom 50 = .ok (.return_, 1) := by decide +kernel
theorem dX2_neededPoints_0 : decode cX2_neededPoints 0 = .ok (.aload_n 0, 1) := by decide +kernel
theorem dX2_neededPoints_1 : decode cX2_neededPoints 1 = .ok (.getfield 28, 3) := by decide +kernel
theorem dX2_neededPoints_4 : decode cX2_neededPoints 4 = .ok (.ifCond .eq 7, 3) := by decide +kernel
theorem dX2_neededPoints_7 : decode cX2_neededPoints 7 = .ok (.iconst 3, 1) := by decide +kernel
theorem dX2_neededPoints_8 : decode cX2_neededPoints 8 = .ok (.goto 4, 3) := by decide +kernel
theorem dX2_neededPoints_11 : decode cX2_neededPoints 11 = .ok (.iconst 2, 1) := by decide +kernel
theorem dX2_neededPoints_12 : decode cX2_neededPoints 12 = .ok (.ireturn, 1) := by decide +kernel
theorem dX2_segments_0 : decode cX2_segments 0 = .ok (.aload_n 0, 1) := by decide +kernel
theorem dX2_segments_1 : decode cX2_segments 1 = .ok (.getfield 28, 3) := by decide +kernel
theorem dX2_segments_4 : decode cX2_segments 4 = .ok (.ifCond .eq 10, 3) := by decide +kernel
theorem dX2_segments_7 : decode cX2_segments 7 = .ok (.aload_n 0, 1) := by decide +kernel
theorem dX2_segments_8 : decode cX2_segments 8 = .ok (.getfield 18, 3) := by decide +kernel
theorem dX2_segments_11 : decode cX2_segments 11 = .ok (.goto 9, 3) := by decide +kernel
theorem dX2_segments_14 : decode cX2_segments 14 = .ok (.aload_n 0, 1) := by decide +kernel
theorem dX2_segments_15 : decode cX2_segments 15 = .ok (.getfield 18, 3) := by decide +kernel
theorem dX2_segments_18 : decode cX2_segments 18 = .ok (.iconst 1, 1) := by decide +kernel
theorem dX2_segments_19 : decode cX2_segments 19 = .ok (.isub, 1) := by decide +kernel
theorem dX2_segments_20 : decode cX2_segments 20 = .ok (.ireturn, 1) := by decide +kernel
theorem dX2_segmentEnd_0 : decode cX2_segmentEnd 0 = .ok (.iload_n 1, 1) := by decide +kernel
theorem dX2_segmentEnd_1 : decode cX2_segmentEnd 1 = .ok (.iconst 1, 1) := by decide +kernel
theorem dX2_segmentEnd_2 : decode cX2_segmentEnd 2 = .ok (.iadd, 1) := by decide +kernel
theorem dX2_segmentEnd_3 : decode cX2_segmentEnd 3 = .ok (.aload_n 0, 1) := by decide +kernel
theorem dX2_segmentEnd_4 : decode cX2_segmentEnd 4 = .ok (.getfield 18, 3) := by decide +kernel
theorem dX2_segmentEnd_7 : decode cX2_segmentEnd 7 = .ok (.if_icmp .ge 9, 3) := by decide +kernel
theorem dX2_segmentEnd_10 : decode cX2_segmentEnd 10 = .ok (.iload_n 1, 1) := by decide +kernel
theorem dX2_segmentEnd_11 : decode cX2_segmentEnd 11 = .ok (.iconst 1, 1) := by decide +kernel
theorem dX2_segmentEnd_12 : decode cX2_segmentEnd 12 = .ok (.iadd, 1) := by decide +kernel
theorem dX2_segmentEnd_13 : decode cX2_segmentEnd 13 = .ok (.goto 4, 3) := by decide +kernel
theorem dX2_segmentEnd_16 : decode cX2_segmentEnd 16 = .ok (.iconst 0, 1) := by decide +kernel
theorem dX2_segmentEnd_17 : decode cX2_segmentEnd 17 = .ok (.ireturn, 1) := by decide +kernel
theorem dX2_distance_0 : decode cX2_distance 0 = .ok (.aload_n 0, 1) := by decide +kernel
theorem dX2_distance_1 : decode cX2_distance 1 = .ok (.iload_n 1, 1) := by decide +kernel
theorem dX2_distance_2 : decode cX2_distance 2 = .ok (.aload_n 0, 1) := by decide +kernel
theorem dX2_distance_3 : decode cX2_distance 3 = .ok (.getfield 9, 3) := by decide +kernel
theorem dX2_distance_6 : decode cX2_distance 6 = .ok (.iload_n 2, 1) := by decide +kernel
theorem dX2_distance_7 : decode cX2_distance 7 = .ok (.iaload, 1) := by decide +kernel
theorem dX2_distance_8 : decode cX2_distance 8 = .ok (.aload_n 0, 1) := by decide +kernel
theorem dX2_distance_9 : decode cX2_distance 9 = .ok (.getfield 15, 3) := by decide +kernel
theorem dX2_distance_12 : decode cX2_distance 12 = .ok (.iload_n 2, 1) := by decide +kernel
theorem dX2_distance_13 : decode cX2_distance 13 = .ok (.iaload, 1) := by decide +kernel
theorem dX2_distance_14 : decode cX2_distance 14 = .ok (.iload_n 3, 1) := by decide +kernel
theorem dX2_distance_15 : decode cX2_distance 15 = .ok (.invokevirtual 32, 3) := by decide +kernel
theorem dX2_distance_18 : decode cX2_distance 18 = .ok (.ireturn, 1) := by decide +kernel
theorem dX2_distanceTo_0 : decode cX2_distanceTo 0 = .ok (.aload_n 0, 1) := by decide +kernel
theorem dX2_distanceTo_1 : decode cX2_distanceTo 1 = .ok (.getfield 9, 3) := by decide +kernel
theorem dX2_distanceTo_4 : decode cX2_distanceTo 4 = .ok (.iload_n 1, 1) := by decide +kernel
theorem dX2_distanceTo_5 : decode cX2_distanceTo 5 = .ok (.iaload, 1) := by decide +kernel
theorem dX2_distanceTo_6 : decode cX2_distanceTo 6 = .ok (.iload_n 2, 1) := by decide +kernel
theorem dX2_distanceTo_7 : decode cX2_distanceTo 7 = .ok (.isub, 1) := by decide +kernel
theorem dX2_distanceTo_8 : decode cX2_distanceTo 8 = .ok (.invokestatic 36, 3) := by decide +kernel
theorem dX2_distanceTo_11 : decode cX2_distanceTo 11 = .ok (.istore 5, 2) := by decide +kernel
theorem dX2_distanceTo_13 : decode cX2_distanceTo 13 = .ok (.aload_n 0, 1) := by decide +kernel
theorem dX2_distanceTo_14 : decode cX2_distanceTo 14 = .ok (.getfield 15, 3) := by decide +kernel
theorem dX2_distanceTo_17 : decode cX2_distanceTo 17 = .ok (.iload_n 1, 1) := by decide +kernel
theorem dX2_distanceTo_18 : decode cX2_distanceTo 18 = .ok (.iaload, 1) := by decide +kernel
theorem dX2_distanceTo_19 : decode cX2_distanceTo 19 = .ok (.iload_n 3, 1) := by decide +kernel
theorem dX2_distanceTo_20 : decode cX2_distanceTo 20 = .ok (.isub, 1) := by decide +kernel
theorem dX2_distanceTo_21 : decode cX2_distanceTo 21 = .ok (.invokestatic 36, 3) := by decide +kernel
theorem dX2_distanceTo_24 : decode cX2_distanceTo 24 = .ok (.istore 6, 2) := by decide +kernel
theorem dX2_distanceTo_26 : decode cX2_distanceTo 26 = .ok (.iload 4, 2) := by decide +kernel
theorem dX2_distanceTo_28 : decode cX2_distanceTo 28 = .ok (.ifCond .eq 13, 3) := by decide +kernel
theorem dX2_distanceTo_31 : decode cX2_distanceTo 31 = .ok (.iload 5, 2) := by decide +kernel
theorem dX2_distanceTo_33 : decode cX2_distanceTo 33 = .ok (.iload 6, 2) := by decide +kernel
theorem dX2_distanceTo_35 : decode cX2_distanceTo 35 = .ok (.invokestatic 42, 3) := by decide +kernel
theorem dX2_distanceTo_38 : decode cX2_distanceTo 38 = .ok (.goto 8, 3) := by decide +kernel
theorem dX2_distanceTo_41 : decode cX2_distanceTo 41 = .ok (.iload 5, 2) := by decide +kernel
theorem dX2_distanceTo_43 : decode cX2_distanceTo 43 = .ok (.iload 6, 2) := by decide +kernel
theorem dX2_distanceTo_45 : decode cX2_distanceTo 45 = .ok (.iadd, 1) := by decide +kernel
theorem dX2_distanceTo_46 : decode cX2_distanceTo 46 = .ok (.ireturn, 1) := by decide +kernel
theorem dX2_nearestTo_0 : decode cX2_nearestTo 0 = .ok (.iconst 0, 1) := by decide +kernel
theorem dX2_nearestTo_1 : decode cX2_nearestTo 1 = .ok (.istore 4, 2) := by decide +kernel
theorem dX2_nearestTo_3 : decode cX2_nearestTo 3 = .ok (.iconst 1, 1) := by decide +kernel
theorem dX2_nearestTo_4 : decode cX2_nearestTo 4 = .ok (.istore 5, 2) := by decide +kernel
theorem dX2_nearestTo_6 : decode cX2_nearestTo 6 = .ok (.iload 5, 2) := by decide +kernel
theorem dX2_nearestTo_8 : decode cX2_nearestTo 8 = .ok (.aload_n 0, 1) := by decide +kernel
theorem dX2_nearestTo_9 : decode cX2_nearestTo 9 = .ok (.getfield 18, 3) := by decide +kernel
theorem dX2_nearestTo_12 : decode cX2_nearestTo 12 = .ok (.if_icmp .ge 34, 3) := by decide +kernel
theorem dX2_nearestTo_15 : decode cX2_nearestTo 15 = .ok (.aload_n 0, 1) := by decide +kernel
theorem dX2_nearestTo_16 : decode cX2_nearestTo 16 = .ok (.iload 5, 2) := by decide +kernel
theorem dX2_nearestTo_18 : decode cX2_nearestTo 18 = .ok (.iload_n 1, 1) := by decide +kernel
theorem dX2_nearestTo_19 : decode cX2_nearestTo 19 = .ok (.iload_n 2, 1) := by decide +kernel
theorem dX2_nearestTo_20 : decode cX2_nearestTo 20 = .ok (.iload_n 3, 1) := by decide +kernel
theorem dX2_nearestTo_21 : decode cX2_nearestTo 21 = .ok (.invokevirtual 32, 3) := by decide +kernel
theorem dX2_nearestTo_24 : decode cX2_nearestTo 24 = .ok (.aload_n 0, 1) := by decide +kernel
theorem dX2_nearestTo_25 : decode cX2_nearestTo 25 = .ok (.iload 4, 2) := by decide +kernel
theorem dX2_nearestTo_27 : decode cX2_nearestTo 27 = .ok (.iload_n 1, 1) := by decide +kernel
theorem dX2_nearestTo_28 : decode cX2_nearestTo 28 = .ok (.iload_n 2, 1) := by decide +kernel
theorem dX2_nearestTo_29 : decode cX2_nearestTo 29 = .ok (.iload_n 3, 1) := by decide +kernel
theorem dX2_nearestTo_30 : decode cX2_nearestTo 30 = .ok (.invokevirtual 32, 3) := by decide +kernel
theorem dX2_nearestTo_33 : decode cX2_nearestTo 33 = .ok (.if_icmp .ge 7, 3) := by decide +kernel
theorem dX2_nearestTo_36 : decode cX2_nearestTo 36 = .ok (.iload 5, 2) := by decide +kernel
theorem dX2_nearestTo_38 : decode cX2_nearestTo 38 = .ok (.istore 4, 2) := by decide +kernel
theorem dX2_nearestTo_40 : decode cX2_nearestTo 40 = .ok (.iinc 5 1, 3) := by decide +kernel
theorem dX2_nearestTo_43 : decode cX2_nearestTo 43 = .ok (.goto (-37), 3) := by decide +kernel
theorem dX2_nearestTo_46 : decode cX2_nearestTo 46 = .ok (.iload 4, 2) := by decide +kernel
theorem dX2_nearestTo_48 : decode cX2_nearestTo 48 = .ok (.ireturn, 1) := by decide +kernel
theorem dX2_sticks_0 : decode cX2_sticks 0 = .ok (.aload_n 0, 1) := by decide +kernel
theorem dX2_sticks_1 : decode cX2_sticks 1 = .ok (.getfield 18, 3) := by decide +kernel
theorem dX2_sticks_4 : decode cX2_sticks 4 = .ok (.iconst 1, 1) := by decide +kernel
theorem dX2_sticks_5 : decode cX2_sticks 5 = .ok (.isub, 1) := by decide +kernel
theorem dX2_sticks_6 : decode cX2_sticks 6 = .ok (.iload_n 1, 1) := by decide +kernel
theorem dX2_sticks_7 : decode cX2_sticks 7 = .ok (.ishr, 1) := by decide +kernel
theorem dX2_sticks_8 : decode cX2_sticks 8 = .ok (.istore_n 2, 1) := by decide +kernel
theorem dX2_sticks_9 : decode cX2_sticks 9 = .ok (.aload_n 0, 1) := by decide +kernel
theorem dX2_sticks_10 : decode cX2_sticks 10 = .ok (.getfield 28, 3) := by decide +kernel
theorem dX2_sticks_13 : decode cX2_sticks 13 = .ok (.ifCond .ne 19, 3) := by decide +kernel
theorem dX2_sticks_16 : decode cX2_sticks 16 = .ok (.iload_n 2, 1) := by decide +kernel
theorem dX2_sticks_17 : decode cX2_sticks 17 = .ok (.iload_n 1, 1) := by decide +kernel
theorem dX2_sticks_18 : decode cX2_sticks 18 = .ok (.ishl, 1) := by decide +kernel
theorem dX2_sticks_19 : decode cX2_sticks 19 = .ok (.aload_n 0, 1) := by decide +kernel
theorem dX2_sticks_20 : decode cX2_sticks 20 = .ok (.getfield 18, 3) := by decide +kernel
theorem dX2_sticks_23 : decode cX2_sticks 23 = .ok (.iconst 1, 1) := by decide +kernel
theorem dX2_sticks_24 : decode cX2_sticks 24 = .ok (.isub, 1) := by decide +kernel
theorem dX2_sticks_25 : decode cX2_sticks 25 = .ok (.if_icmp .ne 7, 3) := by decide +kernel
theorem dX2_sticks_28 : decode cX2_sticks 28 = .ok (.iconst 1, 1) := by decide +kernel
theorem dX2_sticks_29 : decode cX2_sticks 29 = .ok (.goto 4, 3) := by decide +kernel
theorem dX2_sticks_32 : decode cX2_sticks 32 = .ok (.iconst 0, 1) := by decide +kernel
theorem dX2_sticks_33 : decode cX2_sticks 33 = .ok (.istore_n 3, 1) := by decide +kernel
theorem dX2_sticks_34 : decode cX2_sticks 34 = .ok (.iload_n 3, 1) := by decide +kernel
theorem dX2_sticks_35 : decode cX2_sticks 35 = .ok (.ifCond .eq 7, 3) := by decide +kernel
theorem dX2_sticks_38 : decode cX2_sticks 38 = .ok (.iload_n 2, 1) := by decide +kernel
theorem dX2_sticks_39 : decode cX2_sticks 39 = .ok (.goto 6, 3) := by decide +kernel
theorem dX2_sticks_42 : decode cX2_sticks 42 = .ok (.iload_n 2, 1) := by decide +kernel
theorem dX2_sticks_43 : decode cX2_sticks 43 = .ok (.iconst 1, 1) := by decide +kernel
theorem dX2_sticks_44 : decode cX2_sticks 44 = .ok (.iadd, 1) := by decide +kernel
theorem dX2_sticks_45 : decode cX2_sticks 45 = .ok (.ireturn, 1) := by decide +kernel
theorem dX2_stickFrom_0 : decode cX2_stickFrom 0 = .ok (.iload_n 2, 1) := by decide +kernel
theorem dX2_stickFrom_1 : decode cX2_stickFrom 1 = .ok (.iload_n 1, 1) := by decide +kernel
theorem dX2_stickFrom_2 : decode cX2_stickFrom 2 = .ok (.ishl, 1) := by decide +kernel
theorem dX2_stickFrom_3 : decode cX2_stickFrom 3 = .ok (.ireturn, 1) := by decide +kernel
theorem dX2_stickTo_0 : decode cX2_stickTo 0 = .ok (.iload_n 2, 1) := by decide +kernel
theorem dX2_stickTo_1 : decode cX2_stickTo 1 = .ok (.iconst 1, 1) := by decide +kernel
theorem dX2_stickTo_2 : decode cX2_stickTo 2 = .ok (.iadd, 1) := by decide +kernel
theorem dX2_stickTo_3 : decode cX2_stickTo 3 = .ok (.iload_n 1, 1) := by decide +kernel
theorem dX2_stickTo_4 : decode cX2_stickTo 4 = .ok (.ishl, 1) := by decide +kernel
theorem dX2_stickTo_5 : decode cX2_stickTo 5 = .ok (.istore_n 3, 1) := by decide +kernel
theorem dX2_stickTo_6 : decode cX2_stickTo 6 = .ok (.iload_n 3, 1) := by decide +kernel
theorem dX2_stickTo_7 : decode cX2_stickTo 7 = .ok (.aload_n 0, 1) := by decide +kernel
theorem dX2_stickTo_8 : decode cX2_stickTo 8 = .ok (.getfield 18, 3) := by decide +kernel
theorem dX2_stickTo_11 : decode cX2_stickTo 11 = .ok (.if_icmp .ge 5, 3) := by decide +kernel
theorem dX2_stickTo_14 : decode cX2_stickTo 14 = .ok (.iload_n 3, 1) := by decide +kernel
theorem dX2_stickTo_15 : decode cX2_stickTo 15 = .ok (.ireturn, 1) := by decide +kernel
theorem dX2_stickTo_16 : decode cX2_stickTo 16 = .ok (.aload_n 0, 1) := by decide +kernel
theorem dX2_stickTo_17 : decode cX2_stickTo 17 = .ok (.getfield 28, 3) := by decide +kernel
theorem dX2_stickTo_20 : decode cX2_stickTo 20 = .ok (.ifCond .eq 7, 3) := by decide +kernel
theorem dX2_stickTo_23 : decode cX2_stickTo 23 = .ok (.iconst 0, 1) := by decide +kernel
theorem dX2_stickTo_24 : decode cX2_stickTo 24 = .ok (.goto 9, 3) := by decide +kernel
theorem dX2_stickTo_27 : decode cX2_stickTo 27 = .ok (.aload_n 0, 1) := by decide +kernel
theorem dX2_stickTo_28 : decode cX2_stickTo 28 = .ok (.getfield 18, 3) := by decide +kernel
theorem dX2_stickTo_31 : decode cX2_stickTo 31 = .ok (.iconst 1, 1) := by decide +kernel
theorem dX2_stickTo_32 : decode cX2_stickTo 32 = .ok (.isub, 1) := by decide +kernel
theorem dX2_stickTo_33 : decode cX2_stickTo 33 = .ok (.ireturn, 1) := by decide +kernel
theorem dX2_stickSpan_0 : decode cX2_stickSpan 0 = .ok (.aload_n 0, 1) := by decide +kernel
theorem dX2_stickSpan_1 : decode cX2_stickSpan 1 = .ok (.aload_n 0, 1) := by decide +kernel
theorem dX2_stickSpan_2 : decode cX2_stickSpan 2 = .ok (.iload_n 1, 1) := by decide +kernel
theorem dX2_stickSpan_3 : decode cX2_stickSpan 3 = .ok (.iload_n 2, 1) := by decide +kernel
theorem dX2_stickSpan_4 : decode cX2_stickSpan 4 = .ok (.invokevirtual 46, 3) := by decide +kernel
theorem dX2_stickSpan_7 : decode cX2_stickSpan 7 = .ok (.aload_n 0, 1) := by decide +kernel
theorem dX2_stickSpan_8 : decode cX2_stickSpan 8 = .ok (.iload_n 1, 1) := by decide +kernel
theorem dX2_stickSpan_9 : decode cX2_stickSpan 9 = .ok (.iload_n 2, 1) := by decide +kernel
theorem dX2_stickSpan_10 : decode cX2_stickSpan 10 = .ok (.invokevirtual 49, 3) := by decide +kernel
theorem dX2_stickSpan_13 : decode cX2_stickSpan 13 = .ok (.iload_n 3, 1) := by decide +kernel
theorem dX2_stickSpan_14 : decode cX2_stickSpan 14 = .ok (.invokevirtual 52, 3) := by decide +kernel
theorem dX2_stickSpan_17 : decode cX2_stickSpan 17 = .ok (.ireturn, 1) := by decide +kernel
theorem dX2_measure_0 : decode cX2_measure 0 = .ok (.iconst 0, 1) := by decide +kernel
theorem dX2_measure_1 : decode cX2_measure 1 = .ok (.istore_n 3, 1) := by decide +kernel
theorem dX2_measure_2 : decode cX2_measure 2 = .ok (.aload_n 0, 1) := by decide +kernel
theorem dX2_measure_3 : decode cX2_measure 3 = .ok (.iload_n 1, 1) := by decide +kernel
theorem dX2_measure_4 : decode cX2_measure 4 = .ok (.invokevirtual 56, 3) := by decide +kernel
theorem dX2_measure_7 : decode cX2_measure 7 = .ok (.istore 4, 2) := by decide +kernel
theorem dX2_measure_9 : decode cX2_measure 9 = .ok (.iconst 0, 1) := by decide +kernel
theorem dX2_measure_10 : decode cX2_measure 10 = .ok (.istore 5, 2) := by decide +kernel
theorem dX2_measure_12 : decode cX2_measure 12 = .ok (.iload 5, 2) := by decide +kernel
theorem dX2_measure_14 : decode cX2_measure 14 = .ok (.iload 4, 2) := by decide +kernel
theorem dX2_measure_16 : decode cX2_measure 16 = .ok (.if_icmp .ge 20, 3) := by decide +kernel
theorem dX2_measure_19 : decode cX2_measure 19 = .ok (.iload_n 3, 1) := by decide +kernel
theorem dX2_measure_20 : decode cX2_measure 20 = .ok (.aload_n 0, 1) := by decide +kernel
theorem dX2_measure_21 : decode cX2_measure 21 = .ok (.iload_n 1, 1) := by decide +kernel
theorem dX2_measure_22 : decode cX2_measure 22 = .ok (.iload 5, 2) := by decide +kernel
theorem dX2_measure_24 : decode cX2_measure 24 = .ok (.iload_n 2, 1) := by decide +kernel
theorem dX2_measure_25 : decode cX2_measure 25 = .ok (.invokevirtual 59, 3) := by decide +kernel
theorem dX2_measure_28 : decode cX2_measure 28 = .ok (.iadd, 1) := by decide +kernel
theorem dX2_measure_29 : decode cX2_measure 29 = .ok (.istore_n 3, 1) := by decide +kernel
theorem dX2_measure_30 : decode cX2_measure 30 = .ok (.iinc 5 1, 3) := by decide +kernel
theorem dX2_measure_33 : decode cX2_measure 33 = .ok (.goto (-21), 3) := by decide +kernel
theorem dX2_measure_36 : decode cX2_measure 36 = .ok (.iload_n 3, 1) := by decide +kernel
theorem dX2_measure_37 : decode cX2_measure 37 = .ok (.ireturn, 1) := by decide +kernel
theorem dX2_gain_0 : decode cX2_gain 0 = .ok (.aload_n 0, 1) := by decide +kernel
theorem dX2_gain_1 : decode cX2_gain 1 = .ok (.iload_n 1, 1) := by decide +kernel
theorem dX2_gain_2 : decode cX2_gain 2 = .ok (.iload_n 2, 1) := by decide +kernel
theorem dX2_gain_3 : decode cX2_gain 3 = .ok (.invokevirtual 62, 3) := by decide +kernel
theorem dX2_gain_6 : decode cX2_gain 6 = .ok (.aload_n 0, 1) := by decide +kernel
theorem dX2_gain_7 : decode cX2_gain 7 = .ok (.iload_n 1, 1) := by decide +kernel
theorem dX2_gain_8 : decode cX2_gain 8 = .ok (.iconst 1, 1) := by decide +kernel
theorem dX2_gain_9 : decode cX2_gain 9 = .ok (.iadd, 1) := by decide +kernel
theorem dX2_gain_10 : decode cX2_gain 10 = .ok (.iload_n 2, 1) := by decide +kernel
theorem dX2_gain_11 : decode cX2_gain 11 = .ok (.invokevirtual 62, 3) := by decide +kernel
theorem dX2_gain_14 : decode cX2_gain 14 = .ok (.isub, 1) := by decide +kernel
theorem dX2_gain_15 : decode cX2_gain 15 = .ok (.ireturn, 1) := by decide +kernel
theorem dX2_coarsestReaching_0 : decode cX2_coarsestReaching 0 = .ok (.bipush 7, 2) := by decide +kernel
theorem dX2_coarsestReaching_2 : decode cX2_coarsestReaching 2 = .ok (.istore_n 3, 1) := by decide +kernel
theorem dX2_coarsestReaching_3 : decode cX2_coarsestReaching 3 = .ok (.iload_n 3, 1) := by decide +kernel
theorem dX2_coarsestReaching_4 : decode cX2_coarsestReaching 4 = .ok (.ifCond .lt 21, 3) := by decide +kernel
theorem dX2_coarsestReaching_7 : decode cX2_coarsestReaching 7 = .ok (.aload_n 0, 1) := by decide +kernel
theorem dX2_coarsestReaching_8 : decode cX2_coarsestReaching 8 = .ok (.iload_n 3, 1) := by decide +kernel
theorem dX2_coarsestReaching_9 : decode cX2_coarsestReaching 9 = .ok (.iload_n 2, 1) := by decide +kernel
theorem dX2_coarsestReaching_10 : decode cX2_coarsestReaching 10 = .ok (.invokevirtual 62, 3) := by decide +kernel
theorem dX2_coarsestReaching_13 : decode cX2_coarsestReaching 13 = .ok (.iload_n 1, 1) := by decide +kernel
theorem dX2_coarsestReaching_14 : decode cX2_coarsestReaching 14 = .ok (.if_icmp .lt 5, 3) := by decide +kernel
theorem dX2_coarsestReaching_17 : decode cX2_coarsestReaching 17 = .ok (.iload_n 3, 1) := by decide +kernel
theorem dX2_coarsestReaching_18 : decode cX2_coarsestReaching 18 = .ok (.ireturn, 1) := by decide +kernel
theorem dX2_coarsestReaching_19 : decode cX2_coarsestReaching 19 = .ok (.iinc 3 (-1), 3) := by decide +kernel
theorem dX2_coarsestReaching_22 : decode cX2_coarsestReaching 22 = .ok (.goto (-19), 3) := by decide +kernel
theorem dX2_coarsestReaching_25 : decode cX2_coarsestReaching 25 = .ok (.iconst (-1), 1) := by decide +kernel
theorem dX2_coarsestReaching_26 : decode cX2_coarsestReaching 26 = .ok (.ireturn, 1) := by decide +kernel
theorem dX2_measureWithout_0 : decode cX2_measureWithout 0 = .ok (.aload_n 0, 1) := by decide +kernel
theorem dX2_measureWithout_1 : decode cX2_measureWithout 1 = .ok (.getfield 18, 3) := by decide +kernel
theorem dX2_measureWithout_4 : decode cX2_measureWithout 4 = .ok (.iconst 1, 1) := by decide +kernel
theorem dX2_measureWithout_5 : decode cX2_measureWithout 5 = .ok (.isub, 1) := by decide +kernel
theorem dX2_measureWithout_6 : decode cX2_measureWithout 6 = .ok (.aload_n 0, 1) := by decide +kernel
theorem dX2_measureWithout_7 : decode cX2_measureWithout 7 = .ok (.invokevirtual 66, 3) := by decide +kernel
theorem dX2_measureWithout_10 : decode cX2_measureWithout 10 = .ok (.if_icmp .ge 5, 3) := by decide +kernel
theorem dX2_measureWithout_13 : decode cX2_measureWithout 13 = .ok (.iconst (-1), 1) := by decide +kernel
theorem dX2_measureWithout_14 : decode cX2_measureWithout 14 = .ok (.ireturn, 1) := by decide +kernel
theorem dX2_measureWithout_15 : decode cX2_measureWithout 15 = .ok (.aload_n 0, 1) := by decide +kernel
theorem dX2_measureWithout_16 : decode cX2_measureWithout 16 = .ok (.getfield 28, 3) := by decide +kernel
theorem dX2_measureWithout_19 : decode cX2_measureWithout 19 = .ok (.ifCond .ne 11, 3) := by decide +kernel
theorem dX2_measureWithout_22 : decode cX2_measureWithout 22 = .ok (.iload_n 1, 1) := by decide +kernel
theorem dX2_measureWithout_23 : decode cX2_measureWithout 23 = .ok (.ifCond .ne 7, 3) := by decide +kernel
theorem dX2_measureWithout_26 : decode cX2_measureWithout 26 = .ok (.iconst 1, 1) := by decide +kernel
theorem dX2_measureWithout_27 : decode cX2_measureWithout 27 = .ok (.goto 4, 3) := by decide +kernel
theorem dX2_measureWithout_30 : decode cX2_measureWithout 30 = .ok (.iconst 0, 1) := by decide +kernel
theorem dX2_measureWithout_31 : decode cX2_measureWithout 31 = .ok (.istore_n 3, 1) := by decide +kernel
theorem dX2_measureWithout_32 : decode cX2_measureWithout 32 = .ok (.aload_n 0, 1) := by decide +kernel
theorem dX2_measureWithout_33 : decode cX2_measureWithout 33 = .ok (.getfield 28, 3) := by decide +kernel
theorem dX2_measureWithout_36 : decode cX2_measureWithout 36 = .ok (.ifCond .ne 17, 3) := by decide +kernel
theorem dX2_measureWithout_39 : decode cX2_measureWithout 39 = .ok (.iload_n 1, 1) := by decide +kernel
theorem dX2_measureWithout_40 : decode cX2_measureWithout 40 = .ok (.aload_n 0, 1) := by decide +kernel
theorem dX2_measureWithout_41 : decode cX2_measureWithout 41 = .ok (.getfield 18, 3) := by decide +kernel
theorem dX2_measureWithout_44 : decode cX2_measureWithout 44 = .ok (.iconst 1, 1) := by decide +kernel
theorem dX2_measureWithout_45 : decode cX2_measureWithout 45 = .ok (.isub, 1) := by decide +kernel
theorem dX2_measureWithout_46 : decode cX2_measureWithout 46 = .ok (.if_icmp .ne 7, 3) := by decide +kernel
theorem dX2_measureWithout_49 : decode cX2_measureWithout 49 = .ok (.iconst 1, 1) := by decide +kernel
theorem dX2_measureWithout_50 : decode cX2_measureWithout 50 = .ok (.goto 4, 3) := by decide +kernel
theorem dX2_measureWithout_53 : decode cX2_measureWithout 53 = .ok (.iconst 0, 1) := by decide +kernel
theorem dX2_measureWithout_54 : decode cX2_measureWithout 54 = .ok (.istore 4, 2) := by decide +kernel
theorem dX2_measureWithout_56 : decode cX2_measureWithout 56 = .ok (.iload_n 1, 1) := by decide +kernel
theorem dX2_measureWithout_57 : decode cX2_measureWithout 57 = .ok (.ifCond .ne 12, 3) := by decide +kernel
theorem dX2_measureWithout_60 : decode cX2_measureWithout 60 = .ok (.aload_n 0, 1) := by decide +kernel
theorem dX2_measureWithout_61 : decode cX2_measureWithout 61 = .ok (.getfield 18, 3) := by decide +kernel
theorem dX2_measureWithout_64 : decode cX2_measureWithout 64 = .ok (.iconst 1, 1) := by decide +kernel
theorem dX2_measureWithout_65 : decode cX2_measureWithout 65 = .ok (.isub, 1) := by decide +kernel
theorem dX2_measureWithout_66 : decode cX2_measureWithout 66 = .ok (.goto 6, 3) := by decide +kernel
theorem dX2_measureWithout_69 : decode cX2_measureWithout 69 = .ok (.iload_n 1, 1) := by decide +kernel
theorem dX2_measureWithout_70 : decode cX2_measureWithout 70 = .ok (.iconst 1, 1) := by decide +kernel
theorem dX2_measureWithout_71 : decode cX2_measureWithout 71 = .ok (.isub, 1) := by decide +kernel
theorem dX2_measureWithout_72 : decode cX2_measureWithout 72 = .ok (.istore 5, 2) := by decide +kernel
theorem dX2_measureWithout_74 : decode cX2_measureWithout 74 = .ok (.aload_n 0, 1) := by decide +kernel
theorem dX2_measureWithout_75 : decode cX2_measureWithout 75 = .ok (.iload_n 1, 1) := by decide +kernel
theorem dX2_measureWithout_76 : decode cX2_measureWithout 76 = .ok (.invokevirtual 70, 3) := by decide +kernel
theorem dX2_measureWithout_79 : decode cX2_measureWithout 79 = .ok (.istore 6, 2) := by decide +kernel
theorem dX2_measureWithout_81 : decode cX2_measureWithout 81 = .ok (.aload_n 0, 1) := by decide +kernel
theorem dX2_measureWithout_82 : decode cX2_measureWithout 82 = .ok (.iconst 0, 1) := by decide +kernel
theorem dX2_measureWithout_83 : decode cX2_measureWithout 83 = .ok (.iload_n 2, 1) := by decide +kernel
theorem dX2_measureWithout_84 : decode cX2_measureWithout 84 = .ok (.invokevirtual 62, 3) := by decide +kernel
theorem dX2_measureWithout_87 : decode cX2_measureWithout 87 = .ok (.istore 7, 2) := by decide +kernel
theorem dX2_measureWithout_89 : decode cX2_measureWithout 89 = .ok (.iload_n 3, 1) := by decide +kernel
theorem dX2_measureWithout_90 : decode cX2_measureWithout 90 = .ok (.ifCond .ne 16, 3) := by decide +kernel
theorem dX2_measureWithout_93 : decode cX2_measureWithout 93 = .ok (.iload 7, 2) := by decide +kernel
theorem dX2_measureWithout_95 : decode cX2_measureWithout 95 = .ok (.aload_n 0, 1) := by decide +kernel
theorem dX2_measureWithout_96 : decode cX2_measureWithout 96 = .ok (.iload 5, 2) := by decide +kernel
theorem dX2_measureWithout_98 : decode cX2_measureWithout 98 = .ok (.iload_n 1, 1) := by decide +kernel
theorem dX2_measureWithout_99 : decode cX2_measureWithout 99 = .ok (.iload_n 2, 1) := by decide +kernel
theorem dX2_measureWithout_100 : decode cX2_measureWithout 100 = .ok (.invokevirtual 52, 3) := by decide +kernel
theorem dX2_measureWithout_103 : decode cX2_measureWithout 103 = .ok (.isub, 1) := by decide +kernel
theorem dX2_measureWithout_104 : decode cX2_measureWithout 104 = .ok (.istore 7, 2) := by decide +kernel
theorem dX2_measureWithout_106 : decode cX2_measureWithout 106 = .ok (.iload 4, 2) := by decide +kernel
theorem dX2_measureWithout_108 : decode cX2_measureWithout 108 = .ok (.ifCond .ne 16, 3) := by decide +kernel
theorem dX2_measureWithout_111 : decode cX2_measureWithout 111 = .ok (.iload 7, 2) := by decide +kernel
theorem dX2_measureWithout_113 : decode cX2_measureWithout 113 = .ok (.aload_n 0, 1) := by decide +kernel
theorem dX2_measureWithout_114 : decode cX2_measureWithout 114 = .ok (.iload_n 1, 1) := by decide +kernel
theorem dX2_measureWithout_115 : decode cX2_measureWithout 115 = .ok (.iload 6, 2) := by decide +kernel
theorem dX2_measureWithout_117 : decode cX2_measureWithout 117 = .ok (.iload_n 2, 1) := by decide +kernel
theorem dX2_measureWithout_118 : decode cX2_measureWithout 118 = .ok (.invokevirtual 52, 3) := by decide +kernel
theorem dX2_measureWithout_121 : decode cX2_measureWithout 121 = .ok (.isub, 1) := by decide +kernel
theorem dX2_measureWithout_122 : decode cX2_measureWithout 122 = .ok (.istore 7, 2) := by decide +kernel
theorem dX2_measureWithout_124 : decode cX2_measureWithout 124 = .ok (.iload_n 3, 1) := by decide +kernel
theorem dX2_measureWithout_125 : decode cX2_measureWithout 125 = .ok (.ifCond .ne 8, 3) := by decide +kernel
theorem dX2_measureWithout_128 : decode cX2_measureWithout 128 = .ok (.iload 4, 2) := by decide +kernel
theorem dX2_measureWithout_130 : decode cX2_measureWithout 130 = .ok (.ifCond .eq 8, 3) := by decide +kernel
theorem dX2_measureWithout_133 : decode cX2_measureWithout 133 = .ok (.iload 7, 2) := by decide +kernel
theorem dX2_measureWithout_135 : decode cX2_measureWithout 135 = .ok (.goto 15, 3) := by decide +kernel
theorem dX2_measureWithout_138 : decode cX2_measureWithout 138 = .ok (.iload 7, 2) := by decide +kernel
theorem dX2_measureWithout_140 : decode cX2_measureWithout 140 = .ok (.aload_n 0, 1) := by decide +kernel
theorem dX2_measureWithout_141 : decode cX2_measureWithout 141 = .ok (.iload 5, 2) := by decide +kernel
theorem dX2_measureWithout_143 : decode cX2_measureWithout 143 = .ok (.iload 6, 2) := by decide +kernel
theorem dX2_measureWithout_145 : decode cX2_measureWithout 145 = .ok (.iload_n 2, 1) := by decide +kernel
theorem dX2_measureWithout_146 : decode cX2_measureWithout 146 = .ok (.invokevirtual 52, 3) := by decide +kernel
theorem dX2_measureWithout_149 : decode cX2_measureWithout 149 = .ok (.iadd, 1) := by decide +kernel
theorem dX2_measureWithout_150 : decode cX2_measureWithout 150 = .ok (.ireturn, 1) := by decide +kernel
theorem dX2_signedArea_0 : decode cX2_signedArea 0 = .ok (.iconst 0, 1) := by decide +kernel
theorem dX2_signedArea_1 : decode cX2_signedArea 1 = .ok (.istore_n 1, 1) := by decide +kernel
theorem dX2_signedArea_2 : decode cX2_signedArea 2 = .ok (.iconst 0, 1) := by decide +kernel
theorem dX2_signedArea_3 : decode cX2_signedArea 3 = .ok (.istore_n 2, 1) := by decide +kernel
theorem dX2_signedArea_4 : decode cX2_signedArea 4 = .ok (.iload_n 2, 1) := by decide +kernel
theorem dX2_signedArea_5 : decode cX2_signedArea 5 = .ok (.aload_n 0, 1) := by decide +kernel
theorem dX2_signedArea_6 : decode cX2_signedArea 6 = .ok (.invokevirtual 73, 3) := by decide +kernel
theorem dX2_signedArea_9 : decode cX2_signedArea 9 = .ok (.if_icmp .ge 45, 3) := by decide +kernel
theorem dX2_signedArea_12 : decode cX2_signedArea 12 = .ok (.aload_n 0, 1) := by decide +kernel
theorem dX2_signedArea_13 : decode cX2_signedArea 13 = .ok (.iload_n 2, 1) := by decide +kernel
theorem dX2_signedArea_14 : decode cX2_signedArea 14 = .ok (.invokevirtual 70, 3) := by decide +kernel
theorem dX2_signedArea_17 : decode cX2_signedArea 17 = .ok (.istore_n 3, 1) := by decide +kernel
theorem dX2_signedArea_18 : decode cX2_signedArea 18 = .ok (.iload_n 1, 1) := by decide +kernel
theorem dX2_signedArea_19 : decode cX2_signedArea 19 = .ok (.aload_n 0, 1) := by decide +kernel
theorem dX2_signedArea_20 : decode cX2_signedArea 20 = .ok (.getfield 9, 3) := by decide +kernel
theorem dX2_signedArea_23 : decode cX2_signedArea 23 = .ok (.iload_n 2, 1) := by decide +kernel
theorem dX2_signedArea_24 : decode cX2_signedArea 24 = .ok (.iaload, 1) := by decide +kernel
theorem dX2_signedArea_25 : decode cX2_signedArea 25 = .ok (.aload_n 0, 1) := by decide +kernel
theorem dX2_signedArea_26 : decode cX2_signedArea 26 = .ok (.getfield 15, 3) := by decide +kernel
theorem dX2_signedArea_29 : decode cX2_signedArea 29 = .ok (.iload_n 3, 1) := by decide +kernel
theorem dX2_signedArea_30 : decode cX2_signedArea 30 = .ok (.iaload, 1) := by decide +kernel
theorem dX2_signedArea_31 : decode cX2_signedArea 31 = .ok (.imul, 1) := by decide +kernel
theorem dX2_signedArea_32 : decode cX2_signedArea 32 = .ok (.aload_n 0, 1) := by decide +kernel
theorem dX2_signedArea_33 : decode cX2_signedArea 33 = .ok (.getfield 9, 3) := by decide +kernel
theorem dX2_signedArea_36 : decode cX2_signedArea 36 = .ok (.iload_n 3, 1) := by decide +kernel
theorem dX2_signedArea_37 : decode cX2_signedArea 37 = .ok (.iaload, 1) := by decide +kernel
theorem dX2_signedArea_38 : decode cX2_signedArea 38 = .ok (.aload_n 0, 1) := by decide +kernel
theorem dX2_signedArea_39 : decode cX2_signedArea 39 = .ok (.getfield 15, 3) := by decide +kernel
theorem dX2_signedArea_42 : decode cX2_signedArea 42 = .ok (.iload_n 2, 1) := by decide +kernel
theorem dX2_signedArea_43 : decode cX2_signedArea 43 = .ok (.iaload, 1) := by decide +kernel
theorem dX2_signedArea_44 : decode cX2_signedArea 44 = .ok (.imul, 1) := by decide +kernel
theorem dX2_signedArea_45 : decode cX2_signedArea 45 = .ok (.isub, 1) := by decide +kernel
theorem dX2_signedArea_46 : decode cX2_signedArea 46 = .ok (.iadd, 1) := by decide +kernel
theorem dX2_signedArea_47 : decode cX2_signedArea 47 = .ok (.istore_n 1, 1) := by decide +kernel
theorem dX2_signedArea_48 : decode cX2_signedArea 48 = .ok (.iinc 2 1, 3) := by decide +kernel
theorem dX2_signedArea_51 : decode cX2_signedArea 51 = .ok (.goto (-47), 3) := by decide +kernel
theorem dX2_signedArea_54 : decode cX2_signedArea 54 = .ok (.iload_n 1, 1) := by decide +kernel
theorem dX2_signedArea_55 : decode cX2_signedArea 55 = .ok (.ireturn, 1) := by decide +kernel
theorem dX2_covers_0 : decode cX2_covers 0 = .ok (.iconst 0, 1) := by decide +kernel
theorem dX2_covers_1 : decode cX2_covers 1 = .ok (.istore_n 3, 1) := by decide +kernel
theorem dX2_covers_2 : decode cX2_covers 2 = .ok (.iconst 0, 1) := by decide +kernel
theorem dX2_covers_3 : decode cX2_covers 3 = .ok (.istore 4, 2) := by decide +kernel
theorem dX2_covers_5 : decode cX2_covers 5 = .ok (.iload 4, 2) := by decide +kernel
theorem dX2_covers_7 : decode cX2_covers 7 = .ok (.aload_n 0, 1) := by decide +kernel
theorem dX2_covers_8 : decode cX2_covers 8 = .ok (.invokevirtual 73, 3) := by decide +kernel
theorem dX2_covers_11 : decode cX2_covers 11 = .ok (.if_icmp .ge 43, 3) := by decide +kernel
theorem dX2_covers_14 : decode cX2_covers 14 = .ok (.aload_n 0, 1) := by decide +kernel
theorem dX2_covers_15 : decode cX2_covers 15 = .ok (.iload 4, 2) := by decide +kernel
theorem dX2_covers_17 : decode cX2_covers 17 = .ok (.iload_n 1, 1) := by decide +kernel
theorem dX2_covers_18 : decode cX2_covers 18 = .ok (.iload_n 2, 1) := by decide +kernel
theorem dX2_covers_19 : decode cX2_covers 19 = .ok (.invokevirtual 76, 3) := by decide +kernel
theorem dX2_covers_22 : decode cX2_covers 22 = .ok (.ifCond .eq 5, 3) := by decide +kernel
theorem dX2_covers_25 : decode cX2_covers 25 = .ok (.iconst 1, 1) := by decide +kernel
theorem dX2_covers_26 : decode cX2_covers 26 = .ok (.ireturn, 1) := by decide +kernel
theorem dX2_covers_27 : decode cX2_covers 27 = .ok (.aload_n 0, 1) := by decide +kernel
theorem dX2_covers_28 : decode cX2_covers 28 = .ok (.iload 4, 2) := by decide +kernel
theorem dX2_covers_30 : decode cX2_covers 30 = .ok (.iload_n 1, 1) := by decide +kernel
theorem dX2_covers_31 : decode cX2_covers 31 = .ok (.iload_n 2, 1) := by decide +kernel
theorem dX2_covers_32 : decode cX2_covers 32 = .ok (.invokevirtual 80, 3) := by decide +kernel
theorem dX2_covers_35 : decode cX2_covers 35 = .ok (.ifCond .eq 13, 3) := by decide +kernel
theorem dX2_covers_38 : decode cX2_covers 38 = .ok (.iload_n 3, 1) := by decide +kernel
theorem dX2_covers_39 : decode cX2_covers 39 = .ok (.ifCond .ne 7, 3) := by decide +kernel
theorem dX2_covers_42 : decode cX2_covers 42 = .ok (.iconst 1, 1) := by decide +kernel
theorem dX2_covers_43 : decode cX2_covers 43 = .ok (.goto 4, 3) := by decide +kernel
theorem dX2_covers_46 : decode cX2_covers 46 = .ok (.iconst 0, 1) := by decide +kernel
theorem dX2_covers_47 : decode cX2_covers 47 = .ok (.istore_n 3, 1) := by decide +kernel
theorem dX2_covers_48 : decode cX2_covers 48 = .ok (.iinc 4 1, 3) := by decide +kernel
theorem dX2_covers_51 : decode cX2_covers 51 = .ok (.goto (-46), 3) := by decide +kernel
theorem dX2_covers_54 : decode cX2_covers 54 = .ok (.iload_n 3, 1) := by decide +kernel
theorem dX2_covers_55 : decode cX2_covers 55 = .ok (.ireturn, 1) := by decide +kernel
theorem dX2_coversAll_0 : decode cX2_coversAll 0 = .ok (.iconst 0, 1) := by decide +kernel
theorem dX2_coversAll_1 : decode cX2_coversAll 1 = .ok (.istore_n 2, 1) := by decide +kernel
theorem dX2_coversAll_2 : decode cX2_coversAll 2 = .ok (.iload_n 2, 1) := by decide +kernel
theorem dX2_coversAll_3 : decode cX2_coversAll 3 = .ok (.aload_n 1, 1) := by decide +kernel
theorem dX2_coversAll_4 : decode cX2_coversAll 4 = .ok (.getfield 18, 3) := by decide +kernel
theorem dX2_coversAll_7 : decode cX2_coversAll 7 = .ok (.if_icmp .ge 30, 3) := by decide +kernel
theorem dX2_coversAll_10 : decode cX2_coversAll 10 = .ok (.aload_n 0, 1) := by decide +kernel
theorem dX2_coversAll_11 : decode cX2_coversAll 11 = .ok (.aload_n 1, 1) := by decide +kernel
theorem dX2_coversAll_12 : decode cX2_coversAll 12 = .ok (.getfield 9, 3) := by decide +kernel
theorem dX2_coversAll_15 : decode cX2_coversAll 15 = .ok (.iload_n 2, 1) := by decide +kernel
theorem dX2_coversAll_16 : decode cX2_coversAll 16 = .ok (.iaload, 1) := by decide +kernel
theorem dX2_coversAll_17 : decode cX2_coversAll 17 = .ok (.aload_n 1, 1) := by decide +kernel
theorem dX2_coversAll_18 : decode cX2_coversAll 18 = .ok (.getfield 15, 3) := by decide +kernel
theorem dX2_coversAll_21 : decode cX2_coversAll 21 = .ok (.iload_n 2, 1) := by decide +kernel
theorem dX2_coversAll_22 : decode cX2_coversAll 22 = .ok (.iaload, 1) := by decide +kernel
theorem dX2_coversAll_23 : decode cX2_coversAll 23 = .ok (.invokevirtual 83, 3) := by decide +kernel
theorem dX2_coversAll_26 : decode cX2_coversAll 26 = .ok (.ifCond .ne 5, 3) := by decide +kernel
theorem dX2_coversAll_29 : decode cX2_coversAll 29 = .ok (.iconst 0, 1) := by decide +kernel
theorem dX2_coversAll_30 : decode cX2_coversAll 30 = .ok (.ireturn, 1) := by decide +kernel
theorem dX2_coversAll_31 : decode cX2_coversAll 31 = .ok (.iinc 2 1, 3) := by decide +kernel
theorem dX2_coversAll_34 : decode cX2_coversAll 34 = .ok (.goto (-32), 3) := by decide +kernel
theorem dX2_coversAll_37 : decode cX2_coversAll 37 = .ok (.iconst 1, 1) := by decide +kernel
theorem dX2_coversAll_38 : decode cX2_coversAll 38 = .ok (.ireturn, 1) := by decide +kernel
theorem dX2_side_0 : decode cX2_side 0 = .ok (.aload_n 0, 1) := by decide +kernel
theorem dX2_side_1 : decode cX2_side 1 = .ok (.iload_n 1, 1) := by decide +kernel
theorem dX2_side_2 : decode cX2_side 2 = .ok (.invokevirtual 70, 3) := by decide +kernel
theorem dX2_side_5 : decode cX2_side 5 = .ok (.istore 4, 2) := by decide +kernel
theorem dX2_side_7 : decode cX2_side 7 = .ok (.aload_n 0, 1) := by decide +kernel
theorem dX2_side_8 : decode cX2_side 8 = .ok (.getfield 9, 3) := by decide +kernel
theorem dX2_side_11 : decode cX2_side 11 = .ok (.iload 4, 2) := by decide +kernel
theorem dX2_side_13 : decode cX2_side 13 = .ok (.iaload, 1) := by decide +kernel
theorem dX2_side_14 : decode cX2_side 14 = .ok (.aload_n 0, 1) := by decide +kernel
theorem dX2_side_15 : decode cX2_side 15 = .ok (.getfield 9, 3) := by decide +kernel
theorem dX2_side_18 : decode cX2_side 18 = .ok (.iload_n 1, 1) := by decide +kernel
theorem dX2_side_19 : decode cX2_side 19 = .ok (.iaload, 1) := by decide +kernel
theorem dX2_side_20 : decode cX2_side 20 = .ok (.isub, 1) := by decide +kernel
theorem dX2_side_21 : decode cX2_side 21 = .ok (.iload_n 3, 1) := by decide +kernel
theorem dX2_side_22 : decode cX2_side 22 = .ok (.aload_n 0, 1) := by decide +kernel
theorem dX2_side_23 : decode cX2_side 23 = .ok (.getfield 15, 3) := by decide +kernel
theorem dX2_side_26 : decode cX2_side 26 = .ok (.iload_n 1, 1) := by decide +kernel
theorem dX2_side_27 : decode cX2_side 27 = .ok (.iaload, 1) := by decide +kernel
theorem dX2_side_28 : decode cX2_side 28 = .ok (.isub, 1) := by decide +kernel
theorem dX2_side_29 : decode cX2_side 29 = .ok (.imul, 1) := by decide +kernel
theorem dX2_side_30 : decode cX2_side 30 = .ok (.aload_n 0, 1) := by decide +kernel
theorem dX2_side_31 : decode cX2_side 31 = .ok (.getfield 15, 3) := by decide +kernel
theorem dX2_side_34 : decode cX2_side 34 = .ok (.iload 4, 2) := by decide +kernel
theorem dX2_side_36 : decode cX2_side 36 = .ok (.iaload, 1) := by decide +kernel
theorem dX2_side_37 : decode cX2_side 37 = .ok (.aload_n 0, 1) := by decide +kernel
theorem dX2_side_38 : decode cX2_side 38 = .ok (.getfield 15, 3) := by decide +kernel
theorem dX2_side_41 : decode cX2_side 41 = .ok (.iload_n 1, 1) := by decide +kernel
theorem dX2_side_42 : decode cX2_side 42 = .ok (.iaload, 1) := by decide +kernel
theorem dX2_side_43 : decode cX2_side 43 = .ok (.isub, 1) := by decide +kernel
theorem dX2_side_44 : decode cX2_side 44 = .ok (.iload_n 2, 1) := by decide +kernel
theorem dX2_side_45 : decode cX2_side 45 = .ok (.aload_n 0, 1) := by decide +kernel
theorem dX2_side_46 : decode cX2_side 46 = .ok (.getfield 9, 3) := by decide +kernel
theorem dX2_side_49 : decode cX2_side 49 = .ok (.iload_n 1, 1) := by decide +kernel
theorem dX2_side_50 : decode cX2_side 50 = .ok (.iaload, 1) := by decide +kernel
theorem dX2_side_51 : decode cX2_side 51 = .ok (.isub, 1) := by decide +kernel
theorem dX2_side_52 : decode cX2_side 52 = .ok (.imul, 1) := by decide +kernel
theorem dX2_side_53 : decode cX2_side 53 = .ok (.isub, 1) := by decide +kernel
theorem dX2_side_54 : decode cX2_side 54 = .ok (.ireturn, 1) := by decide +kernel
theorem dX2_liesOn_0 : decode cX2_liesOn 0 = .ok (.aload_n 0, 1) := by decide +kernel
theorem dX2_liesOn_1 : decode cX2_liesOn 1 = .ok (.iload_n 1, 1) := by decide +kernel
theorem dX2_liesOn_2 : decode cX2_liesOn 2 = .ok (.invokevirtual 70, 3) := by decide +kernel
theorem dX2_liesOn_5 : decode cX2_liesOn 5 = .ok (.istore 4, 2) := by decide +kernel
theorem dX2_liesOn_7 : decode cX2_liesOn 7 = .ok (.aload_n 0, 1) := by decide +kernel
theorem dX2_liesOn_8 : decode cX2_liesOn 8 = .ok (.iload_n 1, 1) := by decide +kernel
theorem dX2_liesOn_9 : decode cX2_liesOn 9 = .ok (.iload_n 2, 1) := by decide +kernel
theorem dX2_liesOn_10 : decode cX2_liesOn 10 = .ok (.iload_n 3, 1) := by decide +kernel
theorem dX2_liesOn_11 : decode cX2_liesOn 11 = .ok (.invokevirtual 87, 3) := by decide +kernel
theorem dX2_liesOn_14 : decode cX2_liesOn 14 = .ok (.ifCond .ne 87, 3) := by decide +kernel
theorem dX2_liesOn_17 : decode cX2_liesOn 17 = .ok (.iload_n 2, 1) := by decide +kernel
theorem dX2_liesOn_18 : decode cX2_liesOn 18 = .ok (.aload_n 0, 1) := by decide +kernel
theorem dX2_liesOn_19 : decode cX2_liesOn 19 = .ok (.getfield 9, 3) := by decide +kernel
theorem dX2_liesOn_22 : decode cX2_liesOn 22 = .ok (.iload_n 1, 1) := by decide +kernel
theorem dX2_liesOn_23 : decode cX2_liesOn 23 = .ok (.iaload, 1) := by decide +kernel
theorem dX2_liesOn_24 : decode cX2_liesOn 24 = .ok (.aload_n 0, 1) := by decide +kernel
theorem dX2_liesOn_25 : decode cX2_liesOn 25 = .ok (.getfield 9, 3) := by decide +kernel
theorem dX2_liesOn_28 : decode cX2_liesOn 28 = .ok (.iload 4, 2) := by decide +kernel
theorem dX2_liesOn_30 : decode cX2_liesOn 30 = .ok (.iaload, 1) := by decide +kernel
theorem dX2_liesOn_31 : decode cX2_liesOn 31 = .ok (.invokestatic 91, 3) := by decide +kernel
theorem dX2_liesOn_34 : decode cX2_liesOn 34 = .ok (.if_icmp .lt 67, 3) := by decide +kernel
theorem dX2_liesOn_37 : decode cX2_liesOn 37 = .ok (.iload_n 2, 1) := by decide +kernel
theorem dX2_liesOn_38 : decode cX2_liesOn 38 = .ok (.aload_n 0, 1) := by decide +kernel
theorem dX2_liesOn_39 : decode cX2_liesOn 39 = .ok (.getfield 9, 3) := by decide +kernel
theorem dX2_liesOn_42 : decode cX2_liesOn 42 = .ok (.iload_n 1, 1) := by decide +kernel
theorem dX2_liesOn_43 : decode cX2_liesOn 43 = .ok (.iaload, 1) := by decide +kernel
theorem dX2_liesOn_44 : decode cX2_liesOn 44 = .ok (.aload_n 0, 1) := by decide +kernel
theorem dX2_liesOn_45 : decode cX2_liesOn 45 = .ok (.getfield 9, 3) := by decide +kernel
theorem dX2_liesOn_48 : decode cX2_liesOn 48 = .ok (.iload 4, 2) := by decide +kernel
theorem dX2_liesOn_50 : decode cX2_liesOn 50 = .ok (.iaload, 1) := by decide +kernel
theorem dX2_liesOn_51 : decode cX2_liesOn 51 = .ok (.invokestatic 42, 3) := by decide +kernel
theorem dX2_liesOn_54 : decode cX2_liesOn 54 = .ok (.if_icmp .gt 47, 3) := by decide +kernel
theorem dX2_liesOn_57 : decode cX2_liesOn 57 = .ok (.iload_n 3, 1) := by decide +kernel
theorem dX2_liesOn_58 : decode cX2_liesOn 58 = .ok (.aload_n 0, 1) := by decide +kernel
theorem dX2_liesOn_59 : decode cX2_liesOn 59 = .ok (.getfield 15, 3) := by decide +kernel
theorem dX2_liesOn_62 : decode cX2_liesOn 62 = .ok (.iload_n 1, 1) := by decide +kernel
theorem dX2_liesOn_63 : decode cX2_liesOn 63 = .ok (.iaload, 1) := by decide +kernel
theorem dX2_liesOn_64 : decode cX2_liesOn 64 = .ok (.aload_n 0, 1) := by decide +kernel
theorem dX2_liesOn_65 : decode cX2_liesOn 65 = .ok (.getfield 15, 3) := by decide +kernel
theorem dX2_liesOn_68 : decode cX2_liesOn 68 = .ok (.iload 4, 2) := by decide +kernel
theorem dX2_liesOn_70 : decode cX2_liesOn 70 = .ok (.iaload, 1) := by decide +kernel
theorem dX2_liesOn_71 : decode cX2_liesOn 71 = .ok (.invokestatic 91, 3) := by decide +kernel
theorem dX2_liesOn_74 : decode cX2_liesOn 74 = .ok (.if_icmp .lt 27, 3) := by decide +kernel
theorem dX2_liesOn_77 : decode cX2_liesOn 77 = .ok (.iload_n 3, 1) := by decide +kernel
theorem dX2_liesOn_78 : decode cX2_liesOn 78 = .ok (.aload_n 0, 1) := by decide +kernel
theorem dX2_liesOn_79 : decode cX2_liesOn 79 = .ok (.getfield 15, 3) := by decide +kernel
theorem dX2_liesOn_82 : decode cX2_liesOn 82 = .ok (.iload_n 1, 1) := by decide +kernel
theorem dX2_liesOn_83 : decode cX2_liesOn 83 = .ok (.iaload, 1) := by decide +kernel
theorem dX2_liesOn_84 : decode cX2_liesOn 84 = .ok (.aload_n 0, 1) := by decide +kernel
theorem dX2_liesOn_85 : decode cX2_liesOn 85 = .ok (.getfield 15, 3) := by decide +kernel
theorem dX2_liesOn_88 : decode cX2_liesOn 88 = .ok (.iload 4, 2) := by decide +kernel
theorem dX2_liesOn_90 : decode cX2_liesOn 90 = .ok (.iaload, 1) := by decide +kernel
theorem dX2_liesOn_91 : decode cX2_liesOn 91 = .ok (.invokestatic 42, 3) := by decide +kernel
theorem dX2_liesOn_94 : decode cX2_liesOn 94 = .ok (.if_icmp .gt 7, 3) := by decide +kernel
theorem dX2_liesOn_97 : decode cX2_liesOn 97 = .ok (.iconst 1, 1) := by decide +kernel
theorem dX2_liesOn_98 : decode cX2_liesOn 98 = .ok (.goto 4, 3) := by decide +kernel
theorem dX2_liesOn_101 : decode cX2_liesOn 101 = .ok (.iconst 0, 1) := by decide +kernel
theorem dX2_liesOn_102 : decode cX2_liesOn 102 = .ok (.ireturn, 1) := by decide +kernel
theorem dX2_rayCrosses_0 : decode cX2_rayCrosses 0 = .ok (.aload_n 0, 1) := by decide +kernel
theorem dX2_rayCrosses_1 : decode cX2_rayCrosses 1 = .ok (.getfield 15, 3) := by decide +kernel
theorem dX2_rayCrosses_4 : decode cX2_rayCrosses 4 = .ok (.iload_n 1, 1) := by decide +kernel
theorem dX2_rayCrosses_5 : decode cX2_rayCrosses 5 = .ok (.iaload, 1) := by decide +kernel
theorem dX2_rayCrosses_6 : decode cX2_rayCrosses 6 = .ok (.iload_n 3, 1) := by decide +kernel
theorem dX2_rayCrosses_7 : decode cX2_rayCrosses 7 = .ok (.if_icmp .le 7, 3) := by decide +kernel
theorem dX2_rayCrosses_10 : decode cX2_rayCrosses 10 = .ok (.iconst 1, 1) := by decide +kernel
theorem dX2_rayCrosses_11 : decode cX2_rayCrosses 11 = .ok (.goto 4, 3) := by decide +kernel
theorem dX2_rayCrosses_14 : decode cX2_rayCrosses 14 = .ok (.iconst 0, 1) := by decide +kernel
theorem dX2_rayCrosses_15 : decode cX2_rayCrosses 15 = .ok (.istore 4, 2) := by decide +kernel
theorem dX2_rayCrosses_17 : decode cX2_rayCrosses 17 = .ok (.aload_n 0, 1) := by decide +kernel
theorem dX2_rayCrosses_18 : decode cX2_rayCrosses 18 = .ok (.getfield 15, 3) := by decide +kernel
theorem dX2_rayCrosses_21 : decode cX2_rayCrosses 21 = .ok (.aload_n 0, 1) := by decide +kernel
theorem dX2_rayCrosses_22 : decode cX2_rayCrosses 22 = .ok (.iload_n 1, 1) := by decide +kernel
theorem dX2_rayCrosses_23 : decode cX2_rayCrosses 23 = .ok (.invokevirtual 70, 3) := by decide +kernel
theorem dX2_rayCrosses_26 : decode cX2_rayCrosses 26 = .ok (.iaload, 1) := by decide +kernel
theorem dX2_rayCrosses_27 : decode cX2_rayCrosses 27 = .ok (.iload_n 3, 1) := by decide +kernel
theorem dX2_rayCrosses_28 : decode cX2_rayCrosses 28 = .ok (.if_icmp .le 7, 3) := by decide +kernel
theorem dX2_rayCrosses_31 : decode cX2_rayCrosses 31 = .ok (.iconst 1, 1) := by decide +kernel
theorem dX2_rayCrosses_32 : decode cX2_rayCrosses 32 = .ok (.goto 4, 3) := by decide +kernel
theorem dX2_rayCrosses_35 : decode cX2_rayCrosses 35 = .ok (.iconst 0, 1) := by decide +kernel
theorem dX2_rayCrosses_36 : decode cX2_rayCrosses 36 = .ok (.istore 5, 2) := by decide +kernel
theorem dX2_rayCrosses_38 : decode cX2_rayCrosses 38 = .ok (.iload 4, 2) := by decide +kernel
theorem dX2_rayCrosses_40 : decode cX2_rayCrosses 40 = .ok (.iload 5, 2) := by decide +kernel
theorem dX2_rayCrosses_42 : decode cX2_rayCrosses 42 = .ok (.if_icmp .ne 5, 3) := by decide +kernel
theorem dX2_rayCrosses_45 : decode cX2_rayCrosses 45 = .ok (.iconst 0, 1) := by decide +kernel
theorem dX2_rayCrosses_46 : decode cX2_rayCrosses 46 = .ok (.ireturn, 1) := by decide +kernel
theorem dX2_rayCrosses_47 : decode cX2_rayCrosses 47 = .ok (.aload_n 0, 1) := by decide +kernel
theorem dX2_rayCrosses_48 : decode cX2_rayCrosses 48 = .ok (.iload_n 1, 1) := by decide +kernel
theorem dX2_rayCrosses_49 : decode cX2_rayCrosses 49 = .ok (.iload_n 2, 1) := by decide +kernel
theorem dX2_rayCrosses_50 : decode cX2_rayCrosses 50 = .ok (.iload_n 3, 1) := by decide +kernel
theorem dX2_rayCrosses_51 : decode cX2_rayCrosses 51 = .ok (.invokevirtual 87, 3) := by decide +kernel
theorem dX2_rayCrosses_54 : decode cX2_rayCrosses 54 = .ok (.istore 6, 2) := by decide +kernel
theorem dX2_rayCrosses_56 : decode cX2_rayCrosses 56 = .ok (.iload 5, 2) := by decide +kernel
theorem dX2_rayCrosses_58 : decode cX2_rayCrosses 58 = .ok (.ifCond .eq 16, 3) := by decide +kernel
theorem dX2_rayCrosses_61 : decode cX2_rayCrosses 61 = .ok (.iload 6, 2) := by decide +kernel
theorem dX2_rayCrosses_63 : decode cX2_rayCrosses 63 = .ok (.ifCond .le 7, 3) := by decide +kernel
theorem dX2_rayCrosses_66 : decode cX2_rayCrosses 66 = .ok (.iconst 1, 1) := by decide +kernel
theorem dX2_rayCrosses_67 : decode cX2_rayCrosses 67 = .ok (.goto 17, 3) := by decide +kernel
theorem dX2_rayCrosses_70 : decode cX2_rayCrosses 70 = .ok (.iconst 0, 1) := by decide +kernel
theorem dX2_rayCrosses_71 : decode cX2_rayCrosses 71 = .ok (.goto 13, 3) := by decide +kernel
theorem dX2_rayCrosses_74 : decode cX2_rayCrosses 74 = .ok (.iload 6, 2) := by decide +kernel
theorem dX2_rayCrosses_76 : decode cX2_rayCrosses 76 = .ok (.ifCond .ge 7, 3) := by decide +kernel
theorem dX2_rayCrosses_79 : decode cX2_rayCrosses 79 = .ok (.iconst 1, 1) := by decide +kernel
theorem dX2_rayCrosses_80 : decode cX2_rayCrosses 80 = .ok (.goto 4, 3) := by decide +kernel
theorem dX2_rayCrosses_83 : decode cX2_rayCrosses 83 = .ok (.iconst 0, 1) := by decide +kernel
theorem dX2_rayCrosses_84 : decode cX2_rayCrosses 84 = .ok (.ireturn, 1) := by decide +kernel
theorem dX2_insert_0 : decode cX2_insert 0 = .ok (.aload_n 0, 1) := by decide +kernel
theorem dX2_insert_1 : decode cX2_insert 1 = .ok (.getfield 9, 3) := by decide +kernel
theorem dX2_insert_4 : decode cX2_insert 4 = .ok (.iload_n 1, 1) := by decide +kernel
theorem dX2_insert_5 : decode cX2_insert 5 = .ok (.aload_n 0, 1) := by decide +kernel
theorem dX2_insert_6 : decode cX2_insert 6 = .ok (.getfield 9, 3) := by decide +kernel
theorem dX2_insert_9 : decode cX2_insert 9 = .ok (.iload_n 1, 1) := by decide +kernel
theorem dX2_insert_10 : decode cX2_insert 10 = .ok (.iconst 1, 1) := by decide +kernel
theorem dX2_insert_11 : decode cX2_insert 11 = .ok (.iadd, 1) := by decide +kernel
theorem dX2_insert_12 : decode cX2_insert 12 = .ok (.aload_n 0, 1) := by decide +kernel
theorem dX2_insert_13 : decode cX2_insert 13 = .ok (.getfield 18, 3) := by decide +kernel
theorem dX2_insert_16 : decode cX2_insert 16 = .ok (.iload_n 1, 1) := by decide +kernel
theorem dX2_insert_17 : decode cX2_insert 17 = .ok (.isub, 1) := by decide +kernel
theorem dX2_insert_18 : decode cX2_insert 18 = .ok (.invokestatic 22, 3) := by decide +kernel
theorem dX2_insert_21 : decode cX2_insert 21 = .ok (.aload_n 0, 1) := by decide +kernel
theorem dX2_insert_22 : decode cX2_insert 22 = .ok (.getfield 15, 3) := by decide +kernel
theorem dX2_insert_25 : decode cX2_insert 25 = .ok (.iload_n 1, 1) := by decide +kernel
theorem dX2_insert_26 : decode cX2_insert 26 = .ok (.aload_n 0, 1) := by decide +kernel
theorem dX2_insert_27 : decode cX2_insert 27 = .ok (.getfield 15, 3) := by decide +kernel
theorem dX2_insert_30 : decode cX2_insert 30 = .ok (.iload_n 1, 1) := by decide +kernel
theorem dX2_insert_31 : decode cX2_insert 31 = .ok (.iconst 1, 1) := by decide +kernel
theorem dX2_insert_32 : decode cX2_insert 32 = .ok (.iadd, 1) := by decide +kernel
theorem dX2_insert_33 : decode cX2_insert 33 = .ok (.aload_n 0, 1) := by decide +kernel
theorem dX2_insert_34 : decode cX2_insert 34 = .ok (.getfield 18, 3) := by decide +kernel
theorem dX2_insert_37 : decode cX2_insert 37 = .ok (.iload_n 1, 1) := by decide +kernel
theorem dX2_insert_38 : decode cX2_insert 38 = .ok (.isub, 1) := by decide +kernel
theorem dX2_insert_39 : decode cX2_insert 39 = .ok (.invokestatic 22, 3) := by decide +kernel
theorem dX2_insert_42 : decode cX2_insert 42 = .ok (.aload_n 0, 1) := by decide +kernel
theorem dX2_insert_43 : decode cX2_insert 43 = .ok (.getfield 9, 3) := by decide +kernel
theorem dX2_insert_46 : decode cX2_insert 46 = .ok (.iload_n 1, 1) := by decide +kernel
theorem dX2_insert_47 : decode cX2_insert 47 = .ok (.iload_n 2, 1) := by decide +kernel
theorem dX2_insert_48 : decode cX2_insert 48 = .ok (.iastore, 1) := by decide +kernel
theorem dX2_insert_49 : decode cX2_insert 49 = .ok (.aload_n 0, 1) := by decide +kernel
theorem dX2_insert_50 : decode cX2_insert 50 = .ok (.getfield 15, 3) := by decide +kernel
theorem dX2_insert_53 : decode cX2_insert 53 = .ok (.iload_n 1, 1) := by decide +kernel
theorem dX2_insert_54 : decode cX2_insert 54 = .ok (.iload_n 3, 1) := by decide +kernel
theorem dX2_insert_55 : decode cX2_insert 55 = .ok (.iastore, 1) := by decide +kernel
theorem dX2_insert_56 : decode cX2_insert 56 = .ok (.aload_n 0, 1) := by decide +kernel
theorem dX2_insert_57 : decode cX2_insert 57 = .ok (.dup, 1) := by decide +kernel
theorem dX2_insert_58 : decode cX2_insert 58 = .ok (.getfield 18, 3) := by decide +kernel
theorem dX2_insert_61 : decode cX2_insert 61 = .ok (.iconst 1, 1) := by decide +kernel
theorem dX2_insert_62 : decode cX2_insert 62 = .ok (.iadd, 1) := by decide +kernel
theorem dX2_insert_63 : decode cX2_insert 63 = .ok (.putfield 18, 3) := by decide +kernel
theorem dX2_insert_66 : decode cX2_insert 66 = .ok (.return_, 1) := by decide +kernel
theorem dX2_drop_0 : decode cX2_drop 0 = .ok (.aload_n 0, 1) := by decide +kernel
theorem dX2_drop_1 : decode cX2_drop 1 = .ok (.getfield 9, 3) := by decide +kernel
theorem dX2_drop_4 : decode cX2_drop 4 = .ok (.iload_n 1, 1) := by decide +kernel
theorem dX2_drop_5 : decode cX2_drop 5 = .ok (.iconst 1, 1) := by decide +kernel
theorem dX2_drop_6 : decode cX2_drop 6 = .ok (.iadd, 1) := by decide +kernel
theorem dX2_drop_7 : decode cX2_drop 7 = .ok (.aload_n 0, 1) := by decide +kernel
theorem dX2_drop_8 : decode cX2_drop 8 = .ok (.getfield 9, 3) := by decide +kernel
theorem dX2_drop_11 : decode cX2_drop 11 = .ok (.iload_n 1, 1) := by decide +kernel
theorem dX2_drop_12 : decode cX2_drop 12 = .ok (.aload_n 0, 1) := by decide +kernel
theorem dX2_drop_13 : decode cX2_drop 13 = .ok (.getfield 18, 3) := by decide +kernel
theorem dX2_drop_16 : decode cX2_drop 16 = .ok (.iload_n 1, 1) := by decide +kernel
theorem dX2_drop_17 : decode cX2_drop 17 = .ok (.isub, 1) := by decide +kernel
theorem dX2_drop_18 : decode cX2_drop 18 = .ok (.iconst 1, 1) := by decide +kernel
theorem dX2_drop_19 : decode cX2_drop 19 = .ok (.isub, 1) := by decide +kernel
theorem dX2_drop_20 : decode cX2_drop 20 = .ok (.invokestatic 22, 3) := by decide +kernel
theorem dX2_drop_23 : decode cX2_drop 23 = .ok (.aload_n 0, 1) := by decide +kernel
theorem dX2_drop_24 : decode cX2_drop 24 = .ok (.getfield 15, 3) := by decide +kernel
theorem dX2_drop_27 : decode cX2_drop 27 = .ok (.iload_n 1, 1) := by decide +kernel
theorem dX2_drop_28 : decode cX2_drop 28 = .ok (.iconst 1, 1) := by decide +kernel
theorem dX2_drop_29 : decode cX2_drop 29 = .ok (.iadd, 1) := by decide +kernel
theorem dX2_drop_30 : decode cX2_drop 30 = .ok (.aload_n 0, 1) := by decide +kernel
theorem dX2_drop_31 : decode cX2_drop 31 = .ok (.getfield 15, 3) := by decide +kernel
theorem dX2_drop_34 : decode cX2_drop 34 = .ok (.iload_n 1, 1) := by decide +kernel
theorem dX2_drop_35 : decode cX2_drop 35 = .ok (.aload_n 0, 1) := by decide +kernel
theorem dX2_drop_36 : decode cX2_drop 36 = .ok (.getfield 18, 3) := by decide +kernel
theorem dX2_drop_39 : decode cX2_drop 39 = .ok (.iload_n 1, 1) := by decide +kernel
theorem dX2_drop_40 : decode cX2_drop 40 = .ok (.isub, 1) := by decide +kernel
theorem dX2_drop_41 : decode cX2_drop 41 = .ok (.iconst 1, 1) := by decide +kernel
theorem dX2_drop_42 : decode cX2_drop 42 = .ok (.isub, 1) := by decide +kernel
theorem dX2_drop_43 : decode cX2_drop 43 = .ok (.invokestatic 22, 3) := by decide +kernel
theorem dX2_drop_46 : decode cX2_drop 46 = .ok (.aload_n 0, 1) := by decide +kernel
theorem dX2_drop_47 : decode cX2_drop 47 = .ok (.dup, 1) := by decide +kernel
theorem dX2_drop_48 : decode cX2_drop 48 = .ok (.getfield 18, 3) := by decide +kernel
theorem dX2_drop_51 : decode cX2_drop 51 = .ok (.iconst 1, 1) := by decide +kernel
theorem dX2_drop_52 : decode cX2_drop 52 = .ok (.isub, 1) := by decide +kernel
theorem dX2_drop_53 : decode cX2_drop 53 = .ok (.putfield 18, 3) := by decide +kernel
theorem dX2_drop_56 : decode cX2_drop 56 = .ok (.return_, 1) := by decide +kernel
theorem dX2_pointsAfterUnfold_0 : decode cX2_pointsAfterUnfold 0 = .ok (.aload_n 0, 1) := by decide +kernel
theorem dX2_pointsAfterUnfold_1 : decode cX2_pointsAfterUnfold 1 = .ok (.getfield 18, 3) := by decide +kernel
theorem dX2_pointsAfterUnfold_4 : decode cX2_pointsAfterUnfold 4 = .ok (.iconst 1, 1) := by decide +kernel
theorem dX2_pointsAfterUnfold_5 : decode cX2_pointsAfterUnfold 5 = .ok (.iadd, 1) := by decide +kernel
theorem dX2_pointsAfterUnfold_6 : decode cX2_pointsAfterUnfold 6 = .ok (.iconst 1, 1) := by decide +kernel
theorem dX2_pointsAfterUnfold_7 : decode cX2_pointsAfterUnfold 7 = .ok (.ishr, 1) := by decide +kernel
theorem dX2_pointsAfterUnfold_8 : decode cX2_pointsAfterUnfold 8 = .ok (.ireturn, 1) := by decide +kernel
theorem dX2_dropOddPoints_0 : decode cX2_dropOddPoints 0 = .ok (.aload_n 0, 1) := by decide +kernel
theorem dX2_dropOddPoints_1 : decode cX2_dropOddPoints 1 = .ok (.invokevirtual 94, 3) := by decide +kernel
theorem dX2_dropOddPoints_4 : decode cX2_dropOddPoints 4 = .ok (.istore_n 1, 1) := by decide +kernel
theorem dX2_dropOddPoints_5 : decode cX2_dropOddPoints 5 = .ok (.iconst 0, 1) := by decide +kernel
theorem dX2_dropOddPoints_6 : decode cX2_dropOddPoints 6 = .ok (.istore_n 2, 1) := by decide +kernel
theorem dX2_dropOddPoints_7 : decode cX2_dropOddPoints 7 = .ok (.iload_n 2, 1) := by decide +kernel
theorem dX2_dropOddPoints_8 : decode cX2_dropOddPoints 8 = .ok (.iload_n 1, 1) := by decide +kernel
theorem dX2_dropOddPoints_9 : decode cX2_dropOddPoints 9 = .ok (.if_icmp .ge 37, 3) := by decide +kernel
theorem dX2_dropOddPoints_12 : decode cX2_dropOddPoints 12 = .ok (.aload_n 0, 1) := by decide +kernel
theorem dX2_dropOddPoints_13 : decode cX2_dropOddPoints 13 = .ok (.getfield 9, 3) := by decide +kernel
theorem dX2_dropOddPoints_16 : decode cX2_dropOddPoints 16 = .ok (.iload_n 2, 1) := by decide +kernel
theorem dX2_dropOddPoints_17 : decode cX2_dropOddPoints 17 = .ok (.aload_n 0, 1) := by decide +kernel
theorem dX2_dropOddPoints_18 : decode cX2_dropOddPoints 18 = .ok (.getfield 9, 3) := by decide +kernel
theorem dX2_dropOddPoints_21 : decode cX2_dropOddPoints 21 = .ok (.iconst 2, 1) := by decide +kernel
theorem dX2_dropOddPoints_22 : decode cX2_dropOddPoints 22 = .ok (.iload_n 2, 1) := by decide +kernel
theorem dX2_dropOddPoints_23 : decode cX2_dropOddPoints 23 = .ok (.imul, 1) := by decide +kernel
theorem dX2_dropOddPoints_24 : decode cX2_dropOddPoints 24 = .ok (.iaload, 1) := by decide +kernel
theorem dX2_dropOddPoints_25 : decode cX2_dropOddPoints 25 = .ok (.iastore, 1) := by decide +kernel
theorem dX2_dropOddPoints_26 : decode cX2_dropOddPoints 26 = .ok (.aload_n 0, 1) := by decide +kernel
theorem dX2_dropOddPoints_27 : decode cX2_dropOddPoints 27 = .ok (.getfield 15, 3) := by decide +kernel
theorem dX2_dropOddPoints_30 : decode cX2_dropOddPoints 30 = .ok (.iload_n 2, 1) := by decide +kernel
theorem dX2_dropOddPoints_31 : decode cX2_dropOddPoints 31 = .ok (.aload_n 0, 1) := by decide +kernel
theorem dX2_dropOddPoints_32 : decode cX2_dropOddPoints 32 = .ok (.getfield 15, 3) := by decide +kernel
theorem dX2_dropOddPoints_35 : decode cX2_dropOddPoints 35 = .ok (.iconst 2, 1) := by decide +kernel
theorem dX2_dropOddPoints_36 : decode cX2_dropOddPoints 36 = .ok (.iload_n 2, 1) := by decide +kernel
theorem dX2_dropOddPoints_37 : decode cX2_dropOddPoints 37 = .ok (.imul, 1) := by decide +kernel
theorem dX2_dropOddPoints_38 : decode cX2_dropOddPoints 38 = .ok (.iaload, 1) := by decide +kernel
theorem dX2_dropOddPoints_39 : decode cX2_dropOddPoints 39 = .ok (.iastore, 1) := by decide +kernel
theorem dX2_dropOddPoints_40 : decode cX2_dropOddPoints 40 = .ok (.iinc 2 1, 3) := by decide +kernel
theorem dX2_dropOddPoints_43 : decode cX2_dropOddPoints 43 = .ok (.goto (-36), 3) := by decide +kernel
theorem dX2_dropOddPoints_46 : decode cX2_dropOddPoints 46 = .ok (.aload_n 0, 1) := by decide +kernel
theorem dX2_dropOddPoints_47 : decode cX2_dropOddPoints 47 = .ok (.iload_n 1, 1) := by decide +kernel
theorem dX2_dropOddPoints_48 : decode cX2_dropOddPoints 48 = .ok (.putfield 18, 3) := by decide +kernel
theorem dX2_dropOddPoints_51 : decode cX2_dropOddPoints 51 = .ok (.return_, 1) := by decide +kernel
theorem dX2_isFlat_0 : decode cX2_isFlat 0 = .ok (.aload_n 0, 1) := by decide +kernel
theorem dX2_isFlat_1 : decode cX2_isFlat 1 = .ok (.getfield 9, 3) := by decide +kernel
theorem dX2_isFlat_4 : decode cX2_isFlat 4 = .ok (.iload_n 1, 1) := by decide +kernel
theorem dX2_isFlat_5 : decode cX2_isFlat 5 = .ok (.iaload, 1) := by decide +kernel
theorem dX2_isFlat_6 : decode cX2_isFlat 6 = .ok (.aload_n 0, 1) := by decide +kernel
theorem dX2_isFlat_7 : decode cX2_isFlat 7 = .ok (.getfield 9, 3) := by decide +kernel
theorem dX2_isFlat_10 : decode cX2_isFlat 10 = .ok (.iload_n 2, 1) := by decide +kernel
theorem dX2_isFlat_11 : decode cX2_isFlat 11 = .ok (.iaload, 1) := by decide +kernel
theorem dX2_isFlat_12 : decode cX2_isFlat 12 = .ok (.isub, 1) := by decide +kernel
theorem dX2_isFlat_13 : decode cX2_isFlat 13 = .ok (.invokestatic 36, 3) := by decide +kernel
theorem dX2_isFlat_16 : decode cX2_isFlat 16 = .ok (.aload_n 0, 1) := by decide +kernel
theorem dX2_isFlat_17 : decode cX2_isFlat 17 = .ok (.getfield 15, 3) := by decide +kernel
theorem dX2_isFlat_20 : decode cX2_isFlat 20 = .ok (.iload_n 1, 1) := by decide +kernel
theorem dX2_isFlat_21 : decode cX2_isFlat 21 = .ok (.iaload, 1) := by decide +kernel
theorem dX2_isFlat_22 : decode cX2_isFlat 22 = .ok (.aload_n 0, 1) := by decide +kernel
theorem dX2_isFlat_23 : decode cX2_isFlat 23 = .ok (.getfield 15, 3) := by decide +kernel
theorem dX2_isFlat_26 : decode cX2_isFlat 26 = .ok (.iload_n 2, 1) := by decide +kernel
theorem dX2_isFlat_27 : decode cX2_isFlat 27 = .ok (.iaload, 1) := by decide +kernel
theorem dX2_isFlat_28 : decode cX2_isFlat 28 = .ok (.isub, 1) := by decide +kernel
theorem dX2_isFlat_29 : decode cX2_isFlat 29 = .ok (.invokestatic 36, 3) := by decide +kernel
theorem dX2_isFlat_32 : decode cX2_isFlat 32 = .ok (.if_icmp .lt 7, 3) := by decide +kernel
theorem dX2_isFlat_35 : decode cX2_isFlat 35 = .ok (.iconst 1, 1) := by decide +kernel
theorem dX2_isFlat_36 : decode cX2_isFlat 36 = .ok (.goto 4, 3) := by decide +kernel
theorem dX2_isFlat_39 : decode cX2_isFlat 39 = .ok (.iconst 0, 1) := by decide +kernel
theorem dX2_isFlat_40 : decode cX2_isFlat 40 = .ok (.ireturn, 1) := by decide +kernel
theorem dX2_displacement_0 : decode cX2_displacement 0 = .ok (.iload_n 1, 1) := by decide +kernel
theorem dX2_displacement_1 : decode cX2_displacement 1 = .ok (.iconst 1, 1) := by decide +kernel
theorem dX2_displacement_2 : decode cX2_displacement 2 = .ok (.iand, 1) := by decide +kernel
theorem dX2_displacement_3 : decode cX2_displacement 3 = .ok (.ifCond .ne 7, 3) := by decide +kernel
theorem dX2_displacement_6 : decode cX2_displacement 6 = .ok (.iload_n 2, 1) := by decide +kernel
theorem dX2_displacement_7 : decode cX2_displacement 7 = .ok (.goto 5, 3) := by decide +kernel
theorem dX2_displacement_10 : decode cX2_displacement 10 = .ok (.iload_n 2, 1) := by decide +kernel
theorem dX2_displacement_11 : decode cX2_displacement 11 = .ok (.ineg, 1) := by decide +kernel
theorem dX2_displacement_12 : decode cX2_displacement 12 = .ok (.ireturn, 1) := by decide +kernel
theorem dX2_midpointX_0 : decode cX2_midpointX 0 = .ok (.aload_n 0, 1) := by decide +kernel
theorem dX2_midpointX_1 : decode cX2_midpointX 1 = .ok (.iload_n 1, 1) := by decide +kernel
theorem dX2_midpointX_2 : decode cX2_midpointX 2 = .ok (.invokevirtual 70, 3) := by decide +kernel
theorem dX2_midpointX_5 : decode cX2_midpointX 5 = .ok (.istore_n 3, 1) := by decide +kernel
theorem dX2_midpointX_6 : decode cX2_midpointX 6 = .ok (.aload_n 0, 1) := by decide +kernel
theorem dX2_midpointX_7 : decode cX2_midpointX 7 = .ok (.getfield 9, 3) := by decide +kernel
theorem dX2_midpointX_10 : decode cX2_midpointX 10 = .ok (.iload_n 1, 1) := by decide +kernel
theorem dX2_midpointX_11 : decode cX2_midpointX 11 = .ok (.iaload, 1) := by decide +kernel
theorem dX2_midpointX_12 : decode cX2_midpointX 12 = .ok (.aload_n 0, 1) := by decide +kernel
theorem dX2_midpointX_13 : decode cX2_midpointX 13 = .ok (.getfield 9, 3) := by decide +kernel
theorem dX2_midpointX_16 : decode cX2_midpointX 16 = .ok (.iload_n 3, 1) := by decide +kernel
theorem dX2_midpointX_17 : decode cX2_midpointX 17 = .ok (.iaload, 1) := by decide +kernel
theorem dX2_midpointX_18 : decode cX2_midpointX 18 = .ok (.iadd, 1) := by decide +kernel
theorem dX2_midpointX_19 : decode cX2_midpointX 19 = .ok (.iconst 1, 1) := by decide +kernel
theorem dX2_midpointX_20 : decode cX2_midpointX 20 = .ok (.ishr, 1) := by decide +kernel
theorem dX2_midpointX_21 : decode cX2_midpointX 21 = .ok (.istore 4, 2) := by decide +kernel
theorem dX2_midpointX_23 : decode cX2_midpointX 23 = .ok (.aload_n 0, 1) := by decide +kernel
theorem dX2_midpointX_24 : decode cX2_midpointX 24 = .ok (.iload_n 1, 1) := by decide +kernel
theorem dX2_midpointX_25 : decode cX2_midpointX 25 = .ok (.iload_n 3, 1) := by decide +kernel
theorem dX2_midpointX_26 : decode cX2_midpointX 26 = .ok (.invokevirtual 97, 3) := by decide +kernel
theorem dX2_midpointX_29 : decode cX2_midpointX 29 = .ok (.ifCond .eq 8, 3) := by decide +kernel
theorem dX2_midpointX_32 : decode cX2_midpointX 32 = .ok (.iload 4, 2) := by decide +kernel
theorem dX2_midpointX_34 : decode cX2_midpointX 34 = .ok (.goto 12, 3) := by decide +kernel
theorem dX2_midpointX_37 : decode cX2_midpointX 37 = .ok (.iload 4, 2) := by decide +kernel
theorem dX2_midpointX_39 : decode cX2_midpointX 39 = .ok (.aload_n 0, 1) := by decide +kernel
theorem dX2_midpointX_40 : decode cX2_midpointX 40 = .ok (.iload_n 1, 1) := by decide +kernel
theorem dX2_midpointX_41 : decode cX2_midpointX 41 = .ok (.iload_n 2, 1) := by decide +kernel
theorem dX2_midpointX_42 : decode cX2_midpointX 42 = .ok (.invokevirtual 100, 3) := by decide +kernel
theorem dX2_midpointX_45 : decode cX2_midpointX 45 = .ok (.iadd, 1) := by decide +kernel
theorem dX2_midpointX_46 : decode cX2_midpointX 46 = .ok (.ireturn, 1) := by decide +kernel
theorem dX2_midpointY_0 : decode cX2_midpointY 0 = .ok (.aload_n 0, 1) := by decide +kernel
theorem dX2_midpointY_1 : decode cX2_midpointY 1 = .ok (.iload_n 1, 1) := by decide +kernel
theorem dX2_midpointY_2 : decode cX2_midpointY 2 = .ok (.invokevirtual 70, 3) := by decide +kernel
theorem dX2_midpointY_5 : decode cX2_midpointY 5 = .ok (.istore_n 3, 1) := by decide +kernel
theorem dX2_midpointY_6 : decode cX2_midpointY 6 = .ok (.aload_n 0, 1) := by decide +kernel
theorem dX2_midpointY_7 : decode cX2_midpointY 7 = .ok (.getfield 15, 3) := by decide +kernel
theorem dX2_midpointY_10 : decode cX2_midpointY 10 = .ok (.iload_n 1, 1) := by decide +kernel
theorem dX2_midpointY_11 : decode cX2_midpointY 11 = .ok (.iaload, 1) := by decide +kernel
theorem dX2_midpointY_12 : decode cX2_midpointY 12 = .ok (.aload_n 0, 1) := by decide +kernel
theorem dX2_midpointY_13 : decode cX2_midpointY 13 = .ok (.getfield 15, 3) := by decide +kernel
theorem dX2_midpointY_16 : decode cX2_midpointY 16 = .ok (.iload_n 3, 1) := by decide +kernel
theorem dX2_midpointY_17 : decode cX2_midpointY 17 = .ok (.iaload, 1) := by decide +kernel
theorem dX2_midpointY_18 : decode cX2_midpointY 18 = .ok (.iadd, 1) := by decide +kernel
theorem dX2_midpointY_19 : decode cX2_midpointY 19 = .ok (.iconst 1, 1) := by decide +kernel
theorem dX2_midpointY_20 : decode cX2_midpointY 20 = .ok (.ishr, 1) := by decide +kernel
theorem dX2_midpointY_21 : decode cX2_midpointY 21 = .ok (.istore 4, 2) := by decide +kernel
theorem dX2_midpointY_23 : decode cX2_midpointY 23 = .ok (.aload_n 0, 1) := by decide +kernel
theorem dX2_midpointY_24 : decode cX2_midpointY 24 = .ok (.iload_n 1, 1) := by decide +kernel
theorem dX2_midpointY_25 : decode cX2_midpointY 25 = .ok (.iload_n 3, 1) := by decide +kernel
theorem dX2_midpointY_26 : decode cX2_midpointY 26 = .ok (.invokevirtual 97, 3) := by decide +kernel
theorem dX2_midpointY_29 : decode cX2_midpointY 29 = .ok (.ifCond .eq 15, 3) := by decide +kernel
theorem dX2_midpointY_32 : decode cX2_midpointY 32 = .ok (.iload 4, 2) := by decide +kernel
theorem dX2_midpointY_34 : decode cX2_midpointY 34 = .ok (.aload_n 0, 1) := by decide +kernel
theorem dX2_midpointY_35 : decode cX2_midpointY 35 = .ok (.iload_n 1, 1) := by decide +kernel
theorem dX2_midpointY_36 : decode cX2_midpointY 36 = .ok (.iload_n 2, 1) := by decide +kernel
theorem dX2_midpointY_37 : decode cX2_midpointY 37 = .ok (.invokevirtual 100, 3) := by decide +kernel
theorem dX2_midpointY_40 : decode cX2_midpointY 40 = .ok (.iadd, 1) := by decide +kernel
theorem dX2_midpointY_41 : decode cX2_midpointY 41 = .ok (.goto 5, 3) := by decide +kernel
theorem dX2_midpointY_44 : decode cX2_midpointY 44 = .ok (.iload 4, 2) := by decide +kernel
theorem dX2_midpointY_46 : decode cX2_midpointY 46 = .ok (.ireturn, 1) := by decide +kernel
theorem dX2_whyNotFold_0 : decode cX2_whyNotFold 0 = .ok (.aload_n 0, 1) := by decide +kernel
theorem dX2_whyNotFold_1 : decode cX2_whyNotFold 1 = .ok (.getfield 18, 3) := by decide +kernel
theorem dX2_whyNotFold_4 : decode cX2_whyNotFold 4 = .ok (.aload_n 0, 1) := by decide +kernel
theorem dX2_whyNotFold_5 : decode cX2_whyNotFold 5 = .ok (.invokevirtual 73, 3) := by decide +kernel
theorem dX2_whyNotFold_8 : decode cX2_whyNotFold 8 = .ok (.iadd, 1) := by decide +kernel
theorem dX2_whyNotFold_9 : decode cX2_whyNotFold 9 = .ok (.sipush 129, 3) := by decide +kernel
theorem dX2_whyNotFold_12 : decode cX2_whyNotFold 12 = .ok (.if_icmp .le 5, 3) := by decide +kernel
theorem dX2_whyNotFold_15 : decode cX2_whyNotFold 15 = .ok (.iconst 1, 1) := by decide +kernel
theorem dX2_whyNotFold_16 : decode cX2_whyNotFold 16 = .ok (.ireturn, 1) := by decide +kernel
theorem dX2_whyNotFold_17 : decode cX2_whyNotFold 17 = .ok (.iconst 0, 1) := by decide +kernel
theorem dX2_whyNotFold_18 : decode cX2_whyNotFold 18 = .ok (.istore_n 2, 1) := by decide +kernel
theorem dX2_whyNotFold_19 : decode cX2_whyNotFold 19 = .ok (.iload_n 2, 1) := by decide +kernel
theorem dX2_whyNotFold_20 : decode cX2_whyNotFold 20 = .ok (.aload_n 0, 1) := by decide +kernel
theorem dX2_whyNotFold_21 : decode cX2_whyNotFold 21 = .ok (.invokevirtual 73, 3) := by decide +kernel
theorem dX2_whyNotFold_24 : decode cX2_whyNotFold 24 = .ok (.if_icmp .ge 35, 3) := by decide +kernel
theorem dX2_whyNotFold_27 : decode cX2_whyNotFold 27 = .ok (.aload_n 0, 1) := by decide +kernel
theorem dX2_whyNotFold_28 : decode cX2_whyNotFold 28 = .ok (.iload_n 2, 1) := by decide +kernel
theorem dX2_whyNotFold_29 : decode cX2_whyNotFold 29 = .ok (.iload_n 1, 1) := by decide +kernel
theorem dX2_whyNotFold_30 : decode cX2_whyNotFold 30 = .ok (.invokevirtual 103, 3) := by decide +kernel
theorem dX2_whyNotFold_33 : decode cX2_whyNotFold 33 = .ok (.invokestatic 106, 3) := by decide +kernel
theorem dX2_whyNotFold_36 : decode cX2_whyNotFold 36 = .ok (.ifCond .eq 15, 3) := by decide +kernel
theorem dX2_whyNotFold_39 : decode cX2_whyNotFold 39 = .ok (.aload_n 0, 1) := by decide +kernel
theorem dX2_whyNotFold_40 : decode cX2_whyNotFold 40 = .ok (.iload_n 2, 1) := by decide +kernel
theorem dX2_whyNotFold_41 : decode cX2_whyNotFold 41 = .ok (.iload_n 1, 1) := by decide +kernel
theorem dX2_whyNotFold_42 : decode cX2_whyNotFold 42 = .ok (.invokevirtual 110, 3) := by decide +kernel
theorem dX2_whyNotFold_45 : decode cX2_whyNotFold 45 = .ok (.invokestatic 106, 3) := by decide +kernel
theorem dX2_whyNotFold_48 : decode cX2_whyNotFold 48 = .ok (.ifCond .ne 5, 3) := by decide +kernel
theorem dX2_whyNotFold_51 : decode cX2_whyNotFold 51 = .ok (.iconst 2, 1) := by decide +kernel
theorem dX2_whyNotFold_52 : decode cX2_whyNotFold 52 = .ok (.ireturn, 1) := by decide +kernel
theorem dX2_whyNotFold_53 : decode cX2_whyNotFold 53 = .ok (.iinc 2 1, 3) := by decide +kernel
theorem dX2_whyNotFold_56 : decode cX2_whyNotFold 56 = .ok (.goto (-37), 3) := by decide +kernel
theorem dX2_whyNotFold_59 : decode cX2_whyNotFold 59 = .ok (.iconst 0, 1) := by decide +kernel
theorem dX2_whyNotFold_60 : decode cX2_whyNotFold 60 = .ok (.ireturn, 1) := by decide +kernel
theorem dX2_insertMidpoints_0 : decode cX2_insertMidpoints 0 = .ok (.aload_n 0, 1) := by decide +kernel
theorem dX2_insertMidpoints_1 : decode cX2_insertMidpoints 1 = .ok (.getfield 18, 3) := by decide +kernel
theorem dX2_insertMidpoints_4 : decode cX2_insertMidpoints 4 = .ok (.aload_n 0, 1) := by decide +kernel
theorem dX2_insertMidpoints_5 : decode cX2_insertMidpoints 5 = .ok (.invokevirtual 73, 3) := by decide +kernel
theorem dX2_insertMidpoints_8 : decode cX2_insertMidpoints 8 = .ok (.iadd, 1) := by decide +kernel
theorem dX2_insertMidpoints_9 : decode cX2_insertMidpoints 9 = .ok (.istore_n 2, 1) := by decide +kernel
theorem dX2_insertMidpoints_10 : decode cX2_insertMidpoints 10 = .ok (.aload_n 0, 1) := by decide +kernel
theorem dX2_insertMidpoints_11 : decode cX2_insertMidpoints 11 = .ok (.getfield 18, 3) := by decide +kernel
theorem dX2_insertMidpoints_14 : decode cX2_insertMidpoints 14 = .ok (.iconst 1, 1) := by decide +kernel
theorem dX2_insertMidpoints_15 : decode cX2_insertMidpoints 15 = .ok (.isub, 1) := by decide +kernel
theorem dX2_insertMidpoints_16 : decode cX2_insertMidpoints 16 = .ok (.istore_n 3, 1) := by decide +kernel
theorem dX2_insertMidpoints_17 : decode cX2_insertMidpoints 17 = .ok (.iload_n 3, 1) := by decide +kernel
theorem dX2_insertMidpoints_18 : decode cX2_insertMidpoints 18 = .ok (.ifCond .lt 86, 3) := by decide +kernel
theorem dX2_insertMidpoints_21 : decode cX2_insertMidpoints 21 = .ok (.aload_n 0, 1) := by decide +kernel
theorem dX2_insertMidpoints_22 : decode cX2_insertMidpoints 22 = .ok (.iload_n 3, 1) := by decide +kernel
theorem dX2_insertMidpoints_23 : decode cX2_insertMidpoints 23 = .ok (.iload_n 1, 1) := by decide +kernel
theorem dX2_insertMidpoints_24 : decode cX2_insertMidpoints 24 = .ok (.invokevirtual 103, 3) := by decide +kernel
theorem dX2_insertMidpoints_27 : decode cX2_insertMidpoints 27 = .ok (.istore 4, 2) := by decide +kernel
theorem dX2_insertMidpoints_29 : decode cX2_insertMidpoints 29 = .ok (.aload_n 0, 1) := by decide +kernel
theorem dX2_insertMidpoints_30 : decode cX2_insertMidpoints 30 = .ok (.iload_n 3, 1) := by decide +kernel
theorem dX2_insertMidpoints_31 : decode cX2_insertMidpoints 31 = .ok (.iload_n 1, 1) := by decide +kernel
theorem dX2_insertMidpoints_32 : decode cX2_insertMidpoints 32 = .ok (.invokevirtual 110, 3) := by decide +kernel
theorem dX2_insertMidpoints_35 : decode cX2_insertMidpoints 35 = .ok (.istore 5, 2) := by decide +kernel
theorem dX2_insertMidpoints_37 : decode cX2_insertMidpoints 37 = .ok (.aload_n 0, 1) := by decide +kernel
theorem dX2_insertMidpoints_38 : decode cX2_insertMidpoints 38 = .ok (.getfield 9, 3) := by decide +kernel
theorem dX2_insertMidpoints_41 : decode cX2_insertMidpoints 41 = .ok (.iconst 2, 1) := by decide +kernel
theorem dX2_insertMidpoints_42 : decode cX2_insertMidpoints 42 = .ok (.iload_n 3, 1) := by decide +kernel
theorem dX2_insertMidpoints_43 : decode cX2_insertMidpoints 43 = .ok (.imul, 1) := by decide +kernel
theorem dX2_insertMidpoints_44 : decode cX2_insertMidpoints 44 = .ok (.aload_n 0, 1) := by decide +kernel
theorem dX2_insertMidpoints_45 : decode cX2_insertMidpoints 45 = .ok (.getfield 9, 3) := by decide +kernel
theorem dX2_insertMidpoints_48 : decode cX2_insertMidpoints 48 = .ok (.iload_n 3, 1) := by decide +kernel
theorem dX2_insertMidpoints_49 : decode cX2_insertMidpoints 49 = .ok (.iaload, 1) := by decide +kernel
theorem dX2_insertMidpoints_50 : decode cX2_insertMidpoints 50 = .ok (.iastore, 1) := by decide +kernel
theorem dX2_insertMidpoints_51 : decode cX2_insertMidpoints 51 = .ok (.aload_n 0, 1) := by decide +kernel
theorem dX2_insertMidpoints_52 : decode cX2_insertMidpoints 52 = .ok (.getfield 15, 3) := by decide +kernel
theorem dX2_insertMidpoints_55 : decode cX2_insertMidpoints 55 = .ok (.iconst 2, 1) := by decide +kernel
theorem dX2_insertMidpoints_56 : decode cX2_insertMidpoints 56 = .ok (.iload_n 3, 1) := by decide +kernel
theorem dX2_insertMidpoints_57 : decode cX2_insertMidpoints 57 = .ok (.imul, 1) := by decide +kernel
theorem dX2_insertMidpoints_58 : decode cX2_insertMidpoints 58 = .ok (.aload_n 0, 1) := by decide +kernel
theorem dX2_insertMidpoints_59 : decode cX2_insertMidpoints 59 = .ok (.getfield 15, 3) := by decide +kernel
theorem dX2_insertMidpoints_62 : decode cX2_insertMidpoints 62 = .ok (.iload_n 3, 1) := by decide +kernel
theorem dX2_insertMidpoints_63 : decode cX2_insertMidpoints 63 = .ok (.iaload, 1) := by decide +kernel
theorem dX2_insertMidpoints_64 : decode cX2_insertMidpoints 64 = .ok (.iastore, 1) := by decide +kernel
theorem dX2_insertMidpoints_65 : decode cX2_insertMidpoints 65 = .ok (.iconst 2, 1) := by decide +kernel
theorem dX2_insertMidpoints_66 : decode cX2_insertMidpoints 66 = .ok (.iload_n 3, 1) := by decide +kernel
theorem dX2_insertMidpoints_67 : decode cX2_insertMidpoints 67 = .ok (.imul, 1) := by decide +kernel
theorem dX2_insertMidpoints_68 : decode cX2_insertMidpoints 68 = .ok (.iconst 1, 1) := by decide +kernel
theorem dX2_insertMidpoints_69 : decode cX2_insertMidpoints 69 = .ok (.iadd, 1) := by decide +kernel
theorem dX2_insertMidpoints_70 : decode cX2_insertMidpoints 70 = .ok (.iload_n 2, 1) := by decide +kernel
theorem dX2_insertMidpoints_71 : decode cX2_insertMidpoints 71 = .ok (.if_icmp .ge 27, 3) := by decide +kernel
theorem dX2_insertMidpoints_74 : decode cX2_insertMidpoints 74 = .ok (.aload_n 0, 1) := by decide +kernel
theorem dX2_insertMidpoints_75 : decode cX2_insertMidpoints 75 = .ok (.getfield 9, 3) := by decide +kernel
theorem dX2_insertMidpoints_78 : decode cX2_insertMidpoints 78 = .ok (.iconst 2, 1) := by decide +kernel
theorem dX2_insertMidpoints_79 : decode cX2_insertMidpoints 79 = .ok (.iload_n 3, 1) := by decide +kernel
theorem dX2_insertMidpoints_80 : decode cX2_insertMidpoints 80 = .ok (.imul, 1) := by decide +kernel
theorem dX2_insertMidpoints_81 : decode cX2_insertMidpoints 81 = .ok (.iconst 1, 1) := by decide +kernel
theorem dX2_insertMidpoints_82 : decode cX2_insertMidpoints 82 = .ok (.iadd, 1) := by decide +kernel
theorem dX2_insertMidpoints_83 : decode cX2_insertMidpoints 83 = .ok (.iload 4, 2) := by decide +kernel
theorem dX2_insertMidpoints_85 : decode cX2_insertMidpoints 85 = .ok (.iastore, 1) := by decide +kernel
theorem dX2_insertMidpoints_86 : decode cX2_insertMidpoints 86 = .ok (.aload_n 0, 1) := by decide +kernel
theorem dX2_insertMidpoints_87 : decode cX2_insertMidpoints 87 = .ok (.getfield 15, 3) := by decide +kernel
theorem dX2_insertMidpoints_90 : decode cX2_insertMidpoints 90 = .ok (.iconst 2, 1) := by decide +kernel
theorem dX2_insertMidpoints_91 : decode cX2_insertMidpoints 91 = .ok (.iload_n 3, 1) := by decide +kernel
theorem dX2_insertMidpoints_92 : decode cX2_insertMidpoints 92 = .ok (.imul, 1) := by decide +kernel
theorem dX2_insertMidpoints_93 : decode cX2_insertMidpoints 93 = .ok (.iconst 1, 1) := by decide +kernel
theorem dX2_insertMidpoints_94 : decode cX2_insertMidpoints 94 = .ok (.iadd, 1) := by decide +kernel
theorem dX2_insertMidpoints_95 : decode cX2_insertMidpoints 95 = .ok (.iload 5, 2) := by decide +kernel
theorem dX2_insertMidpoints_97 : decode cX2_insertMidpoints 97 = .ok (.iastore, 1) := by decide +kernel
theorem dX2_insertMidpoints_98 : decode cX2_insertMidpoints 98 = .ok (.iinc 3 (-1), 3) := by decide +kernel
theorem dX2_insertMidpoints_101 : decode cX2_insertMidpoints 101 = .ok (.goto (-84), 3) := by decide +kernel
theorem dX2_insertMidpoints_104 : decode cX2_insertMidpoints 104 = .ok (.aload_n 0, 1) := by decide +kernel
theorem dX2_insertMidpoints_105 : decode cX2_insertMidpoints 105 = .ok (.iload_n 2, 1) := by decide +kernel
theorem dX2_insertMidpoints_106 : decode cX2_insertMidpoints 106 = .ok (.putfield 18, 3) := by decide +kernel
theorem dX2_insertMidpoints_109 : decode cX2_insertMidpoints 109 = .ok (.return_, 1) := by decide +kernel
theorem dX2_canSlide_0 : decode cX2_canSlide 0 = .ok (.iconst 0, 1) := by decide +kernel
theorem dX2_canSlide_1 : decode cX2_canSlide 1 = .ok (.istore_n 3, 1) := by decide +kernel
theorem dX2_canSlide_2 : decode cX2_canSlide 2 = .ok (.iload_n 3, 1) := by decide +kernel
theorem dX2_canSlide_3 : decode cX2_canSlide 3 = .ok (.aload_n 0, 1) := by decide +kernel
theorem dX2_canSlide_4 : decode cX2_canSlide 4 = .ok (.getfield 18, 3) := by decide +kernel
theorem dX2_canSlide_7 : decode cX2_canSlide 7 = .ok (.if_icmp .ge 39, 3) := by decide +kernel
theorem dX2_canSlide_10 : decode cX2_canSlide 10 = .ok (.aload_n 0, 1) := by decide +kernel
theorem dX2_canSlide_11 : decode cX2_canSlide 11 = .ok (.getfield 9, 3) := by decide +kernel
theorem dX2_canSlide_14 : decode cX2_canSlide 14 = .ok (.iload_n 3, 1) := by decide +kernel
theorem dX2_canSlide_15 : decode cX2_canSlide 15 = .ok (.iaload, 1) := by decide +kernel
theorem dX2_canSlide_16 : decode cX2_canSlide 16 = .ok (.iload_n 1, 1) := by decide +kernel
theorem dX2_canSlide_17 : decode cX2_canSlide 17 = .ok (.iadd, 1) := by decide +kernel
theorem dX2_canSlide_18 : decode cX2_canSlide 18 = .ok (.invokestatic 106, 3) := by decide +kernel
theorem dX2_canSlide_21 : decode cX2_canSlide 21 = .ok (.ifCond .eq 17, 3) := by decide +kernel
theorem dX2_canSlide_24 : decode cX2_canSlide 24 = .ok (.aload_n 0, 1) := by decide +kernel
theorem dX2_canSlide_25 : decode cX2_canSlide 25 = .ok (.getfield 15, 3) := by decide +kernel
theorem dX2_canSlide_28 : decode cX2_canSlide 28 = .ok (.iload_n 3, 1) := by decide +kernel
theorem dX2_canSlide_29 : decode cX2_canSlide 29 = .ok (.iaload, 1) := by decide +kernel
theorem dX2_canSlide_30 : decode cX2_canSlide 30 = .ok (.iload_n 2, 1) := by decide +kernel
theorem dX2_canSlide_31 : decode cX2_canSlide 31 = .ok (.iadd, 1) := by decide +kernel
theorem dX2_canSlide_32 : decode cX2_canSlide 32 = .ok (.invokestatic 106, 3) := by decide +kernel
theorem dX2_canSlide_35 : decode cX2_canSlide 35 = .ok (.ifCond .ne 5, 3) := by decide +kernel
theorem dX2_canSlide_38 : decode cX2_canSlide 38 = .ok (.iconst 0, 1) := by decide +kernel
theorem dX2_canSlide_39 : decode cX2_canSlide 39 = .ok (.ireturn, 1) := by decide +kernel
theorem dX2_canSlide_40 : decode cX2_canSlide 40 = .ok (.iinc 3 1, 3) := by decide +kernel
theorem dX2_canSlide_43 : decode cX2_canSlide 43 = .ok (.goto (-41), 3) := by decide +kernel
theorem dX2_canSlide_46 : decode cX2_canSlide 46 = .ok (.iconst 1, 1) := by decide +kernel
theorem dX2_canSlide_47 : decode cX2_canSlide 47 = .ok (.ireturn, 1) := by decide +kernel
theorem dX2_slide_0 : decode cX2_slide 0 = .ok (.iconst 0, 1) := by decide +kernel
theorem dX2_slide_1 : decode cX2_slide 1 = .ok (.istore_n 3, 1) := by decide +kernel
theorem dX2_slide_2 : decode cX2_slide 2 = .ok (.iload_n 3, 1) := by decide +kernel
theorem dX2_slide_3 : decode cX2_slide 3 = .ok (.aload_n 0, 1) := by decide +kernel
theorem dX2_slide_4 : decode cX2_slide 4 = .ok (.getfield 18, 3) := by decide +kernel
theorem dX2_slide_7 : decode cX2_slide 7 = .ok (.if_icmp .ge 29, 3) := by decide +kernel
theorem dX2_slide_10 : decode cX2_slide 10 = .ok (.aload_n 0, 1) := by decide +kernel
theorem dX2_slide_11 : decode cX2_slide 11 = .ok (.getfield 9, 3) := by decide +kernel
theorem dX2_slide_14 : decode cX2_slide 14 = .ok (.iload_n 3, 1) := by decide +kernel
theorem dX2_slide_15 : decode cX2_slide 15 = .ok (.dup2, 1) := by decide +kernel
theorem dX2_slide_16 : decode cX2_slide 16 = .ok (.iaload, 1) := by decide +kernel
theorem dX2_slide_17 : decode cX2_slide 17 = .ok (.iload_n 1, 1) := by decide +kernel
theorem dX2_slide_18 : decode cX2_slide 18 = .ok (.iadd, 1) := by decide +kernel
theorem dX2_slide_19 : decode cX2_slide 19 = .ok (.iastore, 1) := by decide +kernel
theorem dX2_slide_20 : decode cX2_slide 20 = .ok (.aload_n 0, 1) := by decide +kernel
theorem dX2_slide_21 : decode cX2_slide 21 = .ok (.getfield 15, 3) := by decide +kernel
theorem dX2_slide_24 : decode cX2_slide 24 = .ok (.iload_n 3, 1) := by decide +kernel
theorem dX2_slide_25 : decode cX2_slide 25 = .ok (.dup2, 1) := by decide +kernel
theorem dX2_slide_26 : decode cX2_slide 26 = .ok (.iaload, 1) := by decide +kernel
theorem dX2_slide_27 : decode cX2_slide 27 = .ok (.iload_n 2, 1) := by decide +kernel
theorem dX2_slide_28 : decode cX2_slide 28 = .ok (.iadd, 1) := by decide +kernel
theorem dX2_slide_29 : decode cX2_slide 29 = .ok (.iastore, 1) := by decide +kernel
theorem dX2_slide_30 : decode cX2_slide 30 = .ok (.iinc 3 1, 3) := by decide +kernel
theorem dX2_slide_33 : decode cX2_slide 33 = .ok (.goto (-31), 3) := by decide +kernel
theorem dX2_slide_36 : decode cX2_slide 36 = .ok (.return_, 1) := by decide +kernel
theorem dX2_turnAround_0 : decode cX2_turnAround 0 = .ok (.iconst 0, 1) := by decide +kernel
theorem dX2_turnAround_1 : decode cX2_turnAround 1 = .ok (.istore_n 1, 1) := by decide +kernel
theorem dX2_turnAround_2 : decode cX2_turnAround 2 = .ok (.aload_n 0, 1) := by decide +kernel
theorem dX2_turnAround_3 : decode cX2_turnAround 3 = .ok (.getfield 18, 3) := by decide +kernel
theorem dX2_turnAround_6 : decode cX2_turnAround 6 = .ok (.iconst 1, 1) := by decide +kernel
theorem dX2_turnAround_7 : decode cX2_turnAround 7 = .ok (.isub, 1) := by decide +kernel
theorem dX2_turnAround_8 : decode cX2_turnAround 8 = .ok (.istore_n 2, 1) := by decide +kernel
theorem dX2_turnAround_9 : decode cX2_turnAround 9 = .ok (.iload_n 1, 1) := by decide +kernel
theorem dX2_turnAround_10 : decode cX2_turnAround 10 = .ok (.iload_n 2, 1) := by decide +kernel
theorem dX2_turnAround_11 : decode cX2_turnAround 11 = .ok (.if_icmp .ge 66, 3) := by decide +kernel
theorem dX2_turnAround_14 : decode cX2_turnAround 14 = .ok (.aload_n 0, 1) := by decide +kernel
theorem dX2_turnAround_15 : decode cX2_turnAround 15 = .ok (.getfield 9, 3) := by decide +kernel
theorem dX2_turnAround_18 : decode cX2_turnAround 18 = .ok (.iload_n 1, 1) := by decide +kernel
theorem dX2_turnAround_19 : decode cX2_turnAround 19 = .ok (.iaload, 1) := by decide +kernel
theorem dX2_turnAround_20 : decode cX2_turnAround 20 = .ok (.istore_n 3, 1) := by decide +kernel
theorem dX2_turnAround_21 : decode cX2_turnAround 21 = .ok (.aload_n 0, 1) := by decide +kernel
theorem dX2_turnAround_22 : decode cX2_turnAround 22 = .ok (.getfield 15, 3) := by decide +kernel
theorem dX2_turnAround_25 : decode cX2_turnAround 25 = .ok (.iload_n 1, 1) := by decide +kernel
theorem dX2_turnAround_26 : decode cX2_turnAround 26 = .ok (.iaload, 1) := by decide +kernel
theorem dX2_turnAround_27 : decode cX2_turnAround 27 = .ok (.istore 4, 2) := by decide +kernel
theorem dX2_turnAround_29 : decode cX2_turnAround 29 = .ok (.aload_n 0, 1) := by decide +kernel
theorem dX2_turnAround_30 : decode cX2_turnAround 30 = .ok (.getfield 9, 3) := by decide +kernel
theorem dX2_turnAround_33 : decode cX2_turnAround 33 = .ok (.iload_n 1, 1) := by decide +kernel
theorem dX2_turnAround_34 : decode cX2_turnAround 34 = .ok (.aload_n 0, 1) := by decide +kernel
theorem dX2_turnAround_35 : decode cX2_turnAround 35 = .ok (.getfield 9, 3) := by decide +kernel
theorem dX2_turnAround_38 : decode cX2_turnAround 38 = .ok (.iload_n 2, 1) := by decide +kernel
theorem dX2_turnAround_39 : decode cX2_turnAround 39 = .ok (.iaload, 1) := by decide +kernel
theorem dX2_turnAround_40 : decode cX2_turnAround 40 = .ok (.iastore, 1) := by decide +kernel
theorem dX2_turnAround_41 : decode cX2_turnAround 41 = .ok (.aload_n 0, 1) := by decide +kernel
theorem dX2_turnAround_42 : decode cX2_turnAround 42 = .ok (.getfield 15, 3) := by decide +kernel
theorem dX2_turnAround_45 : decode cX2_turnAround 45 = .ok (.iload_n 1, 1) := by decide +kernel
theorem dX2_turnAround_46 : decode cX2_turnAround 46 = .ok (.aload_n 0, 1) := by decide +kernel
theorem dX2_turnAround_47 : decode cX2_turnAround 47 = .ok (.getfield 15, 3) := by decide +kernel
theorem dX2_turnAround_50 : decode cX2_turnAround 50 = .ok (.iload_n 2, 1) := by decide +kernel
theorem dX2_turnAround_51 : decode cX2_turnAround 51 = .ok (.iaload, 1) := by decide +kernel
theorem dX2_turnAround_52 : decode cX2_turnAround 52 = .ok (.iastore, 1) := by decide +kernel
theorem dX2_turnAround_53 : decode cX2_turnAround 53 = .ok (.aload_n 0, 1) := by decide +kernel
theorem dX2_turnAround_54 : decode cX2_turnAround 54 = .ok (.getfield 9, 3) := by decide +kernel
theorem dX2_turnAround_57 : decode cX2_turnAround 57 = .ok (.iload_n 2, 1) := by decide +kernel
theorem dX2_turnAround_58 : decode cX2_turnAround 58 = .ok (.iload_n 3, 1) := by decide +kernel
theorem dX2_turnAround_59 : decode cX2_turnAround 59 = .ok (.iastore, 1) := by decide +kernel
theorem dX2_turnAround_60 : decode cX2_turnAround 60 = .ok (.aload_n 0, 1) := by decide +kernel
theorem dX2_turnAround_61 : decode cX2_turnAround 61 = .ok (.getfield 15, 3) := by decide +kernel
theorem dX2_turnAround_64 : decode cX2_turnAround 64 = .ok (.iload_n 2, 1) := by decide +kernel
theorem dX2_turnAround_65 : decode cX2_turnAround 65 = .ok (.iload 4, 2) := by decide +kernel
theorem dX2_turnAround_67 : decode cX2_turnAround 67 = .ok (.iastore, 1) := by decide +kernel
theorem dX2_turnAround_68 : decode cX2_turnAround 68 = .ok (.iinc 1 1, 3) := by decide +kernel
theorem dX2_turnAround_71 : decode cX2_turnAround 71 = .ok (.iinc 2 (-1), 3) := by decide +kernel
theorem dX2_turnAround_74 : decode cX2_turnAround 74 = .ok (.goto (-65), 3) := by decide +kernel
theorem dX2_turnAround_77 : decode cX2_turnAround 77 = .ok (.return_, 1) := by decide +kernel
theorem dX3_init_0 : decode cX3_init 0 = .ok (.aload_n 0, 1) := by decide +kernel
theorem dX3_init_1 : decode cX3_init 1 = .ok (.invokespecial 3, 3) := by decide +kernel
theorem dX3_init_4 : decode cX3_init 4 = .ok (.aload_n 0, 1) := by decide +kernel
theorem dX3_init_5 : decode cX3_init 5 = .ok (.getstatic 9, 3) := by decide +kernel
theorem dX3_init_8 : decode cX3_init 8 = .ok (.putfield 15, 3) := by decide +kernel
theorem dX3_init_11 : decode cX3_init 11 = .ok (.aload_n 0, 1) := by decide +kernel
theorem dX3_init_12 : decode cX3_init 12 = .ok (.new 20, 3) := by decide +kernel
theorem dX3_init_15 : decode cX3_init 15 = .ok (.dup, 1) := by decide +kernel
theorem dX3_init_16 : decode cX3_init 16 = .ok (.bipush 33, 2) := by decide +kernel
theorem dX3_init_18 : decode cX3_init 18 = .ok (.invokespecial 22, 3) := by decide +kernel
theorem dX3_init_21 : decode cX3_init 21 = .ok (.putfield 25, 3) := by decide +kernel
theorem dX3_init_24 : decode cX3_init 24 = .ok (.return_, 1) := by decide +kernel
theorem dX3_set_0 : decode cX3_set 0 = .ok (.aload_n 0, 1) := by decide +kernel
theorem dX3_set_1 : decode cX3_set 1 = .ok (.aload_n 1, 1) := by decide +kernel
theorem dX3_set_2 : decode cX3_set 2 = .ok (.putfield 15, 3) := by decide +kernel
theorem dX3_set_5 : decode cX3_set 5 = .ok (.aload_n 0, 1) := by decide +kernel
theorem dX3_set_6 : decode cX3_set 6 = .ok (.iload_n 2, 1) := by decide +kernel
theorem dX3_set_7 : decode cX3_set 7 = .ok (.putfield 29, 3) := by decide +kernel
theorem dX3_set_10 : decode cX3_set 10 = .ok (.aload_n 0, 1) := by decide +kernel
theorem dX3_set_11 : decode cX3_set 11 = .ok (.iload_n 3, 1) := by decide +kernel
theorem dX3_set_12 : decode cX3_set 12 = .ok (.putfield 33, 3) := by decide +kernel
theorem dX3_set_15 : decode cX3_set 15 = .ok (.aload_n 0, 1) := by decide +kernel
theorem dX3_set_16 : decode cX3_set 16 = .ok (.iload 4, 2) := by decide +kernel
theorem dX3_set_18 : decode cX3_set 18 = .ok (.putfield 36, 3) := by decide +kernel
theorem dX3_set_21 : decode cX3_set 21 = .ok (.aload_n 0, 1) := by decide +kernel
theorem dX3_set_22 : decode cX3_set 22 = .ok (.iload 5, 2) := by decide +kernel
theorem dX3_set_24 : decode cX3_set 24 = .ok (.putfield 39, 3) := by decide +kernel
theorem dX3_set_27 : decode cX3_set 27 = .ok (.return_, 1) := by decide +kernel
theorem dX4_init_0 : decode cX4_init 0 = .ok (.aload_n 0, 1) := by decide +kernel
theorem dX4_init_1 : decode cX4_init 1 = .ok (.invokespecial 3, 3) := by decide +kernel
theorem dX4_init_4 : decode cX4_init 4 = .ok (.aload_n 0, 1) := by decide +kernel
theorem dX4_init_5 : decode cX4_init 5 = .ok (.iconst (-1), 1) := by decide +kernel
theorem dX4_init_6 : decode cX4_init 6 = .ok (.putfield 9, 3) := by decide +kernel
theorem dX4_init_9 : decode cX4_init 9 = .ok (.aload_n 0, 1) := by decide +kernel
theorem dX4_init_10 : decode cX4_init 10 = .ok (.aload_n 1, 1) := by decide +kernel
theorem dX4_init_11 : decode cX4_init 11 = .ok (.putfield 15, 3) := by decide +kernel
theorem dX4_init_14 : decode cX4_init 14 = .ok (.return_, 1) := by decide +kernel
theorem dX4_readMap_0 : decode cX4_readMap 0 = .ok (.aload_n 0, 1) := by decide +kernel
theorem dX4_readMap_1 : decode cX4_readMap 1 = .ok (.iload_n 1, 1) := by decide +kernel
theorem dX4_readMap_2 : decode cX4_readMap 2 = .ok (.invokevirtual 19, 3) := by decide +kernel
theorem dX4_readMap_5 : decode cX4_readMap 5 = .ok (.aload_n 0, 1) := by decide +kernel
theorem dX4_readMap_6 : decode cX4_readMap 6 = .ok (.ldc 23, 2) := by decide +kernel
theorem dX4_readMap_8 : decode cX4_readMap 8 = .ok (.invokevirtual 25, 3) := by decide +kernel
theorem dX4_readMap_11 : decode cX4_readMap 11 = .ok (.ifCond .eq 18, 3) := by decide +kernel
theorem dX4_readMap_14 : decode cX4_readMap 14 = .ok (.aload_n 0, 1) := by decide +kernel
theorem dX4_readMap_15 : decode cX4_readMap 15 = .ok (.invokevirtual 29, 3) := by decide +kernel
theorem dX4_readMap_18 : decode cX4_readMap 18 = .ok (.ifCond .eq 11, 3) := by decide +kernel
theorem dX4_readMap_21 : decode cX4_readMap 21 = .ok (.aload_n 0, 1) := by decide +kernel
theorem dX4_readMap_22 : decode cX4_readMap 22 = .ok (.iconst 3, 1) := by decide +kernel
theorem dX4_readMap_23 : decode cX4_readMap 23 = .ok (.invokevirtual 35, 3) := by decide +kernel
theorem dX4_readMap_26 : decode cX4_readMap 26 = .ok (.ifCond .ne 5, 3) := by decide +kernel
theorem dX4_readMap_29 : decode cX4_readMap 29 = .ok (.iconst 0, 1) := by decide +kernel
theorem dX4_readMap_30 : decode cX4_readMap 30 = .ok (.ireturn, 1) := by decide +kernel
theorem dX4_readMap_31 : decode cX4_readMap 31 = .ok (.aload_n 2, 1) := by decide +kernel
theorem dX4_readMap_32 : decode cX4_readMap 32 = .ok (.aload_n 0, 1) := by decide +kernel
theorem dX4_readMap_33 : decode cX4_readMap 33 = .ok (.getfield 39, 3) := by decide +kernel
theorem dX4_readMap_36 : decode cX4_readMap 36 = .ok (.putfield 43, 3) := by decide +kernel
theorem dX4_readMap_39 : decode cX4_readMap 39 = .ok (.aload_n 2, 1) := by decide +kernel
theorem dX4_readMap_40 : decode cX4_readMap 40 = .ok (.iconst 0, 1) := by decide +kernel
theorem dX4_readMap_41 : decode cX4_readMap 41 = .ok (.putfield 46, 3) := by decide +kernel
theorem dX4_readMap_44 : decode cX4_readMap 44 = .ok (.iconst 0, 1) := by decide +kernel
theorem dX4_readMap_45 : decode cX4_readMap 45 = .ok (.istore_n 3, 1) := by decide +kernel
theorem dX4_readMap_46 : decode cX4_readMap 46 = .ok (.iload_n 3, 1) := by decide +kernel
theorem dX4_readMap_47 : decode cX4_readMap 47 = .ok (.bipush 6, 2) := by decide +kernel
theorem dX4_readMap_49 : decode cX4_readMap 49 = .ok (.if_icmp .ge 54, 3) := by decide +kernel
theorem dX4_readMap_52 : decode cX4_readMap 52 = .ok (.aload_n 0, 1) := by decide +kernel
theorem dX4_readMap_53 : decode cX4_readMap 53 = .ok (.getfield 15, 3) := by decide +kernel
theorem dX4_readMap_56 : decode cX4_readMap 56 = .ok (.getfield 49, 3) := by decide +kernel
theorem dX4_readMap_59 : decode cX4_readMap 59 = .ok (.ifCond .ne 5, 3) := by decide +kernel
theorem dX4_readMap_62 : decode cX4_readMap 62 = .ok (.iconst 1, 1) := by decide +kernel
theorem dX4_readMap_63 : decode cX4_readMap 63 = .ok (.ireturn, 1) := by decide +kernel
theorem dX4_readMap_64 : decode cX4_readMap 64 = .ok (.aload_n 0, 1) := by decide +kernel
theorem dX4_readMap_65 : decode cX4_readMap 65 = .ok (.aload_n 2, 1) := by decide +kernel
theorem dX4_readMap_66 : decode cX4_readMap 66 = .ok (.getfield 52, 3) := by decide +kernel
theorem dX4_readMap_69 : decode cX4_readMap 69 = .ok (.iload_n 3, 1) := by decide +kernel
theorem dX4_readMap_70 : decode cX4_readMap 70 = .ok (.aaload, 1) := by decide +kernel
theorem dX4_readMap_71 : decode cX4_readMap 71 = .ok (.invokevirtual 56, 3) := by decide +kernel
theorem dX4_readMap_74 : decode cX4_readMap 74 = .ok (.ifCond .eq 11, 3) := by decide +kernel
theorem dX4_readMap_77 : decode cX4_readMap 77 = .ok (.aload_n 0, 1) := by decide +kernel
theorem dX4_readMap_78 : decode cX4_readMap 78 = .ok (.iconst 3, 1) := by decide +kernel
theorem dX4_readMap_79 : decode cX4_readMap 79 = .ok (.invokevirtual 35, 3) := by decide +kernel
theorem dX4_readMap_82 : decode cX4_readMap 82 = .ok (.ifCond .ne 5, 3) := by decide +kernel
theorem dX4_readMap_85 : decode cX4_readMap 85 = .ok (.iconst 0, 1) := by decide +kernel
theorem dX4_readMap_86 : decode cX4_readMap 86 = .ok (.ireturn, 1) := by decide +kernel
theorem dX4_readMap_87 : decode cX4_readMap 87 = .ok (.aload_n 2, 1) := by decide +kernel
theorem dX4_readMap_88 : decode cX4_readMap 88 = .ok (.dup, 1) := by decide +kernel
theorem dX4_readMap_89 : decode cX4_readMap 89 = .ok (.getfield 46, 3) := by decide +kernel
theorem dX4_readMap_92 : decode cX4_readMap 92 = .ok (.iconst 1, 1) := by decide +kernel
theorem dX4_readMap_93 : decode cX4_readMap 93 = .ok (.iadd, 1) := by decide +kernel
theorem dX4_readMap_94 : decode cX4_readMap 94 = .ok (.putfield 46, 3) := by decide +kernel
theorem dX4_readMap_97 : decode cX4_readMap 97 = .ok (.iinc 3 1, 3) := by decide +kernel
theorem dX4_readMap_100 : decode cX4_readMap 100 = .ok (.goto (-54), 3) := by decide +kernel
theorem dX4_readMap_103 : decode cX4_readMap 103 = .ok (.aload_n 0, 1) := by decide +kernel
theorem dX4_readMap_104 : decode cX4_readMap 104 = .ok (.getfield 15, 3) := by decide +kernel
theorem dX4_readMap_107 : decode cX4_readMap 107 = .ok (.getfield 49, 3) := by decide +kernel
theorem dX4_readMap_110 : decode cX4_readMap 110 = .ok (.ifCond .ne 5, 3) := by decide +kernel
theorem dX4_readMap_113 : decode cX4_readMap 113 = .ok (.iconst 1, 1) := by decide +kernel
theorem dX4_readMap_114 : decode cX4_readMap 114 = .ok (.ireturn, 1) := by decide +kernel
theorem dX4_readMap_115 : decode cX4_readMap 115 = .ok (.aload_n 0, 1) := by decide +kernel
theorem dX4_readMap_116 : decode cX4_readMap 116 = .ok (.invokevirtual 60, 3) := by decide +kernel
theorem dX4_readMap_119 : decode cX4_readMap 119 = .ok (.astore_n 3, 1) := by decide +kernel
theorem dX4_readMap_120 : decode cX4_readMap 120 = .ok (.aload_n 0, 1) := by decide +kernel
theorem dX4_readMap_121 : decode cX4_readMap 121 = .ok (.aload_n 3, 1) := by decide +kernel
theorem dX4_readMap_122 : decode cX4_readMap 122 = .ok (.ifnull 14, 3) := by decide +kernel
theorem dX4_readMap_125 : decode cX4_readMap 125 = .ok (.aload_n 3, 1) := by decide +kernel
theorem dX4_readMap_126 : decode cX4_readMap 126 = .ok (.getfield 64, 3) := by decide +kernel
theorem dX4_readMap_129 : decode cX4_readMap 129 = .ok (.ifCond .eq 7, 3) := by decide +kernel
theorem dX4_readMap_132 : decode cX4_readMap 132 = .ok (.iconst 3, 1) := by decide +kernel
theorem dX4_readMap_133 : decode cX4_readMap 133 = .ok (.goto 4, 3) := by decide +kernel
theorem dX4_readMap_136 : decode cX4_readMap 136 = .ok (.iconst 1, 1) := by decide +kernel
theorem dX4_readMap_137 : decode cX4_readMap 137 = .ok (.invokevirtual 69, 3) := by decide +kernel
theorem dX4_readMap_140 : decode cX4_readMap 140 = .ok (.ireturn, 1) := by decide +kernel
theorem dX4_readLoneCoast_0 : decode cX4_readLoneCoast 0 = .ok (.aload_n 0, 1) := by decide +kernel
theorem dX4_readLoneCoast_1 : decode cX4_readLoneCoast 1 = .ok (.iload_n 1, 1) := by decide +kernel
theorem dX4_readLoneCoast_2 : decode cX4_readLoneCoast 2 = .ok (.invokevirtual 19, 3) := by decide +kernel
theorem dX4_readLoneCoast_5 : decode cX4_readLoneCoast 5 = .ok (.aload_n 0, 1) := by decide +kernel
theorem dX4_readLoneCoast_6 : decode cX4_readLoneCoast 6 = .ok (.aload_n 2, 1) := by decide +kernel
theorem dX4_readLoneCoast_7 : decode cX4_readLoneCoast 7 = .ok (.invokevirtual 56, 3) := by decide +kernel
theorem dX4_readLoneCoast_10 : decode cX4_readLoneCoast 10 = .ok (.ifCond .eq 15, 3) := by decide +kernel
theorem dX4_readLoneCoast_13 : decode cX4_readLoneCoast 13 = .ok (.aload_n 0, 1) := by decide +kernel
theorem dX4_readLoneCoast_14 : decode cX4_readLoneCoast 14 = .ok (.iconst 0, 1) := by decide +kernel
theorem dX4_readLoneCoast_15 : decode cX4_readLoneCoast 15 = .ok (.invokevirtual 35, 3) := by decide +kernel
theorem dX4_readLoneCoast_18 : decode cX4_readLoneCoast 18 = .ok (.ifCond .eq 7, 3) := by decide +kernel
theorem dX4_readLoneCoast_21 : decode cX4_readLoneCoast 21 = .ok (.iconst 1, 1) := by decide +kernel
theorem dX4_readLoneCoast_22 : decode cX4_readLoneCoast 22 = .ok (.goto 4, 3) := by decide +kernel
theorem dX4_readLoneCoast_25 : decode cX4_readLoneCoast 25 = .ok (.iconst 0, 1) := by decide +kernel
theorem dX4_readLoneCoast_26 : decode cX4_readLoneCoast 26 = .ok (.ireturn, 1) := by decide +kernel
theorem dX4_begin_0 : decode cX4_begin 0 = .ok (.aload_n 0, 1) := by decide +kernel
theorem dX4_begin_1 : decode cX4_begin 1 = .ok (.iconst 0, 1) := by decide +kernel
theorem dX4_begin_2 : decode cX4_begin 2 = .ok (.putfield 76, 3) := by decide +kernel
theorem dX4_begin_5 : decode cX4_begin 5 = .ok (.aload_n 0, 1) := by decide +kernel
theorem dX4_begin_6 : decode cX4_begin 6 = .ok (.iconst (-1), 1) := by decide +kernel
theorem dX4_begin_7 : decode cX4_begin 7 = .ok (.putfield 9, 3) := by decide +kernel
theorem dX4_begin_10 : decode cX4_begin 10 = .ok (.aload_n 0, 1) := by decide +kernel
theorem dX4_begin_11 : decode cX4_begin 11 = .ok (.getfield 15, 3) := by decide +kernel
theorem dX4_begin_14 : decode cX4_begin 14 = .ok (.iload_n 1, 1) := by decide +kernel
theorem dX4_begin_15 : decode cX4_begin 15 = .ok (.invokevirtual 79, 3) := by decide +kernel
theorem dX4_begin_18 : decode cX4_begin 18 = .ok (.return_, 1) := by decide +kernel
theorem dX4_fail_0 : decode cX4_fail 0 = .ok (.aload_n 0, 1) := by decide +kernel
theorem dX4_fail_1 : decode cX4_fail 1 = .ok (.iload_n 1, 1) := by decide +kernel
theorem dX4_fail_2 : decode cX4_fail 2 = .ok (.putfield 76, 3) := by decide +kernel
theorem dX4_fail_5 : decode cX4_fail 5 = .ok (.aload_n 0, 1) := by decide +kernel
theorem dX4_fail_6 : decode cX4_fail 6 = .ok (.aload_n 0, 1) := by decide +kernel
theorem dX4_fail_7 : decode cX4_fail 7 = .ok (.getfield 15, 3) := by decide +kernel
theorem dX4_fail_10 : decode cX4_fail 10 = .ok (.getfield 80, 3) := by decide +kernel
theorem dX4_fail_13 : decode cX4_fail 13 = .ok (.putfield 9, 3) := by decide +kernel
theorem dX4_fail_16 : decode cX4_fail 16 = .ok (.iconst 0, 1) := by decide +kernel
theorem dX4_fail_17 : decode cX4_fail 17 = .ok (.ireturn, 1) := by decide +kernel
theorem dX4_take_0 : decode cX4_take 0 = .ok (.aload_n 0, 1) := by decide +kernel
theorem dX4_take_1 : decode cX4_take 1 = .ok (.getfield 15, 3) := by decide +kernel
theorem dX4_take_4 : decode cX4_take 4 = .ok (.getfield 49, 3) := by decide +kernel
theorem dX4_take_7 : decode cX4_take 7 = .ok (.iload_n 1, 1) := by decide +kernel
theorem dX4_take_8 : decode cX4_take 8 = .ok (.if_icmp .eq 9, 3) := by decide +kernel
theorem dX4_take_11 : decode cX4_take 11 = .ok (.aload_n 0, 1) := by decide +kernel
theorem dX4_take_12 : decode cX4_take 12 = .ok (.iconst 1, 1) := by decide +kernel
theorem dX4_take_13 : decode cX4_take 13 = .ok (.invokevirtual 69, 3) := by decide +kernel
theorem dX4_take_16 : decode cX4_take 16 = .ok (.ireturn, 1) := by decide +kernel
theorem dX4_take_17 : decode cX4_take 17 = .ok (.aload_n 0, 1) := by decide +kernel
theorem dX4_take_18 : decode cX4_take 18 = .ok (.getfield 15, 3) := by decide +kernel
theorem dX4_take_21 : decode cX4_take 21 = .ok (.invokevirtual 83, 3) := by decide +kernel
theorem dX4_take_24 : decode cX4_take 24 = .ok (.iconst 1, 1) := by decide +kernel
theorem dX4_take_25 : decode cX4_take 25 = .ok (.ireturn, 1) := by decide +kernel
theorem dX4_takeWord_0 : decode cX4_takeWord 0 = .ok (.aload_n 0, 1) := by decide +kernel
theorem dX4_takeWord_1 : decode cX4_takeWord 1 = .ok (.getfield 15, 3) := by decide +kernel
theorem dX4_takeWord_4 : decode cX4_takeWord 4 = .ok (.aload_n 1, 1) := by decide +kernel
theorem dX4_takeWord_5 : decode cX4_takeWord 5 = .ok (.invokevirtual 86, 3) := by decide +kernel
theorem dX4_takeWord_8 : decode cX4_takeWord 8 = .ok (.ifCond .ne 9, 3) := by decide +kernel
theorem dX4_takeWord_11 : decode cX4_takeWord 11 = .ok (.aload_n 0, 1) := by decide +kernel
theorem dX4_takeWord_12 : decode cX4_takeWord 12 = .ok (.iconst 1, 1) := by decide +kernel
theorem dX4_takeWord_13 : decode cX4_takeWord 13 = .ok (.invokevirtual 69, 3) := by decide +kernel
theorem dX4_takeWord_16 : decode cX4_takeWord 16 = .ok (.ireturn, 1) := by decide +kernel
theorem dX4_takeWord_17 : decode cX4_takeWord 17 = .ok (.aload_n 0, 1) := by decide +kernel
theorem dX4_takeWord_18 : decode cX4_takeWord 18 = .ok (.getfield 15, 3) := by decide +kernel
theorem dX4_takeWord_21 : decode cX4_takeWord 21 = .ok (.invokevirtual 83, 3) := by decide +kernel
theorem dX4_takeWord_24 : decode cX4_takeWord 24 = .ok (.iconst 1, 1) := by decide +kernel
theorem dX4_takeWord_25 : decode cX4_takeWord 25 = .ok (.ireturn, 1) := by decide +kernel
theorem dX4_verbHere_0 : decode cX4_verbHere 0 = .ok (.iconst 0, 1) := by decide +kernel
theorem dX4_verbHere_1 : decode cX4_verbHere 1 = .ok (.istore_n 1, 1) := by decide +kernel
theorem dX4_verbHere_2 : decode cX4_verbHere 2 = .ok (.iload_n 1, 1) := by decide +kernel
theorem dX4_verbHere_3 : decode cX4_verbHere 3 = .ok (.getstatic 89, 3) := by decide +kernel
theorem dX4_verbHere_6 : decode cX4_verbHere 6 = .ok (.arraylength, 1) := by decide +kernel
theorem dX4_verbHere_7 : decode cX4_verbHere 7 = .ok (.if_icmp .ge 33, 3) := by decide +kernel
theorem dX4_verbHere_10 : decode cX4_verbHere 10 = .ok (.aload_n 0, 1) := by decide +kernel
theorem dX4_verbHere_11 : decode cX4_verbHere 11 = .ok (.getfield 15, 3) := by decide +kernel
theorem dX4_verbHere_14 : decode cX4_verbHere 14 = .ok (.getstatic 89, 3) := by decide +kernel
theorem dX4_verbHere_17 : decode cX4_verbHere 17 = .ok (.iload_n 1, 1) := by decide +kernel
theorem dX4_verbHere_18 : decode cX4_verbHere 18 = .ok (.aaload, 1) := by decide +kernel
theorem dX4_verbHere_19 : decode cX4_verbHere 19 = .ok (.getfield 93, 3) := by decide +kernel
theorem dX4_verbHere_22 : decode cX4_verbHere 22 = .ok (.invokevirtual 86, 3) := by decide +kernel
theorem dX4_verbHere_25 : decode cX4_verbHere 25 = .ok (.ifCond .eq 9, 3) := by decide +kernel
theorem dX4_verbHere_28 : decode cX4_verbHere 28 = .ok (.getstatic 89, 3) := by decide +kernel
theorem dX4_verbHere_31 : decode cX4_verbHere 31 = .ok (.iload_n 1, 1) := by decide +kernel
theorem dX4_verbHere_32 : decode cX4_verbHere 32 = .ok (.aaload, 1) := by decide +kernel
theorem dX4_verbHere_33 : decode cX4_verbHere 33 = .ok (.areturn, 1) := by decide +kernel
theorem dX4_verbHere_34 : decode cX4_verbHere 34 = .ok (.iinc 1 1, 3) := by decide +kernel
theorem dX4_verbHere_37 : decode cX4_verbHere 37 = .ok (.goto (-35), 3) := by decide +kernel
theorem dX4_verbHere_40 : decode cX4_verbHere 40 = .ok (.aconst_null, 1) := by decide +kernel
theorem dX4_verbHere_41 : decode cX4_verbHere 41 = .ok (.areturn, 1) := by decide +kernel
theorem dX4_readMetric_0 : decode cX4_readMetric 0 = .ok (.aload_n 0, 1) := by decide +kernel
theorem dX4_readMetric_1 : decode cX4_readMetric 1 = .ok (.aload_n 0, 1) := by decide +kernel
theorem dX4_readMetric_2 : decode cX4_readMetric 2 = .ok (.getfield 15, 3) := by decide +kernel
theorem dX4_readMetric_5 : decode cX4_readMetric 5 = .ok (.ldc 97, 2) := by decide +kernel
theorem dX4_readMetric_7 : decode cX4_readMetric 7 = .ok (.invokevirtual 86, 3) := by decide +kernel
theorem dX4_readMetric_10 : decode cX4_readMetric 10 = .ok (.putfield 39, 3) := by decide +kernel
theorem dX4_readMetric_13 : decode cX4_readMetric 13 = .ok (.aload_n 0, 1) := by decide +kernel
theorem dX4_readMetric_14 : decode cX4_readMetric 14 = .ok (.aload_n 0, 1) := by decide +kernel
theorem dX4_readMetric_15 : decode cX4_readMetric 15 = .ok (.getfield 39, 3) := by decide +kernel
theorem dX4_readMetric_18 : decode cX4_readMetric 18 = .ok (.ifCond .eq 8, 3) := by decide +kernel
theorem dX4_readMetric_21 : decode cX4_readMetric 21 = .ok (.ldc 97, 2) := by decide +kernel
theorem dX4_readMetric_23 : decode cX4_readMetric 23 = .ok (.goto 5, 3) := by decide +kernel
theorem dX4_readMetric_26 : decode cX4_readMetric 26 = .ok (.ldc 99, 2) := by decide +kernel
theorem dX4_readMetric_28 : decode cX4_readMetric 28 = .ok (.invokevirtual 25, 3) := by decide +kernel
theorem dX4_readMetric_31 : decode cX4_readMetric 31 = .ok (.ireturn, 1) := by decide +kernel
theorem dX4_readInteger_0 : decode cX4_readInteger 0 = .ok (.iload_n 1, 1) := by decide +kernel
theorem dX4_readInteger_1 : decode cX4_readInteger 1 = .ok (.ifCond .ge 18, 3) := by decide +kernel
theorem dX4_readInteger_4 : decode cX4_readInteger 4 = .ok (.aload_n 0, 1) := by decide +kernel
theorem dX4_readInteger_5 : decode cX4_readInteger 5 = .ok (.getfield 15, 3) := by decide +kernel
theorem dX4_readInteger_8 : decode cX4_readInteger 8 = .ok (.getfield 49, 3) := by decide +kernel
theorem dX4_readInteger_11 : decode cX4_readInteger 11 = .ok (.iconst 5, 1) := by decide +kernel
theorem dX4_readInteger_12 : decode cX4_readInteger 12 = .ok (.if_icmp .ne 7, 3) := by decide +kernel
theorem dX4_readInteger_15 : decode cX4_readInteger 15 = .ok (.iconst 1, 1) := by decide +kernel
theorem dX4_readInteger_16 : decode cX4_readInteger 16 = .ok (.goto 4, 3) := by decide +kernel
theorem dX4_readInteger_19 : decode cX4_readInteger 19 = .ok (.iconst 0, 1) := by decide +kernel
theorem dX4_readInteger_20 : decode cX4_readInteger 20 = .ok (.istore_n 3, 1) := by decide +kernel
theorem dX4_readInteger_21 : decode cX4_readInteger 21 = .ok (.iload_n 3, 1) := by decide +kernel
theorem dX4_readInteger_22 : decode cX4_readInteger 22 = .ok (.ifCond .eq 10, 3) := by decide +kernel
theorem dX4_readInteger_25 : decode cX4_readInteger 25 = .ok (.aload_n 0, 1) := by decide +kernel
theorem dX4_readInteger_26 : decode cX4_readInteger 26 = .ok (.getfield 15, 3) := by decide +kernel
theorem dX4_readInteger_29 : decode cX4_readInteger 29 = .ok (.invokevirtual 83, 3) := by decide +kernel
theorem dX4_readInteger_32 : decode cX4_readInteger 32 = .ok (.aload_n 0, 1) := by decide +kernel
theorem dX4_readInteger_33 : decode cX4_readInteger 33 = .ok (.getfield 15, 3) := by decide +kernel
theorem dX4_readInteger_36 : decode cX4_readInteger 36 = .ok (.getfield 49, 3) := by decide +kernel
theorem dX4_readInteger_39 : decode cX4_readInteger 39 = .ok (.iconst 2, 1) := by decide +kernel
theorem dX4_readInteger_40 : decode cX4_readInteger 40 = .ok (.if_icmp .eq 9, 3) := by decide +kernel
theorem dX4_readInteger_43 : decode cX4_readInteger 43 = .ok (.aload_n 0, 1) := by decide +kernel
theorem dX4_readInteger_44 : decode cX4_readInteger 44 = .ok (.iconst 1, 1) := by decide +kernel
theorem dX4_readInteger_45 : decode cX4_readInteger 45 = .ok (.invokevirtual 69, 3) := by decide +kernel
theorem dX4_readInteger_48 : decode cX4_readInteger 48 = .ok (.ireturn, 1) := by decide +kernel
theorem dX4_readInteger_49 : decode cX4_readInteger 49 = .ok (.aload_n 0, 1) := by decide +kernel
theorem dX4_readInteger_50 : decode cX4_readInteger 50 = .ok (.iload_n 3, 1) := by decide +kernel
theorem dX4_readInteger_51 : decode cX4_readInteger 51 = .ok (.ifCond .eq 14, 3) := by decide +kernel
theorem dX4_readInteger_54 : decode cX4_readInteger 54 = .ok (.aload_n 0, 1) := by decide +kernel
theorem dX4_readInteger_55 : decode cX4_readInteger 55 = .ok (.getfield 15, 3) := by decide +kernel
theorem dX4_readInteger_58 : decode cX4_readInteger 58 = .ok (.invokevirtual 101, 3) := by decide +kernel
theorem dX4_readInteger_61 : decode cX4_readInteger 61 = .ok (.ineg, 1) := by decide +kernel
theorem dX4_readInteger_62 : decode cX4_readInteger 62 = .ok (.goto 10, 3) := by decide +kernel
theorem dX4_readInteger_65 : decode cX4_readInteger 65 = .ok (.aload_n 0, 1) := by decide +kernel
theorem dX4_readInteger_66 : decode cX4_readInteger 66 = .ok (.getfield 15, 3) := by decide +kernel
theorem dX4_readInteger_69 : decode cX4_readInteger 69 = .ok (.invokevirtual 101, 3) := by decide +kernel
theorem dX4_readInteger_72 : decode cX4_readInteger 72 = .ok (.putfield 105, 3) := by decide +kernel
theorem dX4_readInteger_75 : decode cX4_readInteger 75 = .ok (.aload_n 0, 1) := by decide +kernel
theorem dX4_readInteger_76 : decode cX4_readInteger 76 = .ok (.getfield 105, 3) := by decide +kernel
theorem dX4_readInteger_79 : decode cX4_readInteger 79 = .ok (.iload_n 1, 1) := by decide +kernel
theorem dX4_readInteger_80 : decode cX4_readInteger 80 = .ok (.if_icmp .lt 11, 3) := by decide +kernel
theorem dX4_readInteger_83 : decode cX4_readInteger 83 = .ok (.aload_n 0, 1) := by decide +kernel
theorem dX4_readInteger_84 : decode cX4_readInteger 84 = .ok (.getfield 105, 3) := by decide +kernel
theorem dX4_readInteger_87 : decode cX4_readInteger 87 = .ok (.iload_n 2, 1) := by decide +kernel
theorem dX4_readInteger_88 : decode cX4_readInteger 88 = .ok (.if_icmp .le 9, 3) := by decide +kernel
theorem dX4_readInteger_91 : decode cX4_readInteger 91 = .ok (.aload_n 0, 1) := by decide +kernel
theorem dX4_readInteger_92 : decode cX4_readInteger 92 = .ok (.iconst 2, 1) := by decide +kernel
theorem dX4_readInteger_93 : decode cX4_readInteger 93 = .ok (.invokevirtual 69, 3) := by decide +kernel
theorem dX4_readInteger_96 : decode cX4_readInteger 96 = .ok (.ireturn, 1) := by decide +kernel
theorem dX4_readInteger_97 : decode cX4_readInteger 97 = .ok (.aload_n 0, 1) := by decide +kernel
theorem dX4_readInteger_98 : decode cX4_readInteger 98 = .ok (.getfield 15, 3) := by decide +kernel
theorem dX4_readInteger_101 : decode cX4_readInteger 101 = .ok (.invokevirtual 83, 3) := by decide +kernel
theorem dX4_readInteger_104 : decode cX4_readInteger 104 = .ok (.iconst 1, 1) := by decide +kernel
theorem dX4_readInteger_105 : decode cX4_readInteger 105 = .ok (.ireturn, 1) := by decide +kernel
theorem dX4_readCoast_0 : decode cX4_readCoast 0 = .ok (.aload_n 1, 1) := by decide +kernel
theorem dX4_readCoast_1 : decode cX4_readCoast 1 = .ok (.aload_n 0, 1) := by decide +kernel
theorem dX4_readCoast_2 : decode cX4_readCoast 2 = .ok (.getfield 15, 3) := by decide +kernel
theorem dX4_readCoast_5 : decode cX4_readCoast 5 = .ok (.ldc 108, 2) := by decide +kernel
theorem dX4_readCoast_7 : decode cX4_readCoast 7 = .ok (.invokevirtual 86, 3) := by decide +kernel
theorem dX4_readCoast_10 : decode cX4_readCoast 10 = .ok (.putfield 110, 3) := by decide +kernel
theorem dX4_readCoast_13 : decode cX4_readCoast 13 = .ok (.aload_n 1, 1) := by decide +kernel
theorem dX4_readCoast_14 : decode cX4_readCoast 14 = .ok (.iconst 0, 1) := by decide +kernel
theorem dX4_readCoast_15 : decode cX4_readCoast 15 = .ok (.putfield 115, 3) := by decide +kernel
theorem dX4_readCoast_18 : decode cX4_readCoast 18 = .ok (.aload_n 0, 1) := by decide +kernel
theorem dX4_readCoast_19 : decode cX4_readCoast 19 = .ok (.aload_n 1, 1) := by decide +kernel
theorem dX4_readCoast_20 : decode cX4_readCoast 20 = .ok (.getfield 110, 3) := by decide +kernel
theorem dX4_readCoast_23 : decode cX4_readCoast 23 = .ok (.ifCond .eq 8, 3) := by decide +kernel
theorem dX4_readCoast_26 : decode cX4_readCoast 26 = .ok (.ldc 108, 2) := by decide +kernel
theorem dX4_readCoast_28 : decode cX4_readCoast 28 = .ok (.goto 5, 3) := by decide +kernel
theorem dX4_readCoast_31 : decode cX4_readCoast 31 = .ok (.ldc 116, 2) := by decide +kernel
theorem dX4_readCoast_33 : decode cX4_readCoast 33 = .ok (.invokevirtual 25, 3) := by decide +kernel
theorem dX4_readCoast_36 : decode cX4_readCoast 36 = .ok (.ifCond .ne 5, 3) := by decide +kernel
theorem dX4_readCoast_39 : decode cX4_readCoast 39 = .ok (.iconst 0, 1) := by decide +kernel
theorem dX4_readCoast_40 : decode cX4_readCoast 40 = .ok (.ireturn, 1) := by decide +kernel
theorem dX4_readCoast_41 : decode cX4_readCoast 41 = .ok (.iconst 0, 1) := by decide +kernel
theorem dX4_readCoast_42 : decode cX4_readCoast 42 = .ok (.istore_n 2, 1) := by decide +kernel
theorem dX4_readCoast_43 : decode cX4_readCoast 43 = .ok (.iload_n 2, 1) := by decide +kernel
theorem dX4_readCoast_44 : decode cX4_readCoast 44 = .ok (.bipush 33, 2) := by decide +kernel
theorem dX4_readCoast_46 : decode cX4_readCoast 46 = .ok (.if_icmp .ge 100, 3) := by decide +kernel
theorem dX4_readCoast_49 : decode cX4_readCoast 49 = .ok (.aload_n 0, 1) := by decide +kernel
theorem dX4_readCoast_50 : decode cX4_readCoast 50 = .ok (.sipush (-1000), 3) := by decide +kernel
theorem dX4_readCoast_53 : decode cX4_readCoast 53 = .ok (.sipush 1000, 3) := by decide +kernel
theorem dX4_readCoast_56 : decode cX4_readCoast 56 = .ok (.invokevirtual 118, 3) := by decide +kernel
theorem dX4_readCoast_59 : decode cX4_readCoast 59 = .ok (.ifCond .ne 5, 3) := by decide +kernel
theorem dX4_readCoast_62 : decode cX4_readCoast 62 = .ok (.iconst 0, 1) := by decide +kernel
theorem dX4_readCoast_63 : decode cX4_readCoast 63 = .ok (.ireturn, 1) := by decide +kernel
theorem dX4_readCoast_64 : decode cX4_readCoast 64 = .ok (.aload_n 0, 1) := by decide +kernel
theorem dX4_readCoast_65 : decode cX4_readCoast 65 = .ok (.getfield 105, 3) := by decide +kernel
theorem dX4_readCoast_68 : decode cX4_readCoast 68 = .ok (.istore_n 3, 1) := by decide +kernel
theorem dX4_readCoast_69 : decode cX4_readCoast 69 = .ok (.aload_n 0, 1) := by decide +kernel
theorem dX4_readCoast_70 : decode cX4_readCoast 70 = .ok (.sipush (-1000), 3) := by decide +kernel
theorem dX4_readCoast_73 : decode cX4_readCoast 73 = .ok (.sipush 1000, 3) := by decide +kernel
theorem dX4_readCoast_76 : decode cX4_readCoast 76 = .ok (.invokevirtual 118, 3) := by decide +kernel
theorem dX4_readCoast_79 : decode cX4_readCoast 79 = .ok (.ifCond .ne 5, 3) := by decide +kernel
theorem dX4_readCoast_82 : decode cX4_readCoast 82 = .ok (.iconst 0, 1) := by decide +kernel
theorem dX4_readCoast_83 : decode cX4_readCoast 83 = .ok (.ireturn, 1) := by decide +kernel
theorem dX4_readCoast_84 : decode cX4_readCoast 84 = .ok (.aload_n 1, 1) := by decide +kernel
theorem dX4_readCoast_85 : decode cX4_readCoast 85 = .ok (.aload_n 1, 1) := by decide +kernel
theorem dX4_readCoast_86 : decode cX4_readCoast 86 = .ok (.getfield 115, 3) := by decide +kernel
theorem dX4_readCoast_89 : decode cX4_readCoast 89 = .ok (.iload_n 3, 1) := by decide +kernel
theorem dX4_readCoast_90 : decode cX4_readCoast 90 = .ok (.aload_n 0, 1) := by decide +kernel
theorem dX4_readCoast_91 : decode cX4_readCoast 91 = .ok (.getfield 105, 3) := by decide +kernel
theorem dX4_readCoast_94 : decode cX4_readCoast 94 = .ok (.invokevirtual 122, 3) := by decide +kernel
theorem dX4_readCoast_97 : decode cX4_readCoast 97 = .ok (.aload_n 0, 1) := by decide +kernel
theorem dX4_readCoast_98 : decode cX4_readCoast 98 = .ok (.getfield 15, 3) := by decide +kernel
theorem dX4_readCoast_101 : decode cX4_readCoast 101 = .ok (.getfield 49, 3) := by decide +kernel
theorem dX4_readCoast_104 : decode cX4_readCoast 104 = .ok (.iconst 4, 1) := by decide +kernel
theorem dX4_readCoast_105 : decode cX4_readCoast 105 = .ok (.if_icmp .eq 28, 3) := by decide +kernel
theorem dX4_readCoast_108 : decode cX4_readCoast 108 = .ok (.aload_n 1, 1) := by decide +kernel
theorem dX4_readCoast_109 : decode cX4_readCoast 109 = .ok (.getfield 115, 3) := by decide +kernel
theorem dX4_readCoast_112 : decode cX4_readCoast 112 = .ok (.aload_n 1, 1) := by decide +kernel
theorem dX4_readCoast_113 : decode cX4_readCoast 113 = .ok (.invokevirtual 126, 3) := by decide +kernel
theorem dX4_readCoast_116 : decode cX4_readCoast 116 = .ok (.if_icmp .ge 11, 3) := by decide +kernel
theorem dX4_readCoast_119 : decode cX4_readCoast 119 = .ok (.aload_n 0, 1) := by decide +kernel
theorem dX4_readCoast_120 : decode cX4_readCoast 120 = .ok (.iconst 1, 1) := by decide +kernel
theorem dX4_readCoast_121 : decode cX4_readCoast 121 = .ok (.invokevirtual 69, 3) := by decide +kernel
theorem dX4_readCoast_124 : decode cX4_readCoast 124 = .ok (.ifCond .eq 7, 3) := by decide +kernel
theorem dX4_readCoast_127 : decode cX4_readCoast 127 = .ok (.iconst 1, 1) := by decide +kernel
theorem dX4_readCoast_128 : decode cX4_readCoast 128 = .ok (.goto 4, 3) := by decide +kernel
theorem dX4_readCoast_131 : decode cX4_readCoast 131 = .ok (.iconst 0, 1) := by decide +kernel
theorem dX4_readCoast_132 : decode cX4_readCoast 132 = .ok (.ireturn, 1) := by decide +kernel
theorem dX4_readCoast_133 : decode cX4_readCoast 133 = .ok (.aload_n 0, 1) := by decide +kernel
theorem dX4_readCoast_134 : decode cX4_readCoast 134 = .ok (.getfield 15, 3) := by decide +kernel
theorem dX4_readCoast_137 : decode cX4_readCoast 137 = .ok (.invokevirtual 83, 3) := by decide +kernel
theorem dX4_readCoast_140 : decode cX4_readCoast 140 = .ok (.iinc 2 1, 3) := by decide +kernel
theorem dX4_readCoast_143 : decode cX4_readCoast 143 = .ok (.goto (-100), 3) := by decide +kernel
theorem dX4_readCoast_146 : decode cX4_readCoast 146 = .ok (.aload_n 0, 1) := by decide +kernel
theorem dX4_readCoast_147 : decode cX4_readCoast 147 = .ok (.invokevirtual 129, 3) := by decide +kernel
theorem dX4_readCoast_150 : decode cX4_readCoast 150 = .ok (.ireturn, 1) := by decide +kernel
theorem dX4_refusePoint_0 : decode cX4_refusePoint 0 = .ok (.aload_n 0, 1) := by decide +kernel
theorem dX4_refusePoint_1 : decode cX4_refusePoint 1 = .ok (.getfield 15, 3) := by decide +kernel
theorem dX4_refusePoint_4 : decode cX4_refusePoint 4 = .ok (.getfield 49, 3) := by decide +kernel
theorem dX4_refusePoint_7 : decode cX4_refusePoint 7 = .ok (.iconst 5, 1) := by decide +kernel
theorem dX4_refusePoint_8 : decode cX4_refusePoint 8 = .ok (.if_icmp .ne 9, 3) := by decide +kernel
theorem dX4_refusePoint_11 : decode cX4_refusePoint 11 = .ok (.aload_n 0, 1) := by decide +kernel
theorem dX4_refusePoint_12 : decode cX4_refusePoint 12 = .ok (.iconst 3, 1) := by decide +kernel
theorem dX4_refusePoint_13 : decode cX4_refusePoint 13 = .ok (.invokevirtual 69, 3) := by decide +kernel
theorem dX4_refusePoint_16 : decode cX4_refusePoint 16 = .ok (.ireturn, 1) := by decide +kernel
theorem dX4_refusePoint_17 : decode cX4_refusePoint 17 = .ok (.aload_n 0, 1) := by decide +kernel
theorem dX4_refusePoint_18 : decode cX4_refusePoint 18 = .ok (.getfield 15, 3) := by decide +kernel
theorem dX4_refusePoint_21 : decode cX4_refusePoint 21 = .ok (.getfield 49, 3) := by decide +kernel
theorem dX4_refusePoint_24 : decode cX4_refusePoint 24 = .ok (.iconst 2, 1) := by decide +kernel
theorem dX4_refusePoint_25 : decode cX4_refusePoint 25 = .ok (.if_icmp .eq 9, 3) := by decide +kernel
theorem dX4_refusePoint_28 : decode cX4_refusePoint 28 = .ok (.aload_n 0, 1) := by decide +kernel
theorem dX4_refusePoint_29 : decode cX4_refusePoint 29 = .ok (.iconst 1, 1) := by decide +kernel
theorem dX4_refusePoint_30 : decode cX4_refusePoint 30 = .ok (.invokevirtual 69, 3) := by decide +kernel
theorem dX4_refusePoint_33 : decode cX4_refusePoint 33 = .ok (.ireturn, 1) := by decide +kernel
theorem dX4_refusePoint_34 : decode cX4_refusePoint 34 = .ok (.aload_n 0, 1) := by decide +kernel
theorem dX4_refusePoint_35 : decode cX4_refusePoint 35 = .ok (.aload_n 0, 1) := by decide +kernel
theorem dX4_refusePoint_36 : decode cX4_refusePoint 36 = .ok (.getfield 15, 3) := by decide +kernel
theorem dX4_refusePoint_39 : decode cX4_refusePoint 39 = .ok (.invokevirtual 101, 3) := by decide +kernel
theorem dX4_refusePoint_42 : decode cX4_refusePoint 42 = .ok (.sipush 1000, 3) := by decide +kernel
theorem dX4_refusePoint_45 : decode cX4_refusePoint 45 = .ok (.if_icmp .le 7, 3) := by decide +kernel
theorem dX4_refusePoint_48 : decode cX4_refusePoint 48 = .ok (.iconst 2, 1) := by decide +kernel
theorem dX4_refusePoint_49 : decode cX4_refusePoint 49 = .ok (.goto 4, 3) := by decide +kernel
theorem dX4_refusePoint_52 : decode cX4_refusePoint 52 = .ok (.iconst 3, 1) := by decide +kernel
theorem dX4_refusePoint_53 : decode cX4_refusePoint 53 = .ok (.invokevirtual 69, 3) := by decide +kernel
theorem dX4_refusePoint_56 : decode cX4_refusePoint 56 = .ok (.ireturn, 1) := by decide +kernel
theorem dX5_init_0 : decode cX5_init 0 = .ok (.aload_n 0, 1) := by decide +kernel
theorem dX5_init_1 : decode cX5_init 1 = .ok (.invokespecial 3, 3) := by decide +kernel
theorem dX5_init_4 : decode cX5_init 4 = .ok (.aload_n 0, 1) := by decide +kernel
theorem dX5_init_5 : decode cX5_init 5 = .ok (.sipush 700, 3) := by decide +kernel
theorem dX5_init_8 : decode cX5_init 8 = .ok (.newarray .byte, 2) := by decide +kernel
theorem dX5_init_10 : decode cX5_init 10 = .ok (.putfield 9, 3) := by decide +kernel
theorem dX5_init_13 : decode cX5_init 13 = .ok (.return_, 1) := by decide +kernel
theorem dX5_append_0 : decode cX5_append 0 = .ok (.bipush 24, 2) := by decide +kernel
theorem dX5_append_2 : decode cX5_append 2 = .ok (.istore_n 2, 1) := by decide +kernel
theorem dX5_append_3 : decode cX5_append 3 = .ok (.iload_n 2, 1) := by decide +kernel
theorem dX5_append_4 : decode cX5_append 4 = .ok (.ifCond .lt 42, 3) := by decide +kernel
theorem dX5_append_7 : decode cX5_append 7 = .ok (.aload_n 0, 1) := by decide +kernel
theorem dX5_append_8 : decode cX5_append 8 = .ok (.getfield 15, 3) := by decide +kernel
theorem dX5_append_11 : decode cX5_append 11 = .ok (.sipush 700, 3) := by decide +kernel
theorem dX5_append_14 : decode cX5_append 14 = .ok (.if_icmp .ge 32, 3) := by decide +kernel
theorem dX5_append_17 : decode cX5_append 17 = .ok (.aload_n 0, 1) := by decide +kernel
theorem dX5_append_18 : decode cX5_append 18 = .ok (.getfield 9, 3) := by decide +kernel
theorem dX5_append_21 : decode cX5_append 21 = .ok (.aload_n 0, 1) := by decide +kernel
theorem dX5_append_22 : decode cX5_append 22 = .ok (.getfield 15, 3) := by decide +kernel
theorem dX5_append_25 : decode cX5_append 25 = .ok (.iload_n 1, 1) := by decide +kernel
theorem dX5_append_26 : decode cX5_append 26 = .ok (.iload_n 2, 1) := by decide +kernel
theorem dX5_append_27 : decode cX5_append 27 = .ok (.ishr, 1) := by decide +kernel
theorem dX5_append_28 : decode cX5_append 28 = .ok (.i2b, 1) := by decide +kernel
theorem dX5_append_29 : decode cX5_append 29 = .ok (.bastore, 1) := by decide +kernel
theorem dX5_append_30 : decode cX5_append 30 = .ok (.aload_n 0, 1) := by decide +kernel
theorem dX5_append_31 : decode cX5_append 31 = .ok (.dup, 1) := by decide +kernel
theorem dX5_append_32 : decode cX5_append 32 = .ok (.getfield 15, 3) := by decide +kernel
theorem dX5_append_35 : decode cX5_append 35 = .ok (.iconst 1, 1) := by decide +kernel
theorem dX5_append_36 : decode cX5_append 36 = .ok (.iadd, 1) := by decide +kernel
theorem dX5_append_37 : decode cX5_append 37 = .ok (.putfield 15, 3) := by decide +kernel
theorem dX5_append_40 : decode cX5_append 40 = .ok (.iinc 2 (-8), 3) := by decide +kernel
theorem dX5_append_43 : decode cX5_append 43 = .ok (.goto (-40), 3) := by decide +kernel
theorem dX5_append_46 : decode cX5_append 46 = .ok (.return_, 1) := by decide +kernel
theorem dX5_begin_0 : decode cX5_begin 0 = .ok (.aload_n 0, 1) := by decide +kernel
theorem dX5_begin_1 : decode cX5_begin 1 = .ok (.iload_n 1, 1) := by decide +kernel
theorem dX5_begin_2 : decode cX5_begin 2 = .ok (.putfield 19, 3) := by decide +kernel
theorem dX5_begin_5 : decode cX5_begin 5 = .ok (.aload_n 0, 1) := by decide +kernel
theorem dX5_begin_6 : decode cX5_begin 6 = .ok (.iconst 0, 1) := by decide +kernel
theorem dX5_begin_7 : decode cX5_begin 7 = .ok (.putfield 22, 3) := by decide +kernel
theorem dX5_begin_10 : decode cX5_begin 10 = .ok (.aload_n 0, 1) := by decide +kernel
theorem dX5_begin_11 : decode cX5_begin 11 = .ok (.invokevirtual 25, 3) := by decide +kernel
theorem dX5_begin_14 : decode cX5_begin 14 = .ok (.return_, 1) := by decide +kernel
theorem dX5_advance_0 : decode cX5_advance 0 = .ok (.aload_n 0, 1) := by decide +kernel
theorem dX5_advance_1 : decode cX5_advance 1 = .ok (.getfield 22, 3) := by decide +kernel
theorem dX5_advance_4 : decode cX5_advance 4 = .ok (.aload_n 0, 1) := by decide +kernel
theorem dX5_advance_5 : decode cX5_advance 5 = .ok (.getfield 19, 3) := by decide +kernel
theorem dX5_advance_8 : decode cX5_advance 8 = .ok (.if_icmp .ge 44, 3) := by decide +kernel
theorem dX5_advance_11 : decode cX5_advance 11 = .ok (.aload_n 0, 1) := by decide +kernel
theorem dX5_advance_12 : decode cX5_advance 12 = .ok (.getfield 9, 3) := by decide +kernel
theorem dX5_advance_15 : decode cX5_advance 15 = .ok (.aload_n 0, 1) := by decide +kernel
theorem dX5_advance_16 : decode cX5_advance 16 = .ok (.getfield 22, 3) := by decide +kernel
theorem dX5_advance_19 : decode cX5_advance 19 = .ok (.baload, 1) := by decide +kernel
theorem dX5_advance_20 : decode cX5_advance 20 = .ok (.bipush 32, 2) := by decide +kernel
theorem dX5_advance_22 : decode cX5_advance 22 = .ok (.if_icmp .eq 17, 3) := by decide +kernel
theorem dX5_advance_25 : decode cX5_advance 25 = .ok (.aload_n 0, 1) := by decide +kernel
theorem dX5_advance_26 : decode cX5_advance 26 = .ok (.getfield 9, 3) := by decide +kernel
theorem dX5_advance_29 : decode cX5_advance 29 = .ok (.aload_n 0, 1) := by decide +kernel
theorem dX5_advance_30 : decode cX5_advance 30 = .ok (.getfield 22, 3) := by decide +kernel
theorem dX5_advance_33 : decode cX5_advance 33 = .ok (.baload, 1) := by decide +kernel
theorem dX5_advance_34 : decode cX5_advance 34 = .ok (.bipush 10, 2) := by decide +kernel
theorem dX5_advance_36 : decode cX5_advance 36 = .ok (.if_icmp .ne 16, 3) := by decide +kernel
theorem dX5_advance_39 : decode cX5_advance 39 = .ok (.aload_n 0, 1) := by decide +kernel
theorem dX5_advance_40 : decode cX5_advance 40 = .ok (.dup, 1) := by decide +kernel
theorem dX5_advance_41 : decode cX5_advance 41 = .ok (.getfield 22, 3) := by decide +kernel
theorem dX5_advance_44 : decode cX5_advance 44 = .ok (.iconst 1, 1) := by decide +kernel
theorem dX5_advance_45 : decode cX5_advance 45 = .ok (.iadd, 1) := by decide +kernel
theorem dX5_advance_46 : decode cX5_advance 46 = .ok (.putfield 22, 3) := by decide +kernel
theorem dX5_advance_49 : decode cX5_advance 49 = .ok (.goto (-49), 3) := by decide +kernel
theorem dX5_advance_52 : decode cX5_advance 52 = .ok (.aload_n 0, 1) := by decide +kernel
theorem dX5_advance_53 : decode cX5_advance 53 = .ok (.aload_n 0, 1) := by decide +kernel
theorem dX5_advance_54 : decode cX5_advance 54 = .ok (.getfield 22, 3) := by decide +kernel
theorem dX5_advance_57 : decode cX5_advance 57 = .ok (.putfield 28, 3) := by decide +kernel
theorem dX5_advance_60 : decode cX5_advance 60 = .ok (.aload_n 0, 1) := by decide +kernel
theorem dX5_advance_61 : decode cX5_advance 61 = .ok (.getfield 22, 3) := by decide +kernel
theorem dX5_advance_64 : decode cX5_advance 64 = .ok (.aload_n 0, 1) := by decide +kernel
theorem dX5_advance_65 : decode cX5_advance 65 = .ok (.getfield 19, 3) := by decide +kernel
theorem dX5_advance_68 : decode cX5_advance 68 = .ok (.if_icmp .lt 11, 3) := by decide +kernel
theorem dX5_advance_71 : decode cX5_advance 71 = .ok (.aload_n 0, 1) := by decide +kernel
theorem dX5_advance_72 : decode cX5_advance 72 = .ok (.iconst 0, 1) := by decide +kernel
theorem dX5_advance_73 : decode cX5_advance 73 = .ok (.putfield 31, 3) := by decide +kernel
theorem dX5_advance_76 : decode cX5_advance 76 = .ok (.goto 125, 3) := by decide +kernel
theorem dX5_advance_79 : decode cX5_advance 79 = .ok (.aload_n 0, 1) := by decide +kernel
theorem dX5_advance_80 : decode cX5_advance 80 = .ok (.getfield 9, 3) := by decide +kernel
theorem dX5_advance_83 : decode cX5_advance 83 = .ok (.aload_n 0, 1) := by decide +kernel
theorem dX5_advance_84 : decode cX5_advance 84 = .ok (.getfield 22, 3) := by decide +kernel
theorem dX5_advance_87 : decode cX5_advance 87 = .ok (.baload, 1) := by decide +kernel
theorem dX5_advance_88 : decode cX5_advance 88 = .ok (.bipush 97, 2) := by decide +kernel
theorem dX5_advance_90 : decode cX5_advance 90 = .ok (.if_icmp .lt 37, 3) := by decide +kernel
theorem dX5_advance_93 : decode cX5_advance 93 = .ok (.aload_n 0, 1) := by decide +kernel
theorem dX5_advance_94 : decode cX5_advance 94 = .ok (.getfield 9, 3) := by decide +kernel
theorem dX5_advance_97 : decode cX5_advance 97 = .ok (.aload_n 0, 1) := by decide +kernel
theorem dX5_advance_98 : decode cX5_advance 98 = .ok (.getfield 22, 3) := by decide +kernel
theorem dX5_advance_101 : decode cX5_advance 101 = .ok (.baload, 1) := by decide +kernel
theorem dX5_advance_102 : decode cX5_advance 102 = .ok (.bipush 122, 2) := by decide +kernel
theorem dX5_advance_104 : decode cX5_advance 104 = .ok (.if_icmp .gt 23, 3) := by decide +kernel
theorem dX5_advance_107 : decode cX5_advance 107 = .ok (.aload_n 0, 1) := by decide +kernel
theorem dX5_advance_108 : decode cX5_advance 108 = .ok (.iconst 1, 1) := by decide +kernel
theorem dX5_advance_109 : decode cX5_advance 109 = .ok (.putfield 31, 3) := by decide +kernel
theorem dX5_advance_112 : decode cX5_advance 112 = .ok (.aload_n 0, 1) := by decide +kernel
theorem dX5_advance_113 : decode cX5_advance 113 = .ok (.aload_n 0, 1) := by decide +kernel
theorem dX5_advance_114 : decode cX5_advance 114 = .ok (.bipush 97, 2) := by decide +kernel
theorem dX5_advance_116 : decode cX5_advance 116 = .ok (.bipush 122, 2) := by decide +kernel
theorem dX5_advance_118 : decode cX5_advance 118 = .ok (.invokevirtual 34, 3) := by decide +kernel
theorem dX5_advance_121 : decode cX5_advance 121 = .ok (.putfield 22, 3) := by decide +kernel
theorem dX5_advance_124 : decode cX5_advance 124 = .ok (.goto 77, 3) := by decide +kernel
theorem dX5_advance_127 : decode cX5_advance 127 = .ok (.aload_n 0, 1) := by decide +kernel
theorem dX5_advance_128 : decode cX5_advance 128 = .ok (.getfield 9, 3) := by decide +kernel
theorem dX5_advance_131 : decode cX5_advance 131 = .ok (.aload_n 0, 1) := by decide +kernel
theorem dX5_advance_132 : decode cX5_advance 132 = .ok (.getfield 22, 3) := by decide +kernel
theorem dX5_advance_135 : decode cX5_advance 135 = .ok (.baload, 1) := by decide +kernel
theorem dX5_advance_136 : decode cX5_advance 136 = .ok (.bipush 48, 2) := by decide +kernel
theorem dX5_advance_138 : decode cX5_advance 138 = .ok (.if_icmp .lt 37, 3) := by decide +kernel
theorem dX5_advance_141 : decode cX5_advance 141 = .ok (.aload_n 0, 1) := by decide +kernel
theorem dX5_advance_142 : decode cX5_advance 142 = .ok (.getfield 9, 3) := by decide +kernel
theorem dX5_advance_145 : decode cX5_advance 145 = .ok (.aload_n 0, 1) := by decide +kernel
theorem dX5_advance_146 : decode cX5_advance 146 = .ok (.getfield 22, 3) := by decide +kernel
theorem dX5_advance_149 : decode cX5_advance 149 = .ok (.baload, 1) := by decide +kernel
theorem dX5_advance_150 : decode cX5_advance 150 = .ok (.bipush 57, 2) := by decide +kernel
theorem dX5_advance_152 : decode cX5_advance 152 = .ok (.if_icmp .gt 23, 3) := by decide +kernel
theorem dX5_advance_155 : decode cX5_advance 155 = .ok (.aload_n 0, 1) := by decide +kernel
theorem dX5_advance_156 : decode cX5_advance 156 = .ok (.iconst 2, 1) := by decide +kernel
theorem dX5_advance_157 : decode cX5_advance 157 = .ok (.putfield 31, 3) := by decide +kernel
theorem dX5_advance_160 : decode cX5_advance 160 = .ok (.aload_n 0, 1) := by decide +kernel
theorem dX5_advance_161 : decode cX5_advance 161 = .ok (.aload_n 0, 1) := by decide +kernel
theorem dX5_advance_162 : decode cX5_advance 162 = .ok (.bipush 48, 2) := by decide +kernel
theorem dX5_advance_164 : decode cX5_advance 164 = .ok (.bipush 57, 2) := by decide +kernel
theorem dX5_advance_166 : decode cX5_advance 166 = .ok (.invokevirtual 34, 3) := by decide +kernel
theorem dX5_advance_169 : decode cX5_advance 169 = .ok (.putfield 22, 3) := by decide +kernel
theorem dX5_advance_172 : decode cX5_advance 172 = .ok (.goto 29, 3) := by decide +kernel
theorem dX5_advance_175 : decode cX5_advance 175 = .ok (.aload_n 0, 1) := by decide +kernel
theorem dX5_advance_176 : decode cX5_advance 176 = .ok (.aload_n 0, 1) := by decide +kernel
theorem dX5_advance_177 : decode cX5_advance 177 = .ok (.getfield 9, 3) := by decide +kernel
theorem dX5_advance_180 : decode cX5_advance 180 = .ok (.aload_n 0, 1) := by decide +kernel
theorem dX5_advance_181 : decode cX5_advance 181 = .ok (.getfield 22, 3) := by decide +kernel
theorem dX5_advance_184 : decode cX5_advance 184 = .ok (.baload, 1) := by decide +kernel
theorem dX5_advance_185 : decode cX5_advance 185 = .ok (.invokestatic 38, 3) := by decide +kernel
theorem dX5_advance_188 : decode cX5_advance 188 = .ok (.putfield 31, 3) := by decide +kernel
theorem dX5_advance_191 : decode cX5_advance 191 = .ok (.aload_n 0, 1) := by decide +kernel
theorem dX5_advance_192 : decode cX5_advance 192 = .ok (.dup, 1) := by decide +kernel
theorem dX5_advance_193 : decode cX5_advance 193 = .ok (.getfield 22, 3) := by decide +kernel
theorem dX5_advance_196 : decode cX5_advance 196 = .ok (.iconst 1, 1) := by decide +kernel
theorem dX5_advance_197 : decode cX5_advance 197 = .ok (.iadd, 1) := by decide +kernel
theorem dX5_advance_198 : decode cX5_advance 198 = .ok (.putfield 22, 3) := by decide +kernel
theorem dX5_advance_201 : decode cX5_advance 201 = .ok (.return_, 1) := by decide +kernel
theorem dX5_endOfRun_0 : decode cX5_endOfRun 0 = .ok (.aload_n 0, 1) := by decide +kernel
theorem dX5_endOfRun_1 : decode cX5_endOfRun 1 = .ok (.getfield 28, 3) := by decide +kernel
theorem dX5_endOfRun_4 : decode cX5_endOfRun 4 = .ok (.istore_n 3, 1) := by decide +kernel
theorem dX5_endOfRun_5 : decode cX5_endOfRun 5 = .ok (.iload_n 3, 1) := by decide +kernel
theorem dX5_endOfRun_6 : decode cX5_endOfRun 6 = .ok (.aload_n 0, 1) := by decide +kernel
theorem dX5_endOfRun_7 : decode cX5_endOfRun 7 = .ok (.getfield 19, 3) := by decide +kernel
theorem dX5_endOfRun_10 : decode cX5_endOfRun 10 = .ok (.if_icmp .ge 29, 3) := by decide +kernel
theorem dX5_endOfRun_13 : decode cX5_endOfRun 13 = .ok (.aload_n 0, 1) := by decide +kernel
theorem dX5_endOfRun_14 : decode cX5_endOfRun 14 = .ok (.getfield 9, 3) := by decide +kernel
theorem dX5_endOfRun_17 : decode cX5_endOfRun 17 = .ok (.iload_n 3, 1) := by decide +kernel
theorem dX5_endOfRun_18 : decode cX5_endOfRun 18 = .ok (.baload, 1) := by decide +kernel
theorem dX5_endOfRun_19 : decode cX5_endOfRun 19 = .ok (.iload_n 1, 1) := by decide +kernel
theorem dX5_endOfRun_20 : decode cX5_endOfRun 20 = .ok (.if_icmp .lt 19, 3) := by decide +kernel
theorem dX5_endOfRun_23 : decode cX5_endOfRun 23 = .ok (.aload_n 0, 1) := by decide +kernel
theorem dX5_endOfRun_24 : decode cX5_endOfRun 24 = .ok (.getfield 9, 3) := by decide +kernel
theorem dX5_endOfRun_27 : decode cX5_endOfRun 27 = .ok (.iload_n 3, 1) := by decide +kernel
theorem dX5_endOfRun_28 : decode cX5_endOfRun 28 = .ok (.baload, 1) := by decide +kernel
theorem dX5_endOfRun_29 : decode cX5_endOfRun 29 = .ok (.iload_n 2, 1) := by decide +kernel
theorem dX5_endOfRun_30 : decode cX5_endOfRun 30 = .ok (.if_icmp .gt 9, 3) := by decide +kernel
theorem dX5_endOfRun_33 : decode cX5_endOfRun 33 = .ok (.iinc 3 1, 3) := by decide +kernel
theorem dX5_endOfRun_36 : decode cX5_endOfRun 36 = .ok (.goto (-31), 3) := by decide +kernel
theorem dX5_endOfRun_39 : decode cX5_endOfRun 39 = .ok (.iload_n 3, 1) := by decide +kernel
theorem dX5_endOfRun_40 : decode cX5_endOfRun 40 = .ok (.ireturn, 1) := by decide +kernel
theorem dX5_value_0 : decode cX5_value 0 = .ok (.iconst 0, 1) := by decide +kernel
theorem dX5_value_1 : decode cX5_value 1 = .ok (.istore_n 1, 1) := by decide +kernel
theorem dX5_value_2 : decode cX5_value 2 = .ok (.aload_n 0, 1) := by decide +kernel
theorem dX5_value_3 : decode cX5_value 3 = .ok (.getfield 28, 3) := by decide +kernel
theorem dX5_value_6 : decode cX5_value 6 = .ok (.istore_n 2, 1) := by decide +kernel
theorem dX5_value_7 : decode cX5_value 7 = .ok (.iload_n 2, 1) := by decide +kernel
theorem dX5_value_8 : decode cX5_value 8 = .ok (.aload_n 0, 1) := by decide +kernel
theorem dX5_value_9 : decode cX5_value 9 = .ok (.getfield 22, 3) := by decide +kernel
theorem dX5_value_12 : decode cX5_value 12 = .ok (.if_icmp .ge 30, 3) := by decide +kernel
theorem dX5_value_15 : decode cX5_value 15 = .ok (.iload_n 1, 1) := by decide +kernel
theorem dX5_value_16 : decode cX5_value 16 = .ok (.ldc 42, 2) := by decide +kernel
theorem dX5_value_18 : decode cX5_value 18 = .ok (.if_icmp .gt 24, 3) := by decide +kernel
theorem dX5_value_21 : decode cX5_value 21 = .ok (.bipush 10, 2) := by decide +kernel
theorem dX5_value_23 : decode cX5_value 23 = .ok (.iload_n 1, 1) := by decide +kernel
theorem dX5_value_24 : decode cX5_value 24 = .ok (.imul, 1) := by decide +kernel
theorem dX5_value_25 : decode cX5_value 25 = .ok (.aload_n 0, 1) := by decide +kernel
theorem dX5_value_26 : decode cX5_value 26 = .ok (.getfield 9, 3) := by decide +kernel
theorem dX5_value_29 : decode cX5_value 29 = .ok (.iload_n 2, 1) := by decide +kernel
theorem dX5_value_30 : decode cX5_value 30 = .ok (.baload, 1) := by decide +kernel
theorem dX5_value_31 : decode cX5_value 31 = .ok (.iadd, 1) := by decide +kernel
theorem dX5_value_32 : decode cX5_value 32 = .ok (.bipush 48, 2) := by decide +kernel
theorem dX5_value_34 : decode cX5_value 34 = .ok (.isub, 1) := by decide +kernel
theorem dX5_value_35 : decode cX5_value 35 = .ok (.istore_n 1, 1) := by decide +kernel
theorem dX5_value_36 : decode cX5_value 36 = .ok (.iinc 2 1, 3) := by decide +kernel
theorem dX5_value_39 : decode cX5_value 39 = .ok (.goto (-32), 3) := by decide +kernel
theorem dX5_value_42 : decode cX5_value 42 = .ok (.iload_n 1, 1) := by decide +kernel
theorem dX5_value_43 : decode cX5_value 43 = .ok (.ireturn, 1) := by decide +kernel
theorem dX5_kindOfSign_0 : decode cX5_kindOfSign 0 = .ok (.iload_n 0, 1) := by decide +kernel
theorem dX5_kindOfSign_1 : decode cX5_kindOfSign 1 = .ok (.bipush 59, 2) := by decide +kernel
theorem dX5_kindOfSign_3 : decode cX5_kindOfSign 3 = .ok (.if_icmp .ne 5, 3) := by decide +kernel
theorem dX5_kindOfSign_6 : decode cX5_kindOfSign 6 = .ok (.iconst 3, 1) := by decide +kernel
theorem dX5_kindOfSign_7 : decode cX5_kindOfSign 7 = .ok (.ireturn, 1) := by decide +kernel
theorem dX5_kindOfSign_8 : decode cX5_kindOfSign 8 = .ok (.iload_n 0, 1) := by decide +kernel
theorem dX5_kindOfSign_9 : decode cX5_kindOfSign 9 = .ok (.bipush 44, 2) := by decide +kernel
theorem dX5_kindOfSign_11 : decode cX5_kindOfSign 11 = .ok (.if_icmp .ne 5, 3) := by decide +kernel
theorem dX5_kindOfSign_14 : decode cX5_kindOfSign 14 = .ok (.iconst 4, 1) := by decide +kernel
theorem dX5_kindOfSign_15 : decode cX5_kindOfSign 15 = .ok (.ireturn, 1) := by decide +kernel
theorem dX5_kindOfSign_16 : decode cX5_kindOfSign 16 = .ok (.iload_n 0, 1) := by decide +kernel
theorem dX5_kindOfSign_17 : decode cX5_kindOfSign 17 = .ok (.bipush 45, 2) := by decide +kernel
theorem dX5_kindOfSign_19 : decode cX5_kindOfSign 19 = .ok (.if_icmp .ne 7, 3) := by decide +kernel
theorem dX5_kindOfSign_22 : decode cX5_kindOfSign 22 = .ok (.iconst 5, 1) := by decide +kernel
theorem dX5_kindOfSign_23 : decode cX5_kindOfSign 23 = .ok (.goto 5, 3) := by decide +kernel
theorem dX5_kindOfSign_26 : decode cX5_kindOfSign 26 = .ok (.bipush 6, 2) := by decide +kernel
theorem dX5_kindOfSign_28 : decode cX5_kindOfSign 28 = .ok (.ireturn, 1) := by decide +kernel
theorem dX5_isWord_0 : decode cX5_isWord 0 = .ok (.aload_n 0, 1) := by decide +kernel
theorem dX5_isWord_1 : decode cX5_isWord 1 = .ok (.getfield 31, 3) := by decide +kernel
theorem dX5_isWord_4 : decode cX5_isWord 4 = .ok (.iconst 1, 1) := by decide +kernel
theorem dX5_isWord_5 : decode cX5_isWord 5 = .ok (.if_icmp .ne 19, 3) := by decide +kernel
theorem dX5_isWord_8 : decode cX5_isWord 8 = .ok (.aload_n 0, 1) := by decide +kernel
theorem dX5_isWord_9 : decode cX5_isWord 9 = .ok (.getfield 22, 3) := by decide +kernel
theorem dX5_isWord_12 : decode cX5_isWord 12 = .ok (.aload_n 0, 1) := by decide +kernel
theorem dX5_isWord_13 : decode cX5_isWord 13 = .ok (.getfield 28, 3) := by decide +kernel
theorem dX5_isWord_16 : decode cX5_isWord 16 = .ok (.isub, 1) := by decide +kernel
theorem dX5_isWord_17 : decode cX5_isWord 17 = .ok (.aload_n 1, 1) := by decide +kernel
theorem dX5_isWord_18 : decode cX5_isWord 18 = .ok (.invokevirtual 43, 3) := by decide +kernel
theorem dX5_isWord_21 : decode cX5_isWord 21 = .ok (.if_icmp .eq 5, 3) := by decide +kernel
theorem dX5_isWord_24 : decode cX5_isWord 24 = .ok (.iconst 0, 1) := by decide +kernel
theorem dX5_isWord_25 : decode cX5_isWord 25 = .ok (.ireturn, 1) := by decide +kernel
theorem dX5_isWord_26 : decode cX5_isWord 26 = .ok (.iconst 0, 1) := by decide +kernel
theorem dX5_isWord_27 : decode cX5_isWord 27 = .ok (.istore_n 2, 1) := by decide +kernel
theorem dX5_isWord_28 : decode cX5_isWord 28 = .ok (.iload_n 2, 1) := by decide +kernel
theorem dX5_isWord_29 : decode cX5_isWord 29 = .ok (.aload_n 1, 1) := by decide +kernel
theorem dX5_isWord_30 : decode cX5_isWord 30 = .ok (.invokevirtual 43, 3) := by decide +kernel
theorem dX5_isWord_33 : decode cX5_isWord 33 = .ok (.if_icmp .ge 30, 3) := by decide +kernel
theorem dX5_isWord_36 : decode cX5_isWord 36 = .ok (.aload_n 0, 1) := by decide +kernel
theorem dX5_isWord_37 : decode cX5_isWord 37 = .ok (.getfield 9, 3) := by decide +kernel
theorem dX5_isWord_40 : decode cX5_isWord 40 = .ok (.aload_n 0, 1) := by decide +kernel
theorem dX5_isWord_41 : decode cX5_isWord 41 = .ok (.getfield 28, 3) := by decide +kernel
theorem dX5_isWord_44 : decode cX5_isWord 44 = .ok (.iload_n 2, 1) := by decide +kernel
theorem dX5_isWord_45 : decode cX5_isWord 45 = .ok (.iadd, 1) := by decide +kernel
theorem dX5_isWord_46 : decode cX5_isWord 46 = .ok (.baload, 1) := by decide +kernel
theorem dX5_isWord_47 : decode cX5_isWord 47 = .ok (.aload_n 1, 1) := by decide +kernel
theorem dX5_isWord_48 : decode cX5_isWord 48 = .ok (.iload_n 2, 1) := by decide +kernel
theorem dX5_isWord_49 : decode cX5_isWord 49 = .ok (.invokevirtual 48, 3) := by decide +kernel
theorem dX5_isWord_52 : decode cX5_isWord 52 = .ok (.if_icmp .eq 5, 3) := by decide +kernel
theorem dX5_isWord_55 : decode cX5_isWord 55 = .ok (.iconst 0, 1) := by decide +kernel
theorem dX5_isWord_56 : decode cX5_isWord 56 = .ok (.ireturn, 1) := by decide +kernel
theorem dX5_isWord_57 : decode cX5_isWord 57 = .ok (.iinc 2 1, 3) := by decide +kernel
theorem dX5_isWord_60 : decode cX5_isWord 60 = .ok (.goto (-32), 3) := by decide +kernel
theorem dX5_isWord_63 : decode cX5_isWord 63 = .ok (.iconst 1, 1) := by decide +kernel
theorem dX5_isWord_64 : decode cX5_isWord 64 = .ok (.ireturn, 1) := by decide +kernel
theorem dX6_allows_0 : decode cX6_allows 0 = .ok (.iload_n 1, 1) := by decide +kernel
theorem dX6_allows_1 : decode cX6_allows 1 = .ok (.aload_n 0, 1) := by decide +kernel
theorem dX6_allows_2 : decode cX6_allows 2 = .ok (.getfield 73, 3) := by decide +kernel
theorem dX6_allows_5 : decode cX6_allows 5 = .ok (.ineg, 1) := by decide +kernel
theorem dX6_allows_6 : decode cX6_allows 6 = .ok (.if_icmp .lt 15, 3) := by decide +kernel
theorem dX6_allows_9 : decode cX6_allows 9 = .ok (.iload_n 1, 1) := by decide +kernel
theorem dX6_allows_10 : decode cX6_allows 10 = .ok (.aload_n 0, 1) := by decide +kernel
theorem dX6_allows_11 : decode cX6_allows 11 = .ok (.getfield 73, 3) := by decide +kernel
theorem dX6_allows_14 : decode cX6_allows 14 = .ok (.if_icmp .gt 7, 3) := by decide +kernel
theorem dX6_allows_17 : decode cX6_allows 17 = .ok (.iconst 1, 1) := by decide +kernel
theorem dX6_allows_18 : decode cX6_allows 18 = .ok (.goto 4, 3) := by decide +kernel
theorem dX6_allows_21 : decode cX6_allows 21 = .ok (.iconst 0, 1) := by decide +kernel
theorem dX6_allows_22 : decode cX6_allows 22 = .ok (.ireturn, 1) := by decide +kernel
theorem dX7_init_0 : decode cX7_init 0 = .ok (.aload_n 0, 1) := by decide +kernel
theorem dX7_init_1 : decode cX7_init 1 = .ok (.invokespecial 1, 3) := by decide +kernel
theorem dX7_init_4 : decode cX7_init 4 = .ok (.aload_n 0, 1) := by decide +kernel
theorem dX7_init_5 : decode cX7_init 5 = .ok (.new 7, 3) := by decide +kernel
theorem dX7_init_8 : decode cX7_init 8 = .ok (.dup, 1) := by decide +kernel
theorem dX7_init_9 : decode cX7_init 9 = .ok (.invokespecial 9, 3) := by decide +kernel
theorem dX7_init_12 : decode cX7_init 12 = .ok (.putfield 10, 3) := by decide +kernel
theorem dX7_init_15 : decode cX7_init 15 = .ok (.aload_n 0, 1) := by decide +kernel
theorem dX7_init_16 : decode cX7_init 16 = .ok (.new 7, 3) := by decide +kernel
theorem dX7_init_19 : decode cX7_init 19 = .ok (.dup, 1) := by decide +kernel
theorem dX7_init_20 : decode cX7_init 20 = .ok (.invokespecial 9, 3) := by decide +kernel
theorem dX7_init_23 : decode cX7_init 23 = .ok (.putfield 16, 3) := by decide +kernel
theorem dX7_init_26 : decode cX7_init 26 = .ok (.aload_n 0, 1) := by decide +kernel
theorem dX7_init_27 : decode cX7_init 27 = .ok (.new 7, 3) := by decide +kernel
theorem dX7_init_30 : decode cX7_init 30 = .ok (.dup, 1) := by decide +kernel
theorem dX7_init_31 : decode cX7_init 31 = .ok (.invokespecial 9, 3) := by decide +kernel
theorem dX7_init_34 : decode cX7_init 34 = .ok (.putfield 19, 3) := by decide +kernel
theorem dX7_init_37 : decode cX7_init 37 = .ok (.aload_n 0, 1) := by decide +kernel
theorem dX7_init_38 : decode cX7_init 38 = .ok (.bipush 8, 2) := by decide +kernel
theorem dX7_init_40 : decode cX7_init 40 = .ok (.anewarray 7, 3) := by decide +kernel
theorem dX7_init_43 : decode cX7_init 43 = .ok (.putfield 22, 3) := by decide +kernel
theorem dX7_init_46 : decode cX7_init 46 = .ok (.aload_n 0, 1) := by decide +kernel
theorem dX7_init_47 : decode cX7_init 47 = .ok (.new 26, 3) := by decide +kernel
theorem dX7_init_50 : decode cX7_init 50 = .ok (.dup, 1) := by decide +kernel
theorem dX7_init_51 : decode cX7_init 51 = .ok (.invokespecial 28, 3) := by decide +kernel
theorem dX7_init_54 : decode cX7_init 54 = .ok (.putfield 29, 3) := by decide +kernel
theorem dX7_init_57 : decode cX7_init 57 = .ok (.aload_n 0, 1) := by decide +kernel
theorem dX7_init_58 : decode cX7_init 58 = .ok (.new 33, 3) := by decide +kernel
theorem dX7_init_61 : decode cX7_init 61 = .ok (.dup, 1) := by decide +kernel
theorem dX7_init_62 : decode cX7_init 62 = .ok (.aload_n 0, 1) := by decide +kernel
theorem dX7_init_63 : decode cX7_init 63 = .ok (.getfield 29, 3) := by decide +kernel
theorem dX7_init_66 : decode cX7_init 66 = .ok (.invokespecial 35, 3) := by decide +kernel
theorem dX7_init_69 : decode cX7_init 69 = .ok (.putfield 38, 3) := by decide +kernel
theorem dX7_init_72 : decode cX7_init 72 = .ok (.aload_n 0, 1) := by decide +kernel
theorem dX7_init_73 : decode cX7_init 73 = .ok (.bipush 20, 2) := by decide +kernel
theorem dX7_init_75 : decode cX7_init 75 = .ok (.anewarray 42, 3) := by decide +kernel
theorem dX7_init_78 : decode cX7_init 78 = .ok (.putfield 44, 3) := by decide +kernel
theorem dX7_init_81 : decode cX7_init 81 = .ok (.aload_n 0, 1) := by decide +kernel
theorem dX7_init_82 : decode cX7_init 82 = .ok (.new 42, 3) := by decide +kernel
theorem dX7_init_85 : decode cX7_init 85 = .ok (.dup, 1) := by decide +kernel
theorem dX7_init_86 : decode cX7_init 86 = .ok (.invokespecial 48, 3) := by decide +kernel
theorem dX7_init_89 : decode cX7_init 89 = .ok (.putfield 49, 3) := by decide +kernel
theorem dX7_init_92 : decode cX7_init 92 = .ok (.aload_n 0, 1) := by decide +kernel
theorem dX7_init_93 : decode cX7_init 93 = .ok (.new 53, 3) := by decide +kernel
theorem dX7_init_96 : decode cX7_init 96 = .ok (.dup, 1) := by decide +kernel
theorem dX7_init_97 : decode cX7_init 97 = .ok (.sipush 129, 3) := by decide +kernel
theorem dX7_init_100 : decode cX7_init 100 = .ok (.invokespecial 55, 3) := by decide +kernel
theorem dX7_init_103 : decode cX7_init 103 = .ok (.putfield 58, 3) := by decide +kernel
theorem dX7_init_106 : decode cX7_init 106 = .ok (.aload_n 0, 1) := by decide +kernel
theorem dX7_init_107 : decode cX7_init 107 = .ok (.new 62, 3) := by decide +kernel
theorem dX7_init_110 : decode cX7_init 110 = .ok (.dup, 1) := by decide +kernel
theorem dX7_init_111 : decode cX7_init 111 = .ok (.invokespecial 64, 3) := by decide +kernel
theorem dX7_init_114 : decode cX7_init 114 = .ok (.putfield 65, 3) := by decide +kernel
theorem dX7_init_117 : decode cX7_init 117 = .ok (.iconst 0, 1) := by decide +kernel
theorem dX7_init_118 : decode cX7_init 118 = .ok (.istore_n 1, 1) := by decide +kernel
theorem dX7_init_119 : decode cX7_init 119 = .ok (.iload_n 1, 1) := by decide +kernel
theorem dX7_init_120 : decode cX7_init 120 = .ok (.bipush 8, 2) := by decide +kernel
theorem dX7_init_122 : decode cX7_init 122 = .ok (.if_icmp .ge 22, 3) := by decide +kernel
theorem dX7_init_125 : decode cX7_init 125 = .ok (.aload_n 0, 1) := by decide +kernel
theorem dX7_init_126 : decode cX7_init 126 = .ok (.getfield 22, 3) := by decide +kernel
theorem dX7_init_129 : decode cX7_init 129 = .ok (.iload_n 1, 1) := by decide +kernel
theorem dX7_init_130 : decode cX7_init 130 = .ok (.new 7, 3) := by decide +kernel
theorem dX7_init_133 : decode cX7_init 133 = .ok (.dup, 1) := by decide +kernel
theorem dX7_init_134 : decode cX7_init 134 = .ok (.invokespecial 9, 3) := by decide +kernel
theorem dX7_init_137 : decode cX7_init 137 = .ok (.aastore, 1) := by decide +kernel
theorem dX7_init_138 : decode cX7_init 138 = .ok (.iinc 1 1, 3) := by decide +kernel
theorem dX7_init_141 : decode cX7_init 141 = .ok (.goto (-22), 3) := by decide +kernel
theorem dX7_init_144 : decode cX7_init 144 = .ok (.iconst 0, 1) := by decide +kernel
theorem dX7_init_145 : decode cX7_init 145 = .ok (.istore_n 1, 1) := by decide +kernel
theorem dX7_init_146 : decode cX7_init 146 = .ok (.iload_n 1, 1) := by decide +kernel
theorem dX7_init_147 : decode cX7_init 147 = .ok (.bipush 20, 2) := by decide +kernel
theorem dX7_init_149 : decode cX7_init 149 = .ok (.if_icmp .ge 22, 3) := by decide +kernel
theorem dX7_init_152 : decode cX7_init 152 = .ok (.aload_n 0, 1) := by decide +kernel
theorem dX7_init_153 : decode cX7_init 153 = .ok (.getfield 44, 3) := by decide +kernel
theorem dX7_init_156 : decode cX7_init 156 = .ok (.iload_n 1, 1) := by decide +kernel
theorem dX7_init_157 : decode cX7_init 157 = .ok (.new 42, 3) := by decide +kernel
theorem dX7_init_160 : decode cX7_init 160 = .ok (.dup, 1) := by decide +kernel
theorem dX7_init_161 : decode cX7_init 161 = .ok (.invokespecial 48, 3) := by decide +kernel
theorem dX7_init_164 : decode cX7_init 164 = .ok (.aastore, 1) := by decide +kernel
theorem dX7_init_165 : decode cX7_init 165 = .ok (.iinc 1 1, 3) := by decide +kernel
theorem dX7_init_168 : decode cX7_init 168 = .ok (.goto (-22), 3) := by decide +kernel
theorem dX7_init_171 : decode cX7_init 171 = .ok (.aload_n 0, 1) := by decide +kernel
theorem dX7_init_172 : decode cX7_init 172 = .ok (.getfield 10, 3) := by decide +kernel
theorem dX7_init_175 : decode cX7_init 175 = .ok (.getstatic 69, 3) := by decide +kernel
theorem dX7_init_178 : decode cX7_init 178 = .ok (.iconst 0, 1) := by decide +kernel
theorem dX7_init_179 : decode cX7_init 179 = .ok (.invokevirtual 73, 3) := by decide +kernel
theorem dX7_init_182 : decode cX7_init 182 = .ok (.aload_n 0, 1) := by decide +kernel
theorem dX7_init_183 : decode cX7_init 183 = .ok (.getfield 10, 3) := by decide +kernel
theorem dX7_init_186 : decode cX7_init 186 = .ok (.getstatic 77, 3) := by decide +kernel
theorem dX7_init_189 : decode cX7_init 189 = .ok (.iconst 1, 1) := by decide +kernel
theorem dX7_init_190 : decode cX7_init 190 = .ok (.invokevirtual 73, 3) := by decide +kernel
theorem dX7_init_193 : decode cX7_init 193 = .ok (.aload_n 0, 1) := by decide +kernel
theorem dX7_init_194 : decode cX7_init 194 = .ok (.getfield 10, 3) := by decide +kernel
theorem dX7_init_197 : decode cX7_init 197 = .ok (.getstatic 80, 3) := by decide +kernel
theorem dX7_init_200 : decode cX7_init 200 = .ok (.iconst 1, 1) := by decide +kernel
theorem dX7_init_201 : decode cX7_init 201 = .ok (.invokevirtual 73, 3) := by decide +kernel
theorem dX7_init_204 : decode cX7_init 204 = .ok (.aload_n 0, 1) := by decide +kernel
theorem dX7_init_205 : decode cX7_init 205 = .ok (.getfield 10, 3) := by decide +kernel
theorem dX7_init_208 : decode cX7_init 208 = .ok (.invokevirtual 83, 3) := by decide +kernel
theorem dX7_init_211 : decode cX7_init 211 = .ok (.return_, 1) := by decide +kernel
theorem dX7_appendText_0 : decode cX7_appendText 0 = .ok (.aload_n 0, 1) := by decide +kernel
theorem dX7_appendText_1 : decode cX7_appendText 1 = .ok (.getfield 29, 3) := by decide +kernel
theorem dX7_appendText_4 : decode cX7_appendText 4 = .ok (.getfield 86, 3) := by decide +kernel
theorem dX7_appendText_7 : decode cX7_appendText 7 = .ok (.bipush 20, 2) := by decide +kernel
theorem dX7_appendText_9 : decode cX7_appendText 9 = .ok (.iadd, 1) := by decide +kernel
theorem dX7_appendText_10 : decode cX7_appendText 10 = .ok (.sipush 700, 3) := by decide +kernel
theorem dX7_appendText_13 : decode cX7_appendText 13 = .ok (.if_icmp .le 5, 3) := by decide +kernel
theorem dX7_appendText_16 : decode cX7_appendText 16 = .ok (.iconst (-1), 1) := by decide +kernel
theorem dX7_appendText_17 : decode cX7_appendText 17 = .ok (.ireturn, 1) := by decide +kernel
theorem dX7_appendText_18 : decode cX7_appendText 18 = .ok (.aload_n 0, 1) := by decide +kernel
theorem dX7_appendText_19 : decode cX7_appendText 19 = .ok (.getfield 29, 3) := by decide +kernel
theorem dX7_appendText_22 : decode cX7_appendText 22 = .ok (.iload_n 1, 1) := by decide +kernel
theorem dX7_appendText_23 : decode cX7_appendText 23 = .ok (.invokevirtual 90, 3) := by decide +kernel
theorem dX7_appendText_26 : decode cX7_appendText 26 = .ok (.aload_n 0, 1) := by decide +kernel
theorem dX7_appendText_27 : decode cX7_appendText 27 = .ok (.getfield 29, 3) := by decide +kernel
theorem dX7_appendText_30 : decode cX7_appendText 30 = .ok (.iload_n 2, 1) := by decide +kernel
theorem dX7_appendText_31 : decode cX7_appendText 31 = .ok (.invokevirtual 90, 3) := by decide +kernel
theorem dX7_appendText_34 : decode cX7_appendText 34 = .ok (.aload_n 0, 1) := by decide +kernel
theorem dX7_appendText_35 : decode cX7_appendText 35 = .ok (.getfield 29, 3) := by decide +kernel
theorem dX7_appendText_38 : decode cX7_appendText 38 = .ok (.iload_n 3, 1) := by decide +kernel
theorem dX7_appendText_39 : decode cX7_appendText 39 = .ok (.invokevirtual 90, 3) := by decide +kernel
theorem dX7_appendText_42 : decode cX7_appendText 42 = .ok (.aload_n 0, 1) := by decide +kernel
theorem dX7_appendText_43 : decode cX7_appendText 43 = .ok (.getfield 29, 3) := by decide +kernel
theorem dX7_appendText_46 : decode cX7_appendText 46 = .ok (.iload 4, 2) := by decide +kernel
theorem dX7_appendText_48 : decode cX7_appendText 48 = .ok (.invokevirtual 90, 3) := by decide +kernel
theorem dX7_appendText_51 : decode cX7_appendText 51 = .ok (.aload_n 0, 1) := by decide +kernel
theorem dX7_appendText_52 : decode cX7_appendText 52 = .ok (.getfield 29, 3) := by decide +kernel
theorem dX7_appendText_55 : decode cX7_appendText 55 = .ok (.iload 5, 2) := by decide +kernel
theorem dX7_appendText_57 : decode cX7_appendText 57 = .ok (.invokevirtual 90, 3) := by decide +kernel
theorem dX7_appendText_60 : decode cX7_appendText 60 = .ok (.aload_n 0, 1) := by decide +kernel
theorem dX7_appendText_61 : decode cX7_appendText 61 = .ok (.getfield 29, 3) := by decide +kernel
theorem dX7_appendText_64 : decode cX7_appendText 64 = .ok (.getfield 86, 3) := by decide +kernel
theorem dX7_appendText_67 : decode cX7_appendText 67 = .ok (.ireturn, 1) := by decide +kernel
theorem dX7_loadMap_0 : decode cX7_loadMap 0 = .ok (.aload_n 0, 1) := by decide +kernel
theorem dX7_loadMap_1 : decode cX7_loadMap 1 = .ok (.iload_n 1, 1) := by decide +kernel
theorem dX7_loadMap_2 : decode cX7_loadMap 2 = .ok (.invokevirtual 93, 3) := by decide +kernel
theorem dX7_loadMap_5 : decode cX7_loadMap 5 = .ok (.aload_n 0, 1) := by decide +kernel
theorem dX7_loadMap_6 : decode cX7_loadMap 6 = .ok (.getfield 38, 3) := by decide +kernel
theorem dX7_loadMap_9 : decode cX7_loadMap 9 = .ok (.iload_n 1, 1) := by decide +kernel
theorem dX7_loadMap_10 : decode cX7_loadMap 10 = .ok (.aload_n 0, 1) := by decide +kernel
theorem dX7_loadMap_11 : decode cX7_loadMap 11 = .ok (.getfield 16, 3) := by decide +kernel
theorem dX7_loadMap_14 : decode cX7_loadMap 14 = .ok (.invokevirtual 96, 3) := by decide +kernel
theorem dX7_loadMap_17 : decode cX7_loadMap 17 = .ok (.istore_n 2, 1) := by decide +kernel
theorem dX7_loadMap_18 : decode cX7_loadMap 18 = .ok (.aload_n 0, 1) := by decide +kernel
theorem dX7_loadMap_19 : decode cX7_loadMap 19 = .ok (.getfield 29, 3) := by decide +kernel
theorem dX7_loadMap_22 : decode cX7_loadMap 22 = .ok (.iconst 0, 1) := by decide +kernel
theorem dX7_loadMap_23 : decode cX7_loadMap 23 = .ok (.putfield 86, 3) := by decide +kernel
theorem dX7_loadMap_26 : decode cX7_loadMap 26 = .ok (.iload_n 2, 1) := by decide +kernel
theorem dX7_loadMap_27 : decode cX7_loadMap 27 = .ok (.ifCond .ne 5, 3) := by decide +kernel
theorem dX7_loadMap_30 : decode cX7_loadMap 30 = .ok (.iconst (-1), 1) := by decide +kernel
theorem dX7_loadMap_31 : decode cX7_loadMap 31 = .ok (.ireturn, 1) := by decide +kernel
theorem dX7_loadMap_32 : decode cX7_loadMap 32 = .ok (.aload_n 0, 1) := by decide +kernel
theorem dX7_loadMap_33 : decode cX7_loadMap 33 = .ok (.getfield 16, 3) := by decide +kernel
theorem dX7_loadMap_36 : decode cX7_loadMap 36 = .ok (.invokevirtual 83, 3) := by decide +kernel
theorem dX7_loadMap_39 : decode cX7_loadMap 39 = .ok (.aload_n 0, 1) := by decide +kernel
theorem dX7_loadMap_40 : decode cX7_loadMap 40 = .ok (.getfield 10, 3) := by decide +kernel
theorem dX7_loadMap_43 : decode cX7_loadMap 43 = .ok (.aload_n 0, 1) := by decide +kernel
theorem dX7_loadMap_44 : decode cX7_loadMap 44 = .ok (.getfield 16, 3) := by decide +kernel
theorem dX7_loadMap_47 : decode cX7_loadMap 47 = .ok (.invokevirtual 100, 3) := by decide +kernel
theorem dX7_loadMap_50 : decode cX7_loadMap 50 = .ok (.aload_n 0, 1) := by decide +kernel
theorem dX7_loadMap_51 : decode cX7_loadMap 51 = .ok (.iconst 0, 1) := by decide +kernel
theorem dX7_loadMap_52 : decode cX7_loadMap 52 = .ok (.putfield 104, 3) := by decide +kernel
theorem dX7_loadMap_55 : decode cX7_loadMap 55 = .ok (.aload_n 0, 1) := by decide +kernel
theorem dX7_loadMap_56 : decode cX7_loadMap 56 = .ok (.iconst 0, 1) := by decide +kernel
theorem dX7_loadMap_57 : decode cX7_loadMap 57 = .ok (.putfield 107, 3) := by decide +kernel
theorem dX7_loadMap_60 : decode cX7_loadMap 60 = .ok (.aload_n 0, 1) := by decide +kernel
theorem dX7_loadMap_61 : decode cX7_loadMap 61 = .ok (.getfield 10, 3) := by decide +kernel
theorem dX7_loadMap_64 : decode cX7_loadMap 64 = .ok (.getfield 111, 3) := by decide +kernel
theorem dX7_loadMap_67 : decode cX7_loadMap 67 = .ok (.ireturn, 1) := by decide +kernel
theorem dX7_errorCode_0 : decode cX7_errorCode 0 = .ok (.aload_n 0, 1) := by decide +kernel
theorem dX7_errorCode_1 : decode cX7_errorCode 1 = .ok (.getfield 38, 3) := by decide +kernel
theorem dX7_errorCode_4 : decode cX7_errorCode 4 = .ok (.getfield 114, 3) := by decide +kernel
theorem dX7_errorCode_7 : decode cX7_errorCode 7 = .ok (.ireturn, 1) := by decide +kernel
theorem dX7_coastCount_0 : decode cX7_coastCount 0 = .ok (.aload_n 0, 1) := by decide +kernel
theorem dX7_coastCount_1 : decode cX7_coastCount 1 = .ok (.getfield 10, 3) := by decide +kernel
theorem dX7_coastCount_4 : decode cX7_coastCount 4 = .ok (.getfield 111, 3) := by decide +kernel
theorem dX7_coastCount_7 : decode cX7_coastCount 7 = .ok (.ireturn, 1) := by decide +kernel
theorem dX7_usesKingMetric_0 : decode cX7_usesKingMetric 0 = .ok (.aload_n 0, 1) := by decide +kernel
theorem dX7_usesKingMetric_1 : decode cX7_usesKingMetric 1 = .ok (.getfield 10, 3) := by decide +kernel
theorem dX7_usesKingMetric_4 : decode cX7_usesKingMetric 4 = .ok (.getfield 120, 3) := by decide +kernel
theorem dX7_usesKingMetric_7 : decode cX7_usesKingMetric 7 = .ok (.ireturn, 1) := by decide +kernel
theorem dX7_isIsland_0 : decode cX7_isIsland 0 = .ok (.aload_n 0, 1) := by decide +kernel
theorem dX7_isIsland_1 : decode cX7_isIsland 1 = .ok (.iload_n 1, 1) := by decide +kernel
theorem dX7_isIsland_2 : decode cX7_isIsland 2 = .ok (.invokevirtual 123, 3) := by decide +kernel
theorem dX7_isIsland_5 : decode cX7_isIsland 5 = .ok (.getfield 127, 3) := by decide +kernel
theorem dX7_isIsland_8 : decode cX7_isIsland 8 = .ok (.ireturn, 1) := by decide +kernel
theorem dX7_pointCount_0 : decode cX7_pointCount 0 = .ok (.aload_n 0, 1) := by decide +kernel
theorem dX7_pointCount_1 : decode cX7_pointCount 1 = .ok (.iload_n 1, 1) := by decide +kernel
theorem dX7_pointCount_2 : decode cX7_pointCount 2 = .ok (.invokevirtual 123, 3) := by decide +kernel
theorem dX7_pointCount_5 : decode cX7_pointCount 5 = .ok (.getfield 130, 3) := by decide +kernel
theorem dX7_pointCount_8 : decode cX7_pointCount 8 = .ok (.ireturn, 1) := by decide +kernel
theorem dX7_pointX_0 : decode cX7_pointX 0 = .ok (.aload_n 0, 1) := by decide +kernel
theorem dX7_pointX_1 : decode cX7_pointX 1 = .ok (.iload_n 1, 1) := by decide +kernel
theorem dX7_pointX_2 : decode cX7_pointX 2 = .ok (.iload_n 2, 1) := by decide +kernel
theorem dX7_pointX_3 : decode cX7_pointX 3 = .ok (.invokevirtual 131, 3) := by decide +kernel
theorem dX7_pointX_6 : decode cX7_pointX 6 = .ok (.getfield 135, 3) := by decide +kernel
theorem dX7_pointX_9 : decode cX7_pointX 9 = .ok (.iload_n 2, 1) := by decide +kernel
theorem dX7_pointX_10 : decode cX7_pointX 10 = .ok (.iaload, 1) := by decide +kernel
theorem dX7_pointX_11 : decode cX7_pointX 11 = .ok (.ireturn, 1) := by decide +kernel
theorem dX7_pointY_0 : decode cX7_pointY 0 = .ok (.aload_n 0, 1) := by decide +kernel
theorem dX7_pointY_1 : decode cX7_pointY 1 = .ok (.iload_n 1, 1) := by decide +kernel
theorem dX7_pointY_2 : decode cX7_pointY 2 = .ok (.iload_n 2, 1) := by decide +kernel
theorem dX7_pointY_3 : decode cX7_pointY 3 = .ok (.invokevirtual 131, 3) := by decide +kernel
theorem dX7_pointY_6 : decode cX7_pointY 6 = .ok (.getfield 138, 3) := by decide +kernel
theorem dX7_pointY_9 : decode cX7_pointY 9 = .ok (.iload_n 2, 1) := by decide +kernel
theorem dX7_pointY_10 : decode cX7_pointY 10 = .ok (.iaload, 1) := by decide +kernel
theorem dX7_pointY_11 : decode cX7_pointY 11 = .ok (.ireturn, 1) := by decide +kernel
theorem dX7_pointDistance_0 : decode cX7_pointDistance 0 = .ok (.aload_n 0, 1) := by decide +kernel
theorem dX7_pointDistance_1 : decode cX7_pointDistance 1 = .ok (.iload_n 1, 1) := by decide +kernel
theorem dX7_pointDistance_2 : decode cX7_pointDistance 2 = .ok (.iload_n 2, 1) := by decide +kernel
theorem dX7_pointDistance_3 : decode cX7_pointDistance 3 = .ok (.invokevirtual 131, 3) := by decide +kernel
theorem dX7_pointDistance_6 : decode cX7_pointDistance 6 = .ok (.pop, 1) := by decide +kernel
theorem dX7_pointDistance_7 : decode cX7_pointDistance 7 = .ok (.aload_n 0, 1) := by decide +kernel
theorem dX7_pointDistance_8 : decode cX7_pointDistance 8 = .ok (.iload_n 1, 1) := by decide +kernel
theorem dX7_pointDistance_9 : decode cX7_pointDistance 9 = .ok (.iload_n 3, 1) := by decide +kernel
theorem dX7_pointDistance_10 : decode cX7_pointDistance 10 = .ok (.invokevirtual 131, 3) := by decide +kernel
theorem dX7_pointDistance_13 : decode cX7_pointDistance 13 = .ok (.iload_n 2, 1) := by decide +kernel
theorem dX7_pointDistance_14 : decode cX7_pointDistance 14 = .ok (.iload_n 3, 1) := by decide +kernel
theorem dX7_pointDistance_15 : decode cX7_pointDistance 15 = .ok (.aload_n 0, 1) := by decide +kernel
theorem dX7_pointDistance_16 : decode cX7_pointDistance 16 = .ok (.getfield 10, 3) := by decide +kernel
theorem dX7_pointDistance_19 : decode cX7_pointDistance 19 = .ok (.getfield 120, 3) := by decide +kernel
theorem dX7_pointDistance_22 : decode cX7_pointDistance 22 = .ok (.invokevirtual 141, 3) := by decide +kernel
theorem dX7_pointDistance_25 : decode cX7_pointDistance 25 = .ok (.ireturn, 1) := by decide +kernel
theorem dX7_nearestPoint_0 : decode cX7_nearestPoint 0 = .ok (.aload_n 0, 1) := by decide +kernel
theorem dX7_nearestPoint_1 : decode cX7_nearestPoint 1 = .ok (.iload_n 1, 1) := by decide +kernel
theorem dX7_nearestPoint_2 : decode cX7_nearestPoint 2 = .ok (.invokevirtual 123, 3) := by decide +kernel
theorem dX7_nearestPoint_5 : decode cX7_nearestPoint 5 = .ok (.astore 4, 2) := by decide +kernel
theorem dX7_nearestPoint_7 : decode cX7_nearestPoint 7 = .ok (.iload_n 2, 1) := by decide +kernel
theorem dX7_nearestPoint_8 : decode cX7_nearestPoint 8 = .ok (.sipush (-1000), 3) := by decide +kernel
theorem dX7_nearestPoint_11 : decode cX7_nearestPoint 11 = .ok (.sipush 1000, 3) := by decide +kernel
theorem dX7_nearestPoint_14 : decode cX7_nearestPoint 14 = .ok (.invokestatic 145, 3) := by decide +kernel
theorem dX7_nearestPoint_17 : decode cX7_nearestPoint 17 = .ok (.iload_n 3, 1) := by decide +kernel
theorem dX7_nearestPoint_18 : decode cX7_nearestPoint 18 = .ok (.sipush (-1000), 3) := by decide +kernel
theorem dX7_nearestPoint_21 : decode cX7_nearestPoint 21 = .ok (.sipush 1000, 3) := by decide +kernel
theorem dX7_nearestPoint_24 : decode cX7_nearestPoint 24 = .ok (.invokestatic 145, 3) := by decide +kernel
theorem dX7_nearestPoint_27 : decode cX7_nearestPoint 27 = .ok (.aload 4, 2) := by decide +kernel
theorem dX7_nearestPoint_29 : decode cX7_nearestPoint 29 = .ok (.iload_n 2, 1) := by decide +kernel
theorem dX7_nearestPoint_30 : decode cX7_nearestPoint 30 = .ok (.iload_n 3, 1) := by decide +kernel
theorem dX7_nearestPoint_31 : decode cX7_nearestPoint 31 = .ok (.aload_n 0, 1) := by decide +kernel
theorem dX7_nearestPoint_32 : decode cX7_nearestPoint 32 = .ok (.getfield 10, 3) := by decide +kernel
theorem dX7_nearestPoint_35 : decode cX7_nearestPoint 35 = .ok (.getfield 120, 3) := by decide +kernel
theorem dX7_nearestPoint_38 : decode cX7_nearestPoint 38 = .ok (.invokevirtual 149, 3) := by decide +kernel
theorem dX7_nearestPoint_41 : decode cX7_nearestPoint 41 = .ok (.ireturn, 1) := by decide +kernel
theorem dX7_lengthAt_0 : decode cX7_lengthAt 0 = .ok (.aload_n 0, 1) := by decide +kernel
theorem dX7_lengthAt_1 : decode cX7_lengthAt 1 = .ok (.iload_n 1, 1) := by decide +kernel
theorem dX7_lengthAt_2 : decode cX7_lengthAt 2 = .ok (.invokevirtual 123, 3) := by decide +kernel
theorem dX7_lengthAt_5 : decode cX7_lengthAt 5 = .ok (.astore_n 3, 1) := by decide +kernel
theorem dX7_lengthAt_6 : decode cX7_lengthAt 6 = .ok (.iload_n 2, 1) := by decide +kernel
theorem dX7_lengthAt_7 : decode cX7_lengthAt 7 = .ok (.iconst 0, 1) := by decide +kernel
theorem dX7_lengthAt_8 : decode cX7_lengthAt 8 = .ok (.bipush 7, 2) := by decide +kernel
theorem dX7_lengthAt_10 : decode cX7_lengthAt 10 = .ok (.invokestatic 145, 3) := by decide +kernel
theorem dX7_lengthAt_13 : decode cX7_lengthAt 13 = .ok (.aload_n 3, 1) := by decide +kernel
theorem dX7_lengthAt_14 : decode cX7_lengthAt 14 = .ok (.iload_n 2, 1) := by decide +kernel
theorem dX7_lengthAt_15 : decode cX7_lengthAt 15 = .ok (.aload_n 0, 1) := by decide +kernel
theorem dX7_lengthAt_16 : decode cX7_lengthAt 16 = .ok (.getfield 10, 3) := by decide +kernel
theorem dX7_lengthAt_19 : decode cX7_lengthAt 19 = .ok (.getfield 120, 3) := by decide +kernel
theorem dX7_lengthAt_22 : decode cX7_lengthAt 22 = .ok (.invokevirtual 152, 3) := by decide +kernel
theorem dX7_lengthAt_25 : decode cX7_lengthAt 25 = .ok (.ireturn, 1) := by decide +kernel
theorem dX7_stickCount_0 : decode cX7_stickCount 0 = .ok (.aload_n 0, 1) := by decide +kernel
theorem dX7_stickCount_1 : decode cX7_stickCount 1 = .ok (.iload_n 1, 1) := by decide +kernel
theorem dX7_stickCount_2 : decode cX7_stickCount 2 = .ok (.invokevirtual 123, 3) := by decide +kernel
theorem dX7_stickCount_5 : decode cX7_stickCount 5 = .ok (.astore_n 3, 1) := by decide +kernel
theorem dX7_stickCount_6 : decode cX7_stickCount 6 = .ok (.iload_n 2, 1) := by decide +kernel
theorem dX7_stickCount_7 : decode cX7_stickCount 7 = .ok (.iconst 0, 1) := by decide +kernel
theorem dX7_stickCount_8 : decode cX7_stickCount 8 = .ok (.bipush 7, 2) := by decide +kernel
theorem dX7_stickCount_10 : decode cX7_stickCount 10 = .ok (.invokestatic 145, 3) := by decide +kernel
theorem dX7_stickCount_13 : decode cX7_stickCount 13 = .ok (.aload_n 3, 1) := by decide +kernel
theorem dX7_stickCount_14 : decode cX7_stickCount 14 = .ok (.iload_n 2, 1) := by decide +kernel
theorem dX7_stickCount_15 : decode cX7_stickCount 15 = .ok (.invokevirtual 156, 3) := by decide +kernel
theorem dX7_stickCount_18 : decode cX7_stickCount 18 = .ok (.ireturn, 1) := by decide +kernel
theorem dX7_stickStart_0 : decode cX7_stickStart 0 = .ok (.aload_n 0, 1) := by decide +kernel
theorem dX7_stickStart_1 : decode cX7_stickStart 1 = .ok (.iload_n 1, 1) := by decide +kernel
theorem dX7_stickStart_2 : decode cX7_stickStart 2 = .ok (.invokevirtual 123, 3) := by decide +kernel
theorem dX7_stickStart_5 : decode cX7_stickStart 5 = .ok (.astore 4, 2) := by decide +kernel
theorem dX7_stickStart_7 : decode cX7_stickStart 7 = .ok (.aload 4, 2) := by decide +kernel
theorem dX7_stickStart_9 : decode cX7_stickStart 9 = .ok (.iload_n 2, 1) := by decide +kernel
theorem dX7_stickStart_10 : decode cX7_stickStart 10 = .ok (.iload_n 3, 1) := by decide +kernel
theorem dX7_stickStart_11 : decode cX7_stickStart 11 = .ok (.invokestatic 160, 3) := by decide +kernel
theorem dX7_stickStart_14 : decode cX7_stickStart 14 = .ok (.aload 4, 2) := by decide +kernel
theorem dX7_stickStart_16 : decode cX7_stickStart 16 = .ok (.iload_n 2, 1) := by decide +kernel
theorem dX7_stickStart_17 : decode cX7_stickStart 17 = .ok (.iload_n 3, 1) := by decide +kernel
theorem dX7_stickStart_18 : decode cX7_stickStart 18 = .ok (.invokevirtual 164, 3) := by decide +kernel
theorem dX7_stickStart_21 : decode cX7_stickStart 21 = .ok (.ireturn, 1) := by decide +kernel
theorem dX7_stickLength_0 : decode cX7_stickLength 0 = .ok (.aload_n 0, 1) := by decide +kernel
theorem dX7_stickLength_1 : decode cX7_stickLength 1 = .ok (.iload_n 1, 1) := by decide +kernel
theorem dX7_stickLength_2 : decode cX7_stickLength 2 = .ok (.invokevirtual 123, 3) := by decide +kernel
theorem dX7_stickLength_5 : decode cX7_stickLength 5 = .ok (.astore 4, 2) := by decide +kernel
theorem dX7_stickLength_7 : decode cX7_stickLength 7 = .ok (.aload 4, 2) := by decide +kernel
theorem dX7_stickLength_9 : decode cX7_stickLength 9 = .ok (.iload_n 2, 1) := by decide +kernel
theorem dX7_stickLength_10 : decode cX7_stickLength 10 = .ok (.iload_n 3, 1) := by decide +kernel
theorem dX7_stickLength_11 : decode cX7_stickLength 11 = .ok (.invokestatic 160, 3) := by decide +kernel
theorem dX7_stickLength_14 : decode cX7_stickLength 14 = .ok (.aload 4, 2) := by decide +kernel
theorem dX7_stickLength_16 : decode cX7_stickLength 16 = .ok (.iload_n 2, 1) := by decide +kernel
theorem dX7_stickLength_17 : decode cX7_stickLength 17 = .ok (.iload_n 3, 1) := by decide +kernel
theorem dX7_stickLength_18 : decode cX7_stickLength 18 = .ok (.aload_n 0, 1) := by decide +kernel
theorem dX7_stickLength_19 : decode cX7_stickLength 19 = .ok (.getfield 10, 3) := by decide +kernel
theorem dX7_stickLength_22 : decode cX7_stickLength 22 = .ok (.getfield 120, 3) := by decide +kernel
theorem dX7_stickLength_25 : decode cX7_stickLength 25 = .ok (.invokevirtual 168, 3) := by decide +kernel
theorem dX7_stickLength_28 : decode cX7_stickLength 28 = .ok (.ireturn, 1) := by decide +kernel
theorem dX7_longestStick_0 : decode cX7_longestStick 0 = .ok (.aload_n 0, 1) := by decide +kernel
theorem dX7_longestStick_1 : decode cX7_longestStick 1 = .ok (.iload_n 1, 1) := by decide +kernel
theorem dX7_longestStick_2 : decode cX7_longestStick 2 = .ok (.invokevirtual 123, 3) := by decide +kernel
theorem dX7_longestStick_5 : decode cX7_longestStick 5 = .ok (.astore_n 3, 1) := by decide +kernel
theorem dX7_longestStick_6 : decode cX7_longestStick 6 = .ok (.iload_n 2, 1) := by decide +kernel
theorem dX7_longestStick_7 : decode cX7_longestStick 7 = .ok (.iconst 0, 1) := by decide +kernel
theorem dX7_longestStick_8 : decode cX7_longestStick 8 = .ok (.bipush 7, 2) := by decide +kernel
theorem dX7_longestStick_10 : decode cX7_longestStick 10 = .ok (.invokestatic 145, 3) := by decide +kernel
theorem dX7_longestStick_13 : decode cX7_longestStick 13 = .ok (.iconst 0, 1) := by decide +kernel
theorem dX7_longestStick_14 : decode cX7_longestStick 14 = .ok (.istore 4, 2) := by decide +kernel
theorem dX7_longestStick_16 : decode cX7_longestStick 16 = .ok (.iconst (-1), 1) := by decide +kernel
theorem dX7_longestStick_17 : decode cX7_longestStick 17 = .ok (.istore 5, 2) := by decide +kernel
theorem dX7_longestStick_19 : decode cX7_longestStick 19 = .ok (.aload_n 3, 1) := by decide +kernel
theorem dX7_longestStick_20 : decode cX7_longestStick 20 = .ok (.iload_n 2, 1) := by decide +kernel
theorem dX7_longestStick_21 : decode cX7_longestStick 21 = .ok (.invokevirtual 156, 3) := by decide +kernel
theorem dX7_longestStick_24 : decode cX7_longestStick 24 = .ok (.istore 6, 2) := by decide +kernel
theorem dX7_longestStick_26 : decode cX7_longestStick 26 = .ok (.iconst 0, 1) := by decide +kernel
theorem dX7_longestStick_27 : decode cX7_longestStick 27 = .ok (.istore 7, 2) := by decide +kernel
theorem dX7_longestStick_29 : decode cX7_longestStick 29 = .ok (.iload 7, 2) := by decide +kernel
theorem dX7_longestStick_31 : decode cX7_longestStick 31 = .ok (.iload 6, 2) := by decide +kernel
theorem dX7_longestStick_33 : decode cX7_longestStick 33 = .ok (.if_icmp .ge 40, 3) := by decide +kernel
theorem dX7_longestStick_36 : decode cX7_longestStick 36 = .ok (.aload_n 3, 1) := by decide +kernel
theorem dX7_longestStick_37 : decode cX7_longestStick 37 = .ok (.iload_n 2, 1) := by decide +kernel
theorem dX7_longestStick_38 : decode cX7_longestStick 38 = .ok (.iload 7, 2) := by decide +kernel
theorem dX7_longestStick_40 : decode cX7_longestStick 40 = .ok (.aload_n 0, 1) := by decide +kernel
theorem dX7_longestStick_41 : decode cX7_longestStick 41 = .ok (.getfield 10, 3) := by decide +kernel
theorem dX7_longestStick_44 : decode cX7_longestStick 44 = .ok (.getfield 120, 3) := by decide +kernel
theorem dX7_longestStick_47 : decode cX7_longestStick 47 = .ok (.invokevirtual 168, 3) := by decide +kernel
theorem dX7_longestStick_50 : decode cX7_longestStick 50 = .ok (.istore 8, 2) := by decide +kernel
theorem dX7_longestStick_52 : decode cX7_longestStick 52 = .ok (.iload 8, 2) := by decide +kernel
theorem dX7_longestStick_54 : decode cX7_longestStick 54 = .ok (.iload 5, 2) := by decide +kernel
theorem dX7_longestStick_56 : decode cX7_longestStick 56 = .ok (.if_icmp .le 11, 3) := by decide +kernel
theorem dX7_longestStick_59 : decode cX7_longestStick 59 = .ok (.iload 7, 2) := by decide +kernel
theorem dX7_longestStick_61 : decode cX7_longestStick 61 = .ok (.istore 4, 2) := by decide +kernel
theorem dX7_longestStick_63 : decode cX7_longestStick 63 = .ok (.iload 8, 2) := by decide +kernel
theorem dX7_longestStick_65 : decode cX7_longestStick 65 = .ok (.istore 5, 2) := by decide +kernel
theorem dX7_longestStick_67 : decode cX7_longestStick 67 = .ok (.iinc 7 1, 3) := by decide +kernel
theorem dX7_longestStick_70 : decode cX7_longestStick 70 = .ok (.goto (-41), 3) := by decide +kernel
theorem dX7_longestStick_73 : decode cX7_longestStick 73 = .ok (.iload 4, 2) := by decide +kernel
theorem dX7_longestStick_75 : decode cX7_longestStick 75 = .ok (.ireturn, 1) := by decide +kernel
theorem dX7_lengthGain_0 : decode cX7_lengthGain 0 = .ok (.aload_n 0, 1) := by decide +kernel
theorem dX7_lengthGain_1 : decode cX7_lengthGain 1 = .ok (.iload_n 1, 1) := by decide +kernel
theorem dX7_lengthGain_2 : decode cX7_lengthGain 2 = .ok (.invokevirtual 123, 3) := by decide +kernel
theorem dX7_lengthGain_5 : decode cX7_lengthGain 5 = .ok (.astore_n 3, 1) := by decide +kernel
theorem dX7_lengthGain_6 : decode cX7_lengthGain 6 = .ok (.iload_n 2, 1) := by decide +kernel
theorem dX7_lengthGain_7 : decode cX7_lengthGain 7 = .ok (.iconst 0, 1) := by decide +kernel
theorem dX7_lengthGain_8 : decode cX7_lengthGain 8 = .ok (.bipush 6, 2) := by decide +kernel
theorem dX7_lengthGain_10 : decode cX7_lengthGain 10 = .ok (.invokestatic 145, 3) := by decide +kernel
theorem dX7_lengthGain_13 : decode cX7_lengthGain 13 = .ok (.aload_n 3, 1) := by decide +kernel
theorem dX7_lengthGain_14 : decode cX7_lengthGain 14 = .ok (.iload_n 2, 1) := by decide +kernel
theorem dX7_lengthGain_15 : decode cX7_lengthGain 15 = .ok (.aload_n 0, 1) := by decide +kernel
theorem dX7_lengthGain_16 : decode cX7_lengthGain 16 = .ok (.getfield 10, 3) := by decide +kernel
theorem dX7_lengthGain_19 : decode cX7_lengthGain 19 = .ok (.getfield 120, 3) := by decide +kernel
theorem dX7_lengthGain_22 : decode cX7_lengthGain 22 = .ok (.invokevirtual 171, 3) := by decide +kernel
theorem dX7_lengthGain_25 : decode cX7_lengthGain 25 = .ok (.ireturn, 1) := by decide +kernel
theorem dX7_levelOfGreatestGain_0 : decode cX7_levelOfGreatestGain 0 = .ok (.aload_n 0, 1) := by decide +kernel
theorem dX7_levelOfGreatestGain_1 : decode cX7_levelOfGreatestGain 1 = .ok (.iload_n 1, 1) := by decide +kernel
theorem dX7_levelOfGreatestGain_2 : decode cX7_levelOfGreatestGain 2 = .ok (.invokevirtual 123, 3) := by decide +kernel
theorem dX7_levelOfGreatestGain_5 : decode cX7_levelOfGreatestGain 5 = .ok (.astore_n 2, 1) := by decide +kernel
theorem dX7_levelOfGreatestGain_6 : decode cX7_levelOfGreatestGain 6 = .ok (.iconst 0, 1) := by decide +kernel
theorem dX7_levelOfGreatestGain_7 : decode cX7_levelOfGreatestGain 7 = .ok (.istore_n 3, 1) := by decide +kernel
theorem dX7_levelOfGreatestGain_8 : decode cX7_levelOfGreatestGain 8 = .ok (.iconst (-1), 1) := by decide +kernel
theorem dX7_levelOfGreatestGain_9 : decode cX7_levelOfGreatestGain 9 = .ok (.istore 4, 2) := by decide +kernel
theorem dX7_levelOfGreatestGain_11 : decode cX7_levelOfGreatestGain 11 = .ok (.iconst 0, 1) := by decide +kernel
theorem dX7_levelOfGreatestGain_12 : decode cX7_levelOfGreatestGain 12 = .ok (.istore 5, 2) := by decide +kernel
theorem dX7_levelOfGreatestGain_14 : decode cX7_levelOfGreatestGain 14 = .ok (.iload 5, 2) := by decide +kernel
theorem dX7_levelOfGreatestGain_16 : decode cX7_levelOfGreatestGain 16 = .ok (.bipush 7, 2) := by decide +kernel
theorem dX7_levelOfGreatestGain_18 : decode cX7_levelOfGreatestGain 18 = .ok (.if_icmp .ge 38, 3) := by decide +kernel
theorem dX7_levelOfGreatestGain_21 : decode cX7_levelOfGreatestGain 21 = .ok (.aload_n 2, 1) := by decide +kernel
theorem dX7_levelOfGreatestGain_22 : decode cX7_levelOfGreatestGain 22 = .ok (.iload 5, 2) := by decide +kernel
theorem dX7_levelOfGreatestGain_24 : decode cX7_levelOfGreatestGain 24 = .ok (.aload_n 0, 1) := by decide +kernel
theorem dX7_levelOfGreatestGain_25 : decode cX7_levelOfGreatestGain 25 = .ok (.getfield 10, 3) := by decide +kernel
theorem dX7_levelOfGreatestGain_28 : decode cX7_levelOfGreatestGain 28 = .ok (.getfield 120, 3) := by decide +kernel
theorem dX7_levelOfGreatestGain_31 : decode cX7_levelOfGreatestGain 31 = .ok (.invokevirtual 171, 3) := by decide +kernel
theorem dX7_levelOfGreatestGain_34 : decode cX7_levelOfGreatestGain 34 = .ok (.istore 6, 2) := by decide +kernel
theorem dX7_levelOfGreatestGain_36 : decode cX7_levelOfGreatestGain 36 = .ok (.iload 6, 2) := by decide +kernel
theorem dX7_levelOfGreatestGain_38 : decode cX7_levelOfGreatestGain 38 = .ok (.iload 4, 2) := by decide +kernel
theorem dX7_levelOfGreatestGain_40 : decode cX7_levelOfGreatestGain 40 = .ok (.if_icmp .le 10, 3) := by decide +kernel
theorem dX7_levelOfGreatestGain_43 : decode cX7_levelOfGreatestGain 43 = .ok (.iload 5, 2) := by decide +kernel
theorem dX7_levelOfGreatestGain_45 : decode cX7_levelOfGreatestGain 45 = .ok (.istore_n 3, 1) := by decide +kernel
theorem dX7_levelOfGreatestGain_46 : decode cX7_levelOfGreatestGain 46 = .ok (.iload 6, 2) := by decide +kernel
theorem dX7_levelOfGreatestGain_48 : decode cX7_levelOfGreatestGain 48 = .ok (.istore 4, 2) := by decide +kernel
theorem dX7_levelOfGreatestGain_50 : decode cX7_levelOfGreatestGain 50 = .ok (.iinc 5 1, 3) := by decide +kernel
theorem dX7_levelOfGreatestGain_53 : decode cX7_levelOfGreatestGain 53 = .ok (.goto (-39), 3) := by decide +kernel
theorem dX7_levelOfGreatestGain_56 : decode cX7_levelOfGreatestGain 56 = .ok (.iload_n 3, 1) := by decide +kernel
theorem dX7_levelOfGreatestGain_57 : decode cX7_levelOfGreatestGain 57 = .ok (.ireturn, 1) := by decide +kernel
theorem dX7_coarsestLevelFor_0 : decode cX7_coarsestLevelFor 0 = .ok (.aload_n 0, 1) := by decide +kernel
theorem dX7_coarsestLevelFor_1 : decode cX7_coarsestLevelFor 1 = .ok (.iload_n 1, 1) := by decide +kernel
theorem dX7_coarsestLevelFor_2 : decode cX7_coarsestLevelFor 2 = .ok (.invokevirtual 123, 3) := by decide +kernel
theorem dX7_coarsestLevelFor_5 : decode cX7_coarsestLevelFor 5 = .ok (.astore_n 3, 1) := by decide +kernel
theorem dX7_coarsestLevelFor_6 : decode cX7_coarsestLevelFor 6 = .ok (.iload_n 2, 1) := by decide +kernel
theorem dX7_coarsestLevelFor_7 : decode cX7_coarsestLevelFor 7 = .ok (.iconst 0, 1) := by decide +kernel
theorem dX7_coarsestLevelFor_8 : decode cX7_coarsestLevelFor 8 = .ok (.ldc 176, 2) := by decide +kernel
theorem dX7_coarsestLevelFor_10 : decode cX7_coarsestLevelFor 10 = .ok (.invokestatic 145, 3) := by decide +kernel
theorem dX7_coarsestLevelFor_13 : decode cX7_coarsestLevelFor 13 = .ok (.aload_n 3, 1) := by decide +kernel
theorem dX7_coarsestLevelFor_14 : decode cX7_coarsestLevelFor 14 = .ok (.iload_n 2, 1) := by decide +kernel
theorem dX7_coarsestLevelFor_15 : decode cX7_coarsestLevelFor 15 = .ok (.aload_n 0, 1) := by decide +kernel
theorem dX7_coarsestLevelFor_16 : decode cX7_coarsestLevelFor 16 = .ok (.getfield 10, 3) := by decide +kernel
theorem dX7_coarsestLevelFor_19 : decode cX7_coarsestLevelFor 19 = .ok (.getfield 120, 3) := by decide +kernel
theorem dX7_coarsestLevelFor_22 : decode cX7_coarsestLevelFor 22 = .ok (.invokevirtual 177, 3) := by decide +kernel
theorem dX7_coarsestLevelFor_25 : decode cX7_coarsestLevelFor 25 = .ok (.ireturn, 1) := by decide +kernel
theorem dX7_coarsestExactLevel_0 : decode cX7_coarsestExactLevel 0 = .ok (.aload_n 0, 1) := by decide +kernel
theorem dX7_coarsestExactLevel_1 : decode cX7_coarsestExactLevel 1 = .ok (.iload_n 1, 1) := by decide +kernel
theorem dX7_coarsestExactLevel_2 : decode cX7_coarsestExactLevel 2 = .ok (.invokevirtual 123, 3) := by decide +kernel
theorem dX7_coarsestExactLevel_5 : decode cX7_coarsestExactLevel 5 = .ok (.astore_n 2, 1) := by decide +kernel
theorem dX7_coarsestExactLevel_6 : decode cX7_coarsestExactLevel 6 = .ok (.aload_n 2, 1) := by decide +kernel
theorem dX7_coarsestExactLevel_7 : decode cX7_coarsestExactLevel 7 = .ok (.aload_n 2, 1) := by decide +kernel
theorem dX7_coarsestExactLevel_8 : decode cX7_coarsestExactLevel 8 = .ok (.iconst 0, 1) := by decide +kernel
theorem dX7_coarsestExactLevel_9 : decode cX7_coarsestExactLevel 9 = .ok (.aload_n 0, 1) := by decide +kernel
theorem dX7_coarsestExactLevel_10 : decode cX7_coarsestExactLevel 10 = .ok (.getfield 10, 3) := by decide +kernel
theorem dX7_coarsestExactLevel_13 : decode cX7_coarsestExactLevel 13 = .ok (.getfield 120, 3) := by decide +kernel
theorem dX7_coarsestExactLevel_16 : decode cX7_coarsestExactLevel 16 = .ok (.invokevirtual 152, 3) := by decide +kernel
theorem dX7_coarsestExactLevel_19 : decode cX7_coarsestExactLevel 19 = .ok (.aload_n 0, 1) := by decide +kernel
theorem dX7_coarsestExactLevel_20 : decode cX7_coarsestExactLevel 20 = .ok (.getfield 10, 3) := by decide +kernel
theorem dX7_coarsestExactLevel_23 : decode cX7_coarsestExactLevel 23 = .ok (.getfield 120, 3) := by decide +kernel
theorem dX7_coarsestExactLevel_26 : decode cX7_coarsestExactLevel 26 = .ok (.invokevirtual 177, 3) := by decide +kernel
theorem dX7_coarsestExactLevel_29 : decode cX7_coarsestExactLevel 29 = .ok (.ireturn, 1) := by decide +kernel
theorem dX7_totalLength_0 : decode cX7_totalLength 0 = .ok (.iload_n 1, 1) := by decide +kernel
theorem dX7_totalLength_1 : decode cX7_totalLength 1 = .ok (.iconst 0, 1) := by decide +kernel
theorem dX7_totalLength_2 : decode cX7_totalLength 2 = .ok (.bipush 7, 2) := by decide +kernel
theorem dX7_totalLength_4 : decode cX7_totalLength 4 = .ok (.invokestatic 145, 3) := by decide +kernel
theorem dX7_totalLength_7 : decode cX7_totalLength 7 = .ok (.iconst 0, 1) := by decide +kernel
theorem dX7_totalLength_8 : decode cX7_totalLength 8 = .ok (.istore_n 2, 1) := by decide +kernel
theorem dX7_totalLength_9 : decode cX7_totalLength 9 = .ok (.iconst 0, 1) := by decide +kernel
theorem dX7_totalLength_10 : decode cX7_totalLength 10 = .ok (.istore_n 3, 1) := by decide +kernel
theorem dX7_totalLength_11 : decode cX7_totalLength 11 = .ok (.iload_n 3, 1) := by decide +kernel
theorem dX7_totalLength_12 : decode cX7_totalLength 12 = .ok (.aload_n 0, 1) := by decide +kernel
theorem dX7_totalLength_13 : decode cX7_totalLength 13 = .ok (.getfield 10, 3) := by decide +kernel
theorem dX7_totalLength_16 : decode cX7_totalLength 16 = .ok (.getfield 111, 3) := by decide +kernel
theorem dX7_totalLength_19 : decode cX7_totalLength 19 = .ok (.if_icmp .ge 32, 3) := by decide +kernel
theorem dX7_totalLength_22 : decode cX7_totalLength 22 = .ok (.iload_n 2, 1) := by decide +kernel
theorem dX7_totalLength_23 : decode cX7_totalLength 23 = .ok (.aload_n 0, 1) := by decide +kernel
theorem dX7_totalLength_24 : decode cX7_totalLength 24 = .ok (.getfield 10, 3) := by decide +kernel
theorem dX7_totalLength_27 : decode cX7_totalLength 27 = .ok (.getfield 180, 3) := by decide +kernel
theorem dX7_totalLength_30 : decode cX7_totalLength 30 = .ok (.iload_n 3, 1) := by decide +kernel
theorem dX7_totalLength_31 : decode cX7_totalLength 31 = .ok (.aaload, 1) := by decide +kernel
theorem dX7_totalLength_32 : decode cX7_totalLength 32 = .ok (.iload_n 1, 1) := by decide +kernel
theorem dX7_totalLength_33 : decode cX7_totalLength 33 = .ok (.aload_n 0, 1) := by decide +kernel
theorem dX7_totalLength_34 : decode cX7_totalLength 34 = .ok (.getfield 10, 3) := by decide +kernel
theorem dX7_totalLength_37 : decode cX7_totalLength 37 = .ok (.getfield 120, 3) := by decide +kernel
theorem dX7_totalLength_40 : decode cX7_totalLength 40 = .ok (.invokevirtual 152, 3) := by decide +kernel
theorem dX7_totalLength_43 : decode cX7_totalLength 43 = .ok (.iadd, 1) := by decide +kernel
theorem dX7_totalLength_44 : decode cX7_totalLength 44 = .ok (.istore_n 2, 1) := by decide +kernel
theorem dX7_totalLength_45 : decode cX7_totalLength 45 = .ok (.iinc 3 1, 3) := by decide +kernel
theorem dX7_totalLength_48 : decode cX7_totalLength 48 = .ok (.goto (-37), 3) := by decide +kernel
theorem dX7_totalLength_51 : decode cX7_totalLength 51 = .ok (.iload_n 2, 1) := by decide +kernel
theorem dX7_totalLength_52 : decode cX7_totalLength 52 = .ok (.ireturn, 1) := by decide +kernel
theorem dX7_longestCoast_0 : decode cX7_longestCoast 0 = .ok (.iload_n 1, 1) := by decide +kernel
theorem dX7_longestCoast_1 : decode cX7_longestCoast 1 = .ok (.iconst 0, 1) := by decide +kernel
theorem dX7_longestCoast_2 : decode cX7_longestCoast 2 = .ok (.bipush 7, 2) := by decide +kernel
theorem dX7_longestCoast_4 : decode cX7_longestCoast 4 = .ok (.invokestatic 145, 3) := by decide +kernel
theorem dX7_longestCoast_7 : decode cX7_longestCoast 7 = .ok (.iconst (-1), 1) := by decide +kernel
theorem dX7_longestCoast_8 : decode cX7_longestCoast 8 = .ok (.istore_n 2, 1) := by decide +kernel
theorem dX7_longestCoast_9 : decode cX7_longestCoast 9 = .ok (.iconst (-1), 1) := by decide +kernel
theorem dX7_longestCoast_10 : decode cX7_longestCoast 10 = .ok (.istore_n 3, 1) := by decide +kernel
theorem dX7_longestCoast_11 : decode cX7_longestCoast 11 = .ok (.iconst 0, 1) := by decide +kernel
theorem dX7_longestCoast_12 : decode cX7_longestCoast 12 = .ok (.istore 4, 2) := by decide +kernel
theorem dX7_longestCoast_14 : decode cX7_longestCoast 14 = .ok (.iload 4, 2) := by decide +kernel
theorem dX7_longestCoast_16 : decode cX7_longestCoast 16 = .ok (.aload_n 0, 1) := by decide +kernel
theorem dX7_longestCoast_17 : decode cX7_longestCoast 17 = .ok (.getfield 10, 3) := by decide +kernel
theorem dX7_longestCoast_20 : decode cX7_longestCoast 20 = .ok (.getfield 111, 3) := by decide +kernel
theorem dX7_longestCoast_23 : decode cX7_longestCoast 23 = .ok (.if_icmp .ge 44, 3) := by decide +kernel
theorem dX7_longestCoast_26 : decode cX7_longestCoast 26 = .ok (.aload_n 0, 1) := by decide +kernel
theorem dX7_longestCoast_27 : decode cX7_longestCoast 27 = .ok (.getfield 10, 3) := by decide +kernel
theorem dX7_longestCoast_30 : decode cX7_longestCoast 30 = .ok (.getfield 180, 3) := by decide +kernel
theorem dX7_longestCoast_33 : decode cX7_longestCoast 33 = .ok (.iload 4, 2) := by decide +kernel
theorem dX7_longestCoast_35 : decode cX7_longestCoast 35 = .ok (.aaload, 1) := by decide +kernel
theorem dX7_longestCoast_36 : decode cX7_longestCoast 36 = .ok (.iload_n 1, 1) := by decide +kernel
theorem dX7_longestCoast_37 : decode cX7_longestCoast 37 = .ok (.aload_n 0, 1) := by decide +kernel
theorem dX7_longestCoast_38 : decode cX7_longestCoast 38 = .ok (.getfield 10, 3) := by decide +kernel
theorem dX7_longestCoast_41 : decode cX7_longestCoast 41 = .ok (.getfield 120, 3) := by decide +kernel
theorem dX7_longestCoast_44 : decode cX7_longestCoast 44 = .ok (.invokevirtual 152, 3) := by decide +kernel
theorem dX7_longestCoast_47 : decode cX7_longestCoast 47 = .ok (.istore 5, 2) := by decide +kernel
theorem dX7_longestCoast_49 : decode cX7_longestCoast 49 = .ok (.iload 5, 2) := by decide +kernel
theorem dX7_longestCoast_51 : decode cX7_longestCoast 51 = .ok (.iload_n 3, 1) := by decide +kernel
theorem dX7_longestCoast_52 : decode cX7_longestCoast 52 = .ok (.if_icmp .le 9, 3) := by decide +kernel
theorem dX7_longestCoast_55 : decode cX7_longestCoast 55 = .ok (.iload 4, 2) := by decide +kernel
theorem dX7_longestCoast_57 : decode cX7_longestCoast 57 = .ok (.istore_n 2, 1) := by decide +kernel
theorem dX7_longestCoast_58 : decode cX7_longestCoast 58 = .ok (.iload 5, 2) := by decide +kernel
theorem dX7_longestCoast_60 : decode cX7_longestCoast 60 = .ok (.istore_n 3, 1) := by decide +kernel
theorem dX7_longestCoast_61 : decode cX7_longestCoast 61 = .ok (.iinc 4 1, 3) := by decide +kernel
theorem dX7_longestCoast_64 : decode cX7_longestCoast 64 = .ok (.goto (-50), 3) := by decide +kernel
theorem dX7_longestCoast_67 : decode cX7_longestCoast 67 = .ok (.iload_n 2, 1) := by decide +kernel
theorem dX7_longestCoast_68 : decode cX7_longestCoast 68 = .ok (.ireturn, 1) := by decide +kernel
theorem dX7_doubledArea_0 : decode cX7_doubledArea 0 = .ok (.aload_n 0, 1) := by decide +kernel
theorem dX7_doubledArea_1 : decode cX7_doubledArea 1 = .ok (.iload_n 1, 1) := by decide +kernel
theorem dX7_doubledArea_2 : decode cX7_doubledArea 2 = .ok (.invokevirtual 184, 3) := by decide +kernel
theorem dX7_doubledArea_5 : decode cX7_doubledArea 5 = .ok (.invokevirtual 187, 3) := by decide +kernel
theorem dX7_doubledArea_8 : decode cX7_doubledArea 8 = .ok (.invokestatic 191, 3) := by decide +kernel
theorem dX7_doubledArea_11 : decode cX7_doubledArea 11 = .ok (.ireturn, 1) := by decide +kernel
theorem dX7_contains_0 : decode cX7_contains 0 = .ok (.aload_n 0, 1) := by decide +kernel
theorem dX7_contains_1 : decode cX7_contains 1 = .ok (.iload_n 1, 1) := by decide +kernel
theorem dX7_contains_2 : decode cX7_contains 2 = .ok (.invokevirtual 184, 3) := by decide +kernel
theorem dX7_contains_5 : decode cX7_contains 5 = .ok (.astore 4, 2) := by decide +kernel
theorem dX7_contains_7 : decode cX7_contains 7 = .ok (.iload_n 2, 1) := by decide +kernel
theorem dX7_contains_8 : decode cX7_contains 8 = .ok (.sipush (-1000), 3) := by decide +kernel
theorem dX7_contains_11 : decode cX7_contains 11 = .ok (.sipush 1000, 3) := by decide +kernel
theorem dX7_contains_14 : decode cX7_contains 14 = .ok (.invokestatic 145, 3) := by decide +kernel
theorem dX7_contains_17 : decode cX7_contains 17 = .ok (.iload_n 3, 1) := by decide +kernel
theorem dX7_contains_18 : decode cX7_contains 18 = .ok (.sipush (-1000), 3) := by decide +kernel
theorem dX7_contains_21 : decode cX7_contains 21 = .ok (.sipush 1000, 3) := by decide +kernel
theorem dX7_contains_24 : decode cX7_contains 24 = .ok (.invokestatic 145, 3) := by decide +kernel
theorem dX7_contains_27 : decode cX7_contains 27 = .ok (.aload 4, 2) := by decide +kernel
theorem dX7_contains_29 : decode cX7_contains 29 = .ok (.iload_n 2, 1) := by decide +kernel
theorem dX7_contains_30 : decode cX7_contains 30 = .ok (.iload_n 3, 1) := by decide +kernel
theorem dX7_contains_31 : decode cX7_contains 31 = .ok (.invokevirtual 196, 3) := by decide +kernel
theorem dX7_contains_34 : decode cX7_contains 34 = .ok (.ireturn, 1) := by decide +kernel
theorem dX7_encloses_0 : decode cX7_encloses 0 = .ok (.aload_n 0, 1) := by decide +kernel
theorem dX7_encloses_1 : decode cX7_encloses 1 = .ok (.iload_n 2, 1) := by decide +kernel
theorem dX7_encloses_2 : decode cX7_encloses 2 = .ok (.invokevirtual 123, 3) := by decide +kernel
theorem dX7_encloses_5 : decode cX7_encloses 5 = .ok (.astore_n 3, 1) := by decide +kernel
theorem dX7_encloses_6 : decode cX7_encloses 6 = .ok (.aload_n 0, 1) := by decide +kernel
theorem dX7_encloses_7 : decode cX7_encloses 7 = .ok (.iload_n 1, 1) := by decide +kernel
theorem dX7_encloses_8 : decode cX7_encloses 8 = .ok (.invokevirtual 184, 3) := by decide +kernel
theorem dX7_encloses_11 : decode cX7_encloses 11 = .ok (.astore 4, 2) := by decide +kernel
theorem dX7_encloses_13 : decode cX7_encloses 13 = .ok (.iload_n 1, 1) := by decide +kernel
theorem dX7_encloses_14 : decode cX7_encloses 14 = .ok (.iload_n 2, 1) := by decide +kernel
theorem dX7_encloses_15 : decode cX7_encloses 15 = .ok (.if_icmp .eq 16, 3) := by decide +kernel
theorem dX7_encloses_18 : decode cX7_encloses 18 = .ok (.aload 4, 2) := by decide +kernel
theorem dX7_encloses_20 : decode cX7_encloses 20 = .ok (.aload_n 3, 1) := by decide +kernel
theorem dX7_encloses_21 : decode cX7_encloses 21 = .ok (.invokevirtual 200, 3) := by decide +kernel
theorem dX7_encloses_24 : decode cX7_encloses 24 = .ok (.ifCond .eq 7, 3) := by decide +kernel
theorem dX7_encloses_27 : decode cX7_encloses 27 = .ok (.iconst 1, 1) := by decide +kernel
theorem dX7_encloses_28 : decode cX7_encloses 28 = .ok (.goto 4, 3) := by decide +kernel
theorem dX7_encloses_31 : decode cX7_encloses 31 = .ok (.iconst 0, 1) := by decide +kernel
theorem dX7_encloses_32 : decode cX7_encloses 32 = .ok (.ireturn, 1) := by decide +kernel
theorem dX7_innermostIslandAround_0 : decode cX7_innermostIslandAround 0 = .ok (.aload_n 0, 1) := by decide +kernel
theorem dX7_innermostIslandAround_1 : decode cX7_innermostIslandAround 1 = .ok (.iload_n 1, 1) := by decide +kernel
theorem dX7_innermostIslandAround_2 : decode cX7_innermostIslandAround 2 = .ok (.invokevirtual 123, 3) := by decide +kernel
theorem dX7_innermostIslandAround_5 : decode cX7_innermostIslandAround 5 = .ok (.pop, 1) := by decide +kernel
theorem dX7_innermostIslandAround_6 : decode cX7_innermostIslandAround 6 = .ok (.iconst (-1), 1) := by decide +kernel
theorem dX7_innermostIslandAround_7 : decode cX7_innermostIslandAround 7 = .ok (.istore_n 2, 1) := by decide +kernel
theorem dX7_innermostIslandAround_8 : decode cX7_innermostIslandAround 8 = .ok (.iconst 0, 1) := by decide +kernel
theorem dX7_innermostIslandAround_9 : decode cX7_innermostIslandAround 9 = .ok (.istore_n 3, 1) := by decide +kernel
theorem dX7_innermostIslandAround_10 : decode cX7_innermostIslandAround 10 = .ok (.iconst 0, 1) := by decide +kernel
theorem dX7_innermostIslandAround_11 : decode cX7_innermostIslandAround 11 = .ok (.istore 4, 2) := by decide +kernel
theorem dX7_innermostIslandAround_13 : decode cX7_innermostIslandAround 13 = .ok (.iload 4, 2) := by decide +kernel
theorem dX7_innermostIslandAround_15 : decode cX7_innermostIslandAround 15 = .ok (.aload_n 0, 1) := by decide +kernel
theorem dX7_innermostIslandAround_16 : decode cX7_innermostIslandAround 16 = .ok (.getfield 10, 3) := by decide +kernel
theorem dX7_innermostIslandAround_19 : decode cX7_innermostIslandAround 19 = .ok (.getfield 111, 3) := by decide +kernel
theorem dX7_innermostIslandAround_22 : decode cX7_innermostIslandAround 22 = .ok (.if_icmp .ge 56, 3) := by decide +kernel
theorem dX7_innermostIslandAround_25 : decode cX7_innermostIslandAround 25 = .ok (.aload_n 0, 1) := by decide +kernel
theorem dX7_innermostIslandAround_26 : decode cX7_innermostIslandAround 26 = .ok (.getfield 10, 3) := by decide +kernel
theorem dX7_innermostIslandAround_29 : decode cX7_innermostIslandAround 29 = .ok (.iload 4, 2) := by decide +kernel
theorem dX7_innermostIslandAround_31 : decode cX7_innermostIslandAround 31 = .ok (.iload_n 1, 1) := by decide +kernel
theorem dX7_innermostIslandAround_32 : decode cX7_innermostIslandAround 32 = .ok (.invokevirtual 204, 3) := by decide +kernel
theorem dX7_innermostIslandAround_35 : decode cX7_innermostIslandAround 35 = .ok (.ifCond .eq 37, 3) := by decide +kernel
theorem dX7_innermostIslandAround_38 : decode cX7_innermostIslandAround 38 = .ok (.aload_n 0, 1) := by decide +kernel
theorem dX7_innermostIslandAround_39 : decode cX7_innermostIslandAround 39 = .ok (.getfield 10, 3) := by decide +kernel
theorem dX7_innermostIslandAround_42 : decode cX7_innermostIslandAround 42 = .ok (.getfield 180, 3) := by decide +kernel
theorem dX7_innermostIslandAround_45 : decode cX7_innermostIslandAround 45 = .ok (.iload 4, 2) := by decide +kernel
theorem dX7_innermostIslandAround_47 : decode cX7_innermostIslandAround 47 = .ok (.aaload, 1) := by decide +kernel
theorem dX7_innermostIslandAround_48 : decode cX7_innermostIslandAround 48 = .ok (.invokevirtual 187, 3) := by decide +kernel
theorem dX7_innermostIslandAround_51 : decode cX7_innermostIslandAround 51 = .ok (.invokestatic 191, 3) := by decide +kernel
theorem dX7_innermostIslandAround_54 : decode cX7_innermostIslandAround 54 = .ok (.istore 5, 2) := by decide +kernel
theorem dX7_innermostIslandAround_56 : decode cX7_innermostIslandAround 56 = .ok (.iload_n 2, 1) := by decide +kernel
theorem dX7_innermostIslandAround_57 : decode cX7_innermostIslandAround 57 = .ok (.ifCond .lt 9, 3) := by decide +kernel
theorem dX7_innermostIslandAround_60 : decode cX7_innermostIslandAround 60 = .ok (.iload 5, 2) := by decide +kernel
theorem dX7_innermostIslandAround_62 : decode cX7_innermostIslandAround 62 = .ok (.iload_n 3, 1) := by decide +kernel
theorem dX7_innermostIslandAround_63 : decode cX7_innermostIslandAround 63 = .ok (.if_icmp .ge 9, 3) := by decide +kernel
theorem dX7_innermostIslandAround_66 : decode cX7_innermostIslandAround 66 = .ok (.iload 4, 2) := by decide +kernel
theorem dX7_innermostIslandAround_68 : decode cX7_innermostIslandAround 68 = .ok (.istore_n 2, 1) := by decide +kernel
theorem dX7_innermostIslandAround_69 : decode cX7_innermostIslandAround 69 = .ok (.iload 5, 2) := by decide +kernel
theorem dX7_innermostIslandAround_71 : decode cX7_innermostIslandAround 71 = .ok (.istore_n 3, 1) := by decide +kernel
theorem dX7_innermostIslandAround_72 : decode cX7_innermostIslandAround 72 = .ok (.iinc 4 1, 3) := by decide +kernel
theorem dX7_innermostIslandAround_75 : decode cX7_innermostIslandAround 75 = .ok (.goto (-62), 3) := by decide +kernel
theorem dX7_innermostIslandAround_78 : decode cX7_innermostIslandAround 78 = .ok (.iload_n 2, 1) := by decide +kernel
theorem dX7_innermostIslandAround_79 : decode cX7_innermostIslandAround 79 = .ok (.ireturn, 1) := by decide +kernel
theorem dX7_ringDepth_0 : decode cX7_ringDepth 0 = .ok (.aload_n 0, 1) := by decide +kernel
theorem dX7_ringDepth_1 : decode cX7_ringDepth 1 = .ok (.iload_n 1, 1) := by decide +kernel
theorem dX7_ringDepth_2 : decode cX7_ringDepth 2 = .ok (.invokevirtual 123, 3) := by decide +kernel
theorem dX7_ringDepth_5 : decode cX7_ringDepth 5 = .ok (.pop, 1) := by decide +kernel
theorem dX7_ringDepth_6 : decode cX7_ringDepth 6 = .ok (.iconst 0, 1) := by decide +kernel
theorem dX7_ringDepth_7 : decode cX7_ringDepth 7 = .ok (.istore_n 2, 1) := by decide +kernel
theorem dX7_ringDepth_8 : decode cX7_ringDepth 8 = .ok (.iconst 0, 1) := by decide +kernel
theorem dX7_ringDepth_9 : decode cX7_ringDepth 9 = .ok (.istore_n 3, 1) := by decide +kernel
theorem dX7_ringDepth_10 : decode cX7_ringDepth 10 = .ok (.iload_n 3, 1) := by decide +kernel
theorem dX7_ringDepth_11 : decode cX7_ringDepth 11 = .ok (.aload_n 0, 1) := by decide +kernel
theorem dX7_ringDepth_12 : decode cX7_ringDepth 12 = .ok (.getfield 10, 3) := by decide +kernel
theorem dX7_ringDepth_15 : decode cX7_ringDepth 15 = .ok (.getfield 111, 3) := by decide +kernel
theorem dX7_ringDepth_18 : decode cX7_ringDepth 18 = .ok (.if_icmp .ge 24, 3) := by decide +kernel
theorem dX7_ringDepth_21 : decode cX7_ringDepth 21 = .ok (.aload_n 0, 1) := by decide +kernel
theorem dX7_ringDepth_22 : decode cX7_ringDepth 22 = .ok (.getfield 10, 3) := by decide +kernel
theorem dX7_ringDepth_25 : decode cX7_ringDepth 25 = .ok (.iload_n 3, 1) := by decide +kernel
theorem dX7_ringDepth_26 : decode cX7_ringDepth 26 = .ok (.iload_n 1, 1) := by decide +kernel
theorem dX7_ringDepth_27 : decode cX7_ringDepth 27 = .ok (.invokevirtual 204, 3) := by decide +kernel
theorem dX7_ringDepth_30 : decode cX7_ringDepth 30 = .ok (.ifCond .eq 6, 3) := by decide +kernel
theorem dX7_ringDepth_33 : decode cX7_ringDepth 33 = .ok (.iinc 2 1, 3) := by decide +kernel
theorem dX7_ringDepth_36 : decode cX7_ringDepth 36 = .ok (.iinc 3 1, 3) := by decide +kernel
theorem dX7_ringDepth_39 : decode cX7_ringDepth 39 = .ok (.goto (-29), 3) := by decide +kernel
theorem dX7_ringDepth_42 : decode cX7_ringDepth 42 = .ok (.iload_n 2, 1) := by decide +kernel
theorem dX7_ringDepth_43 : decode cX7_ringDepth 43 = .ok (.ireturn, 1) := by decide +kernel
theorem dX7_boxWidth_0 : decode cX7_boxWidth 0 = .ok (.aload_n 0, 1) := by decide +kernel
theorem dX7_boxWidth_1 : decode cX7_boxWidth 1 = .ok (.iload_n 1, 1) := by decide +kernel
theorem dX7_boxWidth_2 : decode cX7_boxWidth 2 = .ok (.invokevirtual 123, 3) := by decide +kernel
theorem dX7_boxWidth_5 : decode cX7_boxWidth 5 = .ok (.astore_n 2, 1) := by decide +kernel
theorem dX7_boxWidth_6 : decode cX7_boxWidth 6 = .ok (.aload_n 2, 1) := by decide +kernel
theorem dX7_boxWidth_7 : decode cX7_boxWidth 7 = .ok (.getfield 135, 3) := by decide +kernel
theorem dX7_boxWidth_10 : decode cX7_boxWidth 10 = .ok (.aload_n 2, 1) := by decide +kernel
theorem dX7_boxWidth_11 : decode cX7_boxWidth 11 = .ok (.getfield 130, 3) := by decide +kernel
theorem dX7_boxWidth_14 : decode cX7_boxWidth 14 = .ok (.invokestatic 207, 3) := by decide +kernel
theorem dX7_boxWidth_17 : decode cX7_boxWidth 17 = .ok (.ireturn, 1) := by decide +kernel
theorem dX7_boxHeight_0 : decode cX7_boxHeight 0 = .ok (.aload_n 0, 1) := by decide +kernel
theorem dX7_boxHeight_1 : decode cX7_boxHeight 1 = .ok (.iload_n 1, 1) := by decide +kernel
theorem dX7_boxHeight_2 : decode cX7_boxHeight 2 = .ok (.invokevirtual 123, 3) := by decide +kernel
theorem dX7_boxHeight_5 : decode cX7_boxHeight 5 = .ok (.astore_n 2, 1) := by decide +kernel
theorem dX7_boxHeight_6 : decode cX7_boxHeight 6 = .ok (.aload_n 2, 1) := by decide +kernel
theorem dX7_boxHeight_7 : decode cX7_boxHeight 7 = .ok (.getfield 138, 3) := by decide +kernel
theorem dX7_boxHeight_10 : decode cX7_boxHeight 10 = .ok (.aload_n 2, 1) := by decide +kernel
theorem dX7_boxHeight_11 : decode cX7_boxHeight 11 = .ok (.getfield 130, 3) := by decide +kernel
theorem dX7_boxHeight_14 : decode cX7_boxHeight 14 = .ok (.invokestatic 207, 3) := by decide +kernel
theorem dX7_boxHeight_17 : decode cX7_boxHeight 17 = .ok (.ireturn, 1) := by decide +kernel
theorem dX7_foldObstacle_0 : decode cX7_foldObstacle 0 = .ok (.aload_n 0, 1) := by decide +kernel
theorem dX7_foldObstacle_1 : decode cX7_foldObstacle 1 = .ok (.iload_n 1, 1) := by decide +kernel
theorem dX7_foldObstacle_2 : decode cX7_foldObstacle 2 = .ok (.invokevirtual 123, 3) := by decide +kernel
theorem dX7_foldObstacle_5 : decode cX7_foldObstacle 5 = .ok (.astore_n 3, 1) := by decide +kernel
theorem dX7_foldObstacle_6 : decode cX7_foldObstacle 6 = .ok (.iload_n 2, 1) := by decide +kernel
theorem dX7_foldObstacle_7 : decode cX7_foldObstacle 7 = .ok (.bipush (-50), 2) := by decide +kernel
theorem dX7_foldObstacle_9 : decode cX7_foldObstacle 9 = .ok (.bipush 50, 2) := by decide +kernel
theorem dX7_foldObstacle_11 : decode cX7_foldObstacle 11 = .ok (.invokestatic 145, 3) := by decide +kernel
theorem dX7_foldObstacle_14 : decode cX7_foldObstacle 14 = .ok (.aload_n 3, 1) := by decide +kernel
theorem dX7_foldObstacle_15 : decode cX7_foldObstacle 15 = .ok (.iload_n 2, 1) := by decide +kernel
theorem dX7_foldObstacle_16 : decode cX7_foldObstacle 16 = .ok (.invokevirtual 211, 3) := by decide +kernel
theorem dX7_foldObstacle_19 : decode cX7_foldObstacle 19 = .ok (.ireturn, 1) := by decide +kernel
theorem dX7_lengthAfterFold_0 : decode cX7_lengthAfterFold 0 = .ok (.aload_n 0, 1) := by decide +kernel
theorem dX7_lengthAfterFold_1 : decode cX7_lengthAfterFold 1 = .ok (.iload_n 1, 1) := by decide +kernel
theorem dX7_lengthAfterFold_2 : decode cX7_lengthAfterFold 2 = .ok (.invokevirtual 123, 3) := by decide +kernel
theorem dX7_lengthAfterFold_5 : decode cX7_lengthAfterFold 5 = .ok (.astore 4, 2) := by decide +kernel
theorem dX7_lengthAfterFold_7 : decode cX7_lengthAfterFold 7 = .ok (.iload_n 2, 1) := by decide +kernel
theorem dX7_lengthAfterFold_8 : decode cX7_lengthAfterFold 8 = .ok (.bipush (-50), 2) := by decide +kernel
theorem dX7_lengthAfterFold_10 : decode cX7_lengthAfterFold 10 = .ok (.bipush 50, 2) := by decide +kernel
theorem dX7_lengthAfterFold_12 : decode cX7_lengthAfterFold 12 = .ok (.invokestatic 145, 3) := by decide +kernel
theorem dX7_lengthAfterFold_15 : decode cX7_lengthAfterFold 15 = .ok (.iload_n 3, 1) := by decide +kernel
theorem dX7_lengthAfterFold_16 : decode cX7_lengthAfterFold 16 = .ok (.iconst 0, 1) := by decide +kernel
theorem dX7_lengthAfterFold_17 : decode cX7_lengthAfterFold 17 = .ok (.bipush 7, 2) := by decide +kernel
theorem dX7_lengthAfterFold_19 : decode cX7_lengthAfterFold 19 = .ok (.invokestatic 145, 3) := by decide +kernel
theorem dX7_lengthAfterFold_22 : decode cX7_lengthAfterFold 22 = .ok (.aload 4, 2) := by decide +kernel
theorem dX7_lengthAfterFold_24 : decode cX7_lengthAfterFold 24 = .ok (.iload_n 2, 1) := by decide +kernel
theorem dX7_lengthAfterFold_25 : decode cX7_lengthAfterFold 25 = .ok (.invokevirtual 211, 3) := by decide +kernel
theorem dX7_lengthAfterFold_28 : decode cX7_lengthAfterFold 28 = .ok (.ifCond .eq 5, 3) := by decide +kernel
theorem dX7_lengthAfterFold_31 : decode cX7_lengthAfterFold 31 = .ok (.iconst (-1), 1) := by decide +kernel
theorem dX7_lengthAfterFold_32 : decode cX7_lengthAfterFold 32 = .ok (.ireturn, 1) := by decide +kernel
theorem dX7_lengthAfterFold_33 : decode cX7_lengthAfterFold 33 = .ok (.aload_n 0, 1) := by decide +kernel
theorem dX7_lengthAfterFold_34 : decode cX7_lengthAfterFold 34 = .ok (.getfield 58, 3) := by decide +kernel
theorem dX7_lengthAfterFold_37 : decode cX7_lengthAfterFold 37 = .ok (.aload 4, 2) := by decide +kernel
theorem dX7_lengthAfterFold_39 : decode cX7_lengthAfterFold 39 = .ok (.invokevirtual 214, 3) := by decide +kernel
theorem dX7_lengthAfterFold_42 : decode cX7_lengthAfterFold 42 = .ok (.aload_n 0, 1) := by decide +kernel
theorem dX7_lengthAfterFold_43 : decode cX7_lengthAfterFold 43 = .ok (.getfield 58, 3) := by decide +kernel
theorem dX7_lengthAfterFold_46 : decode cX7_lengthAfterFold 46 = .ok (.iload_n 2, 1) := by decide +kernel
theorem dX7_lengthAfterFold_47 : decode cX7_lengthAfterFold 47 = .ok (.invokevirtual 217, 3) := by decide +kernel
theorem dX7_lengthAfterFold_50 : decode cX7_lengthAfterFold 50 = .ok (.aload_n 0, 1) := by decide +kernel
theorem dX7_lengthAfterFold_51 : decode cX7_lengthAfterFold 51 = .ok (.getfield 58, 3) := by decide +kernel
theorem dX7_lengthAfterFold_54 : decode cX7_lengthAfterFold 54 = .ok (.iload_n 3, 1) := by decide +kernel
theorem dX7_lengthAfterFold_55 : decode cX7_lengthAfterFold 55 = .ok (.aload_n 0, 1) := by decide +kernel
theorem dX7_lengthAfterFold_56 : decode cX7_lengthAfterFold 56 = .ok (.getfield 10, 3) := by decide +kernel
theorem dX7_lengthAfterFold_59 : decode cX7_lengthAfterFold 59 = .ok (.getfield 120, 3) := by decide +kernel
theorem dX7_lengthAfterFold_62 : decode cX7_lengthAfterFold 62 = .ok (.invokevirtual 152, 3) := by decide +kernel
theorem dX7_lengthAfterFold_65 : decode cX7_lengthAfterFold 65 = .ok (.ireturn, 1) := by decide +kernel
theorem dX7_lengthWithoutPoint_0 : decode cX7_lengthWithoutPoint 0 = .ok (.aload_n 0, 1) := by decide +kernel
theorem dX7_lengthWithoutPoint_1 : decode cX7_lengthWithoutPoint 1 = .ok (.iload_n 1, 1) := by decide +kernel
theorem dX7_lengthWithoutPoint_2 : decode cX7_lengthWithoutPoint 2 = .ok (.iload_n 2, 1) := by decide +kernel
theorem dX7_lengthWithoutPoint_3 : decode cX7_lengthWithoutPoint 3 = .ok (.invokevirtual 131, 3) := by decide +kernel
theorem dX7_lengthWithoutPoint_6 : decode cX7_lengthWithoutPoint 6 = .ok (.iload_n 2, 1) := by decide +kernel
theorem dX7_lengthWithoutPoint_7 : decode cX7_lengthWithoutPoint 7 = .ok (.aload_n 0, 1) := by decide +kernel
theorem dX7_lengthWithoutPoint_8 : decode cX7_lengthWithoutPoint 8 = .ok (.getfield 10, 3) := by decide +kernel
theorem dX7_lengthWithoutPoint_11 : decode cX7_lengthWithoutPoint 11 = .ok (.getfield 120, 3) := by decide +kernel
theorem dX7_lengthWithoutPoint_14 : decode cX7_lengthWithoutPoint 14 = .ok (.invokevirtual 220, 3) := by decide +kernel
theorem dX7_lengthWithoutPoint_17 : decode cX7_lengthWithoutPoint 17 = .ok (.ireturn, 1) := by decide +kernel
theorem dX7_leastImportantPoint_0 : decode cX7_leastImportantPoint 0 = .ok (.aload_n 0, 1) := by decide +kernel
theorem dX7_leastImportantPoint_1 : decode cX7_leastImportantPoint 1 = .ok (.iload_n 1, 1) := by decide +kernel
theorem dX7_leastImportantPoint_2 : decode cX7_leastImportantPoint 2 = .ok (.invokevirtual 123, 3) := by decide +kernel
theorem dX7_leastImportantPoint_5 : decode cX7_leastImportantPoint 5 = .ok (.astore_n 2, 1) := by decide +kernel
theorem dX7_leastImportantPoint_6 : decode cX7_leastImportantPoint 6 = .ok (.iconst (-1), 1) := by decide +kernel
theorem dX7_leastImportantPoint_7 : decode cX7_leastImportantPoint 7 = .ok (.istore_n 3, 1) := by decide +kernel
theorem dX7_leastImportantPoint_8 : decode cX7_leastImportantPoint 8 = .ok (.iconst (-1), 1) := by decide +kernel
theorem dX7_leastImportantPoint_9 : decode cX7_leastImportantPoint 9 = .ok (.istore 4, 2) := by decide +kernel
theorem dX7_leastImportantPoint_11 : decode cX7_leastImportantPoint 11 = .ok (.iconst 0, 1) := by decide +kernel
theorem dX7_leastImportantPoint_12 : decode cX7_leastImportantPoint 12 = .ok (.istore 5, 2) := by decide +kernel
theorem dX7_leastImportantPoint_14 : decode cX7_leastImportantPoint 14 = .ok (.iload 5, 2) := by decide +kernel
theorem dX7_leastImportantPoint_16 : decode cX7_leastImportantPoint 16 = .ok (.aload_n 2, 1) := by decide +kernel
theorem dX7_leastImportantPoint_17 : decode cX7_leastImportantPoint 17 = .ok (.getfield 130, 3) := by decide +kernel
theorem dX7_leastImportantPoint_20 : decode cX7_leastImportantPoint 20 = .ok (.if_icmp .ge 38, 3) := by decide +kernel
theorem dX7_leastImportantPoint_23 : decode cX7_leastImportantPoint 23 = .ok (.aload_n 2, 1) := by decide +kernel
theorem dX7_leastImportantPoint_24 : decode cX7_leastImportantPoint 24 = .ok (.iload 5, 2) := by decide +kernel
theorem dX7_leastImportantPoint_26 : decode cX7_leastImportantPoint 26 = .ok (.aload_n 0, 1) := by decide +kernel
theorem dX7_leastImportantPoint_27 : decode cX7_leastImportantPoint 27 = .ok (.getfield 10, 3) := by decide +kernel
theorem dX7_leastImportantPoint_30 : decode cX7_leastImportantPoint 30 = .ok (.getfield 120, 3) := by decide +kernel
theorem dX7_leastImportantPoint_33 : decode cX7_leastImportantPoint 33 = .ok (.invokevirtual 220, 3) := by decide +kernel
theorem dX7_leastImportantPoint_36 : decode cX7_leastImportantPoint 36 = .ok (.istore 6, 2) := by decide +kernel
theorem dX7_leastImportantPoint_38 : decode cX7_leastImportantPoint 38 = .ok (.iload 6, 2) := by decide +kernel
theorem dX7_leastImportantPoint_40 : decode cX7_leastImportantPoint 40 = .ok (.iload 4, 2) := by decide +kernel
theorem dX7_leastImportantPoint_42 : decode cX7_leastImportantPoint 42 = .ok (.if_icmp .le 10, 3) := by decide +kernel
theorem dX7_leastImportantPoint_45 : decode cX7_leastImportantPoint 45 = .ok (.iload 5, 2) := by decide +kernel
theorem dX7_leastImportantPoint_47 : decode cX7_leastImportantPoint 47 = .ok (.istore_n 3, 1) := by decide +kernel
theorem dX7_leastImportantPoint_48 : decode cX7_leastImportantPoint 48 = .ok (.iload 6, 2) := by decide +kernel
theorem dX7_leastImportantPoint_50 : decode cX7_leastImportantPoint 50 = .ok (.istore 4, 2) := by decide +kernel
theorem dX7_leastImportantPoint_52 : decode cX7_leastImportantPoint 52 = .ok (.iinc 5 1, 3) := by decide +kernel
theorem dX7_leastImportantPoint_55 : decode cX7_leastImportantPoint 55 = .ok (.goto (-41), 3) := by decide +kernel
theorem dX7_leastImportantPoint_58 : decode cX7_leastImportantPoint 58 = .ok (.iload_n 3, 1) := by decide +kernel
theorem dX7_leastImportantPoint_59 : decode cX7_leastImportantPoint 59 = .ok (.ireturn, 1) := by decide +kernel
theorem dX7_lengthInOtherMetric_0 : decode cX7_lengthInOtherMetric 0 = .ok (.aload_n 0, 1) := by decide +kernel
theorem dX7_lengthInOtherMetric_1 : decode cX7_lengthInOtherMetric 1 = .ok (.iload_n 1, 1) := by decide +kernel
theorem dX7_lengthInOtherMetric_2 : decode cX7_lengthInOtherMetric 2 = .ok (.invokevirtual 123, 3) := by decide +kernel
theorem dX7_lengthInOtherMetric_5 : decode cX7_lengthInOtherMetric 5 = .ok (.astore_n 3, 1) := by decide +kernel
theorem dX7_lengthInOtherMetric_6 : decode cX7_lengthInOtherMetric 6 = .ok (.iload_n 2, 1) := by decide +kernel
theorem dX7_lengthInOtherMetric_7 : decode cX7_lengthInOtherMetric 7 = .ok (.iconst 0, 1) := by decide +kernel
theorem dX7_lengthInOtherMetric_8 : decode cX7_lengthInOtherMetric 8 = .ok (.bipush 7, 2) := by decide +kernel
theorem dX7_lengthInOtherMetric_10 : decode cX7_lengthInOtherMetric 10 = .ok (.invokestatic 145, 3) := by decide +kernel
theorem dX7_lengthInOtherMetric_13 : decode cX7_lengthInOtherMetric 13 = .ok (.aload_n 3, 1) := by decide +kernel
theorem dX7_lengthInOtherMetric_14 : decode cX7_lengthInOtherMetric 14 = .ok (.iload_n 2, 1) := by decide +kernel
theorem dX7_lengthInOtherMetric_15 : decode cX7_lengthInOtherMetric 15 = .ok (.aload_n 0, 1) := by decide +kernel
theorem dX7_lengthInOtherMetric_16 : decode cX7_lengthInOtherMetric 16 = .ok (.getfield 10, 3) := by decide +kernel
theorem dX7_lengthInOtherMetric_19 : decode cX7_lengthInOtherMetric 19 = .ok (.getfield 120, 3) := by decide +kernel
theorem dX7_lengthInOtherMetric_22 : decode cX7_lengthInOtherMetric 22 = .ok (.ifCond .ne 7, 3) := by decide +kernel
theorem dX7_lengthInOtherMetric_25 : decode cX7_lengthInOtherMetric 25 = .ok (.iconst 1, 1) := by decide +kernel
theorem dX7_lengthInOtherMetric_26 : decode cX7_lengthInOtherMetric 26 = .ok (.goto 4, 3) := by decide +kernel
theorem dX7_lengthInOtherMetric_29 : decode cX7_lengthInOtherMetric 29 = .ok (.iconst 0, 1) := by decide +kernel
theorem dX7_lengthInOtherMetric_30 : decode cX7_lengthInOtherMetric 30 = .ok (.invokevirtual 152, 3) := by decide +kernel
theorem dX7_lengthInOtherMetric_33 : decode cX7_lengthInOtherMetric 33 = .ok (.ireturn, 1) := by decide +kernel
theorem dX7_loadedPoints_0 : decode cX7_loadedPoints 0 = .ok (.aload_n 0, 1) := by decide +kernel
theorem dX7_loadedPoints_1 : decode cX7_loadedPoints 1 = .ok (.getfield 10, 3) := by decide +kernel
theorem dX7_loadedPoints_4 : decode cX7_loadedPoints 4 = .ok (.getfield 223, 3) := by decide +kernel
theorem dX7_loadedPoints_7 : decode cX7_loadedPoints 7 = .ok (.ireturn, 1) := by decide +kernel
theorem dX7_addedPoints_0 : decode cX7_addedPoints 0 = .ok (.aload_n 0, 1) := by decide +kernel
theorem dX7_addedPoints_1 : decode cX7_addedPoints 1 = .ok (.getfield 10, 3) := by decide +kernel
theorem dX7_addedPoints_4 : decode cX7_addedPoints 4 = .ok (.getfield 226, 3) := by decide +kernel
theorem dX7_addedPoints_7 : decode cX7_addedPoints 7 = .ok (.ireturn, 1) := by decide +kernel
theorem dX7_removedPoints_0 : decode cX7_removedPoints 0 = .ok (.aload_n 0, 1) := by decide +kernel
theorem dX7_removedPoints_1 : decode cX7_removedPoints 1 = .ok (.getfield 10, 3) := by decide +kernel
theorem dX7_removedPoints_4 : decode cX7_removedPoints 4 = .ok (.getfield 229, 3) := by decide +kernel
theorem dX7_removedPoints_7 : decode cX7_removedPoints 7 = .ok (.ireturn, 1) := by decide +kernel
theorem dX7_ledgerGap_0 : decode cX7_ledgerGap 0 = .ok (.aload_n 0, 1) := by decide +kernel
theorem dX7_ledgerGap_1 : decode cX7_ledgerGap 1 = .ok (.getfield 10, 3) := by decide +kernel
theorem dX7_ledgerGap_4 : decode cX7_ledgerGap 4 = .ok (.getfield 223, 3) := by decide +kernel
theorem dX7_ledgerGap_7 : decode cX7_ledgerGap 7 = .ok (.aload_n 0, 1) := by decide +kernel
theorem dX7_ledgerGap_8 : decode cX7_ledgerGap 8 = .ok (.getfield 10, 3) := by decide +kernel
theorem dX7_ledgerGap_11 : decode cX7_ledgerGap 11 = .ok (.getfield 226, 3) := by decide +kernel
theorem dX7_ledgerGap_14 : decode cX7_ledgerGap 14 = .ok (.iadd, 1) := by decide +kernel
theorem dX7_ledgerGap_15 : decode cX7_ledgerGap 15 = .ok (.aload_n 0, 1) := by decide +kernel
theorem dX7_ledgerGap_16 : decode cX7_ledgerGap 16 = .ok (.getfield 10, 3) := by decide +kernel
theorem dX7_ledgerGap_19 : decode cX7_ledgerGap 19 = .ok (.getfield 229, 3) := by decide +kernel
theorem dX7_ledgerGap_22 : decode cX7_ledgerGap 22 = .ok (.isub, 1) := by decide +kernel
theorem dX7_ledgerGap_23 : decode cX7_ledgerGap 23 = .ok (.aload_n 0, 1) := by decide +kernel
theorem dX7_ledgerGap_24 : decode cX7_ledgerGap 24 = .ok (.getfield 10, 3) := by decide +kernel
theorem dX7_ledgerGap_27 : decode cX7_ledgerGap 27 = .ok (.invokevirtual 232, 3) := by decide +kernel
theorem dX7_ledgerGap_30 : decode cX7_ledgerGap 30 = .ok (.isub, 1) := by decide +kernel
theorem dX7_ledgerGap_31 : decode cX7_ledgerGap 31 = .ok (.invokestatic 191, 3) := by decide +kernel
theorem dX7_ledgerGap_34 : decode cX7_ledgerGap 34 = .ok (.ireturn, 1) := by decide +kernel
theorem dX7_addCoast_0 : decode cX7_addCoast 0 = .ok (.aload_n 0, 1) := by decide +kernel
theorem dX7_addCoast_1 : decode cX7_addCoast 1 = .ok (.iload_n 1, 1) := by decide +kernel
theorem dX7_addCoast_2 : decode cX7_addCoast 2 = .ok (.invokevirtual 93, 3) := by decide +kernel
theorem dX7_addCoast_5 : decode cX7_addCoast 5 = .ok (.aload_n 0, 1) := by decide +kernel
theorem dX7_addCoast_6 : decode cX7_addCoast 6 = .ok (.getfield 49, 3) := by decide +kernel
theorem dX7_addCoast_9 : decode cX7_addCoast 9 = .ok (.getstatic 235, 3) := by decide +kernel
theorem dX7_addCoast_12 : decode cX7_addCoast 12 = .ok (.putfield 241, 3) := by decide +kernel
theorem dX7_addCoast_15 : decode cX7_addCoast 15 = .ok (.aload_n 0, 1) := by decide +kernel
theorem dX7_addCoast_16 : decode cX7_addCoast 16 = .ok (.getfield 10, 3) := by decide +kernel
theorem dX7_addCoast_19 : decode cX7_addCoast 19 = .ok (.aload_n 0, 1) := by decide +kernel
theorem dX7_addCoast_20 : decode cX7_addCoast 20 = .ok (.getfield 49, 3) := by decide +kernel
theorem dX7_addCoast_23 : decode cX7_addCoast 23 = .ok (.invokevirtual 244, 3) := by decide +kernel
theorem dX7_addCoast_26 : decode cX7_addCoast 26 = .ok (.invokestatic 248, 3) := by decide +kernel
theorem dX7_addCoast_29 : decode cX7_addCoast 29 = .ok (.aload_n 0, 1) := by decide +kernel
theorem dX7_addCoast_30 : decode cX7_addCoast 30 = .ok (.getfield 38, 3) := by decide +kernel
theorem dX7_addCoast_33 : decode cX7_addCoast 33 = .ok (.iload_n 1, 1) := by decide +kernel
theorem dX7_addCoast_34 : decode cX7_addCoast 34 = .ok (.aload_n 0, 1) := by decide +kernel
theorem dX7_addCoast_35 : decode cX7_addCoast 35 = .ok (.getfield 49, 3) := by decide +kernel
theorem dX7_addCoast_38 : decode cX7_addCoast 38 = .ok (.getfield 251, 3) := by decide +kernel
theorem dX7_addCoast_41 : decode cX7_addCoast 41 = .ok (.invokevirtual 254, 3) := by decide +kernel
theorem dX7_addCoast_44 : decode cX7_addCoast 44 = .ok (.istore_n 2, 1) := by decide +kernel
theorem dX7_addCoast_45 : decode cX7_addCoast 45 = .ok (.aload_n 0, 1) := by decide +kernel
theorem dX7_addCoast_46 : decode cX7_addCoast 46 = .ok (.getfield 29, 3) := by decide +kernel
theorem dX7_addCoast_49 : decode cX7_addCoast 49 = .ok (.iconst 0, 1) := by decide +kernel
theorem dX7_addCoast_50 : decode cX7_addCoast 50 = .ok (.putfield 86, 3) := by decide +kernel
theorem dX7_addCoast_53 : decode cX7_addCoast 53 = .ok (.iload_n 2, 1) := by decide +kernel
theorem dX7_addCoast_54 : decode cX7_addCoast 54 = .ok (.ifCond .eq 10, 3) := by decide +kernel
theorem dX7_addCoast_57 : decode cX7_addCoast 57 = .ok (.aload_n 0, 1) := by decide +kernel
theorem dX7_addCoast_58 : decode cX7_addCoast 58 = .ok (.invokevirtual 258, 3) := by decide +kernel
theorem dX7_addCoast_61 : decode cX7_addCoast 61 = .ok (.goto 4, 3) := by decide +kernel
theorem dX7_addCoast_64 : decode cX7_addCoast 64 = .ok (.iconst (-1), 1) := by decide +kernel
theorem dX7_addCoast_65 : decode cX7_addCoast 65 = .ok (.ireturn, 1) := by decide +kernel
theorem dX7_removeCoast_0 : decode cX7_removeCoast 0 = .ok (.aload_n 0, 1) := by decide +kernel
theorem dX7_removeCoast_1 : decode cX7_removeCoast 1 = .ok (.getfield 49, 3) := by decide +kernel
theorem dX7_removeCoast_4 : decode cX7_removeCoast 4 = .ok (.getstatic 261, 3) := by decide +kernel
theorem dX7_removeCoast_7 : decode cX7_removeCoast 7 = .ok (.iload_n 1, 1) := by decide +kernel
theorem dX7_removeCoast_8 : decode cX7_removeCoast 8 = .ok (.iconst 0, 1) := by decide +kernel
theorem dX7_removeCoast_9 : decode cX7_removeCoast 9 = .ok (.iconst 0, 1) := by decide +kernel
theorem dX7_removeCoast_10 : decode cX7_removeCoast 10 = .ok (.iconst 0, 1) := by decide +kernel
theorem dX7_removeCoast_11 : decode cX7_removeCoast 11 = .ok (.invokevirtual 264, 3) := by decide +kernel
theorem dX7_removeCoast_14 : decode cX7_removeCoast 14 = .ok (.aload_n 0, 1) := by decide +kernel
theorem dX7_removeCoast_15 : decode cX7_removeCoast 15 = .ok (.invokevirtual 258, 3) := by decide +kernel
theorem dX7_removeCoast_18 : decode cX7_removeCoast 18 = .ok (.ireturn, 1) := by decide +kernel
theorem dX7_fold_0 : decode cX7_fold 0 = .ok (.aload_n 0, 1) := by decide +kernel
theorem dX7_fold_1 : decode cX7_fold 1 = .ok (.getfield 49, 3) := by decide +kernel
theorem dX7_fold_4 : decode cX7_fold 4 = .ok (.getstatic 268, 3) := by decide +kernel
theorem dX7_fold_7 : decode cX7_fold 7 = .ok (.iload_n 1, 1) := by decide +kernel
theorem dX7_fold_8 : decode cX7_fold 8 = .ok (.iconst 0, 1) := by decide +kernel
theorem dX7_fold_9 : decode cX7_fold 9 = .ok (.iload_n 2, 1) := by decide +kernel
theorem dX7_fold_10 : decode cX7_fold 10 = .ok (.iconst 0, 1) := by decide +kernel
theorem dX7_fold_11 : decode cX7_fold 11 = .ok (.invokevirtual 264, 3) := by decide +kernel
theorem dX7_fold_14 : decode cX7_fold 14 = .ok (.aload_n 0, 1) := by decide +kernel
theorem dX7_fold_15 : decode cX7_fold 15 = .ok (.invokevirtual 258, 3) := by decide +kernel
theorem dX7_fold_18 : decode cX7_fold 18 = .ok (.ireturn, 1) := by decide +kernel
theorem dX7_unfold_0 : decode cX7_unfold 0 = .ok (.aload_n 0, 1) := by decide +kernel
theorem dX7_unfold_1 : decode cX7_unfold 1 = .ok (.getfield 49, 3) := by decide +kernel
theorem dX7_unfold_4 : decode cX7_unfold 4 = .ok (.getstatic 271, 3) := by decide +kernel
theorem dX7_unfold_7 : decode cX7_unfold 7 = .ok (.iload_n 1, 1) := by decide +kernel
theorem dX7_unfold_8 : decode cX7_unfold 8 = .ok (.iconst 0, 1) := by decide +kernel
theorem dX7_unfold_9 : decode cX7_unfold 9 = .ok (.iconst 0, 1) := by decide +kernel
theorem dX7_unfold_10 : decode cX7_unfold 10 = .ok (.iconst 0, 1) := by decide +kernel
theorem dX7_unfold_11 : decode cX7_unfold 11 = .ok (.invokevirtual 264, 3) := by decide +kernel
theorem dX7_unfold_14 : decode cX7_unfold 14 = .ok (.aload_n 0, 1) := by decide +kernel
theorem dX7_unfold_15 : decode cX7_unfold 15 = .ok (.invokevirtual 258, 3) := by decide +kernel
theorem dX7_unfold_18 : decode cX7_unfold 18 = .ok (.ireturn, 1) := by decide +kernel
theorem dX7_movePoint_0 : decode cX7_movePoint 0 = .ok (.aload_n 0, 1) := by decide +kernel
theorem dX7_movePoint_1 : decode cX7_movePoint 1 = .ok (.getfield 49, 3) := by decide +kernel
theorem dX7_movePoint_4 : decode cX7_movePoint 4 = .ok (.getstatic 274, 3) := by decide +kernel
theorem dX7_movePoint_7 : decode cX7_movePoint 7 = .ok (.iload_n 1, 1) := by decide +kernel
theorem dX7_movePoint_8 : decode cX7_movePoint 8 = .ok (.iload_n 2, 1) := by decide +kernel
theorem dX7_movePoint_9 : decode cX7_movePoint 9 = .ok (.iload_n 3, 1) := by decide +kernel
theorem dX7_movePoint_10 : decode cX7_movePoint 10 = .ok (.iload 4, 2) := by decide +kernel
theorem dX7_movePoint_12 : decode cX7_movePoint 12 = .ok (.invokevirtual 264, 3) := by decide +kernel
theorem dX7_movePoint_15 : decode cX7_movePoint 15 = .ok (.aload_n 0, 1) := by decide +kernel
theorem dX7_movePoint_16 : decode cX7_movePoint 16 = .ok (.invokevirtual 258, 3) := by decide +kernel
theorem dX7_movePoint_19 : decode cX7_movePoint 19 = .ok (.ireturn, 1) := by decide +kernel
theorem dX7_insertPoint_0 : decode cX7_insertPoint 0 = .ok (.aload_n 0, 1) := by decide +kernel
theorem dX7_insertPoint_1 : decode cX7_insertPoint 1 = .ok (.getfield 49, 3) := by decide +kernel
theorem dX7_insertPoint_4 : decode cX7_insertPoint 4 = .ok (.getstatic 277, 3) := by decide +kernel
theorem dX7_insertPoint_7 : decode cX7_insertPoint 7 = .ok (.iload_n 1, 1) := by decide +kernel
theorem dX7_insertPoint_8 : decode cX7_insertPoint 8 = .ok (.iload_n 2, 1) := by decide +kernel
theorem dX7_insertPoint_9 : decode cX7_insertPoint 9 = .ok (.iload_n 3, 1) := by decide +kernel
theorem dX7_insertPoint_10 : decode cX7_insertPoint 10 = .ok (.iload 4, 2) := by decide +kernel
theorem dX7_insertPoint_12 : decode cX7_insertPoint 12 = .ok (.invokevirtual 264, 3) := by decide +kernel
theorem dX7_insertPoint_15 : decode cX7_insertPoint 15 = .ok (.aload_n 0, 1) := by decide +kernel
theorem dX7_insertPoint_16 : decode cX7_insertPoint 16 = .ok (.invokevirtual 258, 3) := by decide +kernel
theorem dX7_insertPoint_19 : decode cX7_insertPoint 19 = .ok (.ireturn, 1) := by decide +kernel
theorem dX7_removePoint_0 : decode cX7_removePoint 0 = .ok (.aload_n 0, 1) := by decide +kernel
theorem dX7_removePoint_1 : decode cX7_removePoint 1 = .ok (.getfield 49, 3) := by decide +kernel
theorem dX7_removePoint_4 : decode cX7_removePoint 4 = .ok (.getstatic 280, 3) := by decide +kernel
theorem dX7_removePoint_7 : decode cX7_removePoint 7 = .ok (.iload_n 1, 1) := by decide +kernel
theorem dX7_removePoint_8 : decode cX7_removePoint 8 = .ok (.iload_n 2, 1) := by decide +kernel
theorem dX7_removePoint_9 : decode cX7_removePoint 9 = .ok (.iconst 0, 1) := by decide +kernel
theorem dX7_removePoint_10 : decode cX7_removePoint 10 = .ok (.iconst 0, 1) := by decide +kernel
theorem dX7_removePoint_11 : decode cX7_removePoint 11 = .ok (.invokevirtual 264, 3) := by decide +kernel
theorem dX7_removePoint_14 : decode cX7_removePoint 14 = .ok (.aload_n 0, 1) := by decide +kernel
theorem dX7_removePoint_15 : decode cX7_removePoint 15 = .ok (.invokevirtual 258, 3) := by decide +kernel
theorem dX7_removePoint_18 : decode cX7_removePoint 18 = .ok (.ireturn, 1) := by decide +kernel
theorem dX7_shift_0 : decode cX7_shift 0 = .ok (.aload_n 0, 1) := by decide +kernel
theorem dX7_shift_1 : decode cX7_shift 1 = .ok (.getfield 49, 3) := by decide +kernel
theorem dX7_shift_4 : decode cX7_shift 4 = .ok (.getstatic 283, 3) := by decide +kernel
theorem dX7_shift_7 : decode cX7_shift 7 = .ok (.iload_n 1, 1) := by decide +kernel
theorem dX7_shift_8 : decode cX7_shift 8 = .ok (.iconst 0, 1) := by decide +kernel
theorem dX7_shift_9 : decode cX7_shift 9 = .ok (.iload_n 2, 1) := by decide +kernel
theorem dX7_shift_10 : decode cX7_shift 10 = .ok (.iload_n 3, 1) := by decide +kernel
theorem dX7_shift_11 : decode cX7_shift 11 = .ok (.invokevirtual 264, 3) := by decide +kernel
theorem dX7_shift_14 : decode cX7_shift 14 = .ok (.aload_n 0, 1) := by decide +kernel
theorem dX7_shift_15 : decode cX7_shift 15 = .ok (.invokevirtual 258, 3) := by decide +kernel
theorem dX7_shift_18 : decode cX7_shift 18 = .ok (.ireturn, 1) := by decide +kernel
theorem dX7_reverse_0 : decode cX7_reverse 0 = .ok (.aload_n 0, 1) := by decide +kernel
theorem dX7_reverse_1 : decode cX7_reverse 1 = .ok (.getfield 49, 3) := by decide +kernel
theorem dX7_reverse_4 : decode cX7_reverse 4 = .ok (.getstatic 286, 3) := by decide +kernel
theorem dX7_reverse_7 : decode cX7_reverse 7 = .ok (.iload_n 1, 1) := by decide +kernel
theorem dX7_reverse_8 : decode cX7_reverse 8 = .ok (.iconst 0, 1) := by decide +kernel
theorem dX7_reverse_9 : decode cX7_reverse 9 = .ok (.iconst 0, 1) := by decide +kernel
theorem dX7_reverse_10 : decode cX7_reverse 10 = .ok (.iconst 0, 1) := by decide +kernel
theorem dX7_reverse_11 : decode cX7_reverse 11 = .ok (.invokevirtual 264, 3) := by decide +kernel
theorem dX7_reverse_14 : decode cX7_reverse 14 = .ok (.aload_n 0, 1) := by decide +kernel
theorem dX7_reverse_15 : decode cX7_reverse 15 = .ok (.invokevirtual 258, 3) := by decide +kernel
theorem dX7_reverse_18 : decode cX7_reverse 18 = .ok (.ireturn, 1) := by decide +kernel
theorem dX7_setKingMetric_0 : decode cX7_setKingMetric 0 = .ok (.aload_n 0, 1) := by decide +kernel
theorem dX7_setKingMetric_1 : decode cX7_setKingMetric 1 = .ok (.getfield 49, 3) := by decide +kernel
theorem dX7_setKingMetric_4 : decode cX7_setKingMetric 4 = .ok (.getstatic 289, 3) := by decide +kernel
theorem dX7_setKingMetric_7 : decode cX7_setKingMetric 7 = .ok (.iconst 0, 1) := by decide +kernel
theorem dX7_setKingMetric_8 : decode cX7_setKingMetric 8 = .ok (.iconst 0, 1) := by decide +kernel
theorem dX7_setKingMetric_9 : decode cX7_setKingMetric 9 = .ok (.iconst 0, 1) := by decide +kernel
theorem dX7_setKingMetric_10 : decode cX7_setKingMetric 10 = .ok (.iconst 0, 1) := by decide +kernel
theorem dX7_setKingMetric_11 : decode cX7_setKingMetric 11 = .ok (.invokevirtual 264, 3) := by decide +kernel
theorem dX7_setKingMetric_14 : decode cX7_setKingMetric 14 = .ok (.aload_n 0, 1) := by decide +kernel
theorem dX7_setKingMetric_15 : decode cX7_setKingMetric 15 = .ok (.getfield 49, 3) := by decide +kernel
theorem dX7_setKingMetric_18 : decode cX7_setKingMetric 18 = .ok (.iload_n 1, 1) := by decide +kernel
theorem dX7_setKingMetric_19 : decode cX7_setKingMetric 19 = .ok (.putfield 292, 3) := by decide +kernel
theorem dX7_setKingMetric_22 : decode cX7_setKingMetric 22 = .ok (.aload_n 0, 1) := by decide +kernel
theorem dX7_setKingMetric_23 : decode cX7_setKingMetric 23 = .ok (.invokevirtual 258, 3) := by decide +kernel
theorem dX7_setKingMetric_26 : decode cX7_setKingMetric 26 = .ok (.iconst 1, 1) := by decide +kernel
theorem dX7_setKingMetric_27 : decode cX7_setKingMetric 27 = .ok (.if_icmp .ne 7, 3) := by decide +kernel
theorem dX7_setKingMetric_30 : decode cX7_setKingMetric 30 = .ok (.iconst 1, 1) := by decide +kernel
theorem dX7_setKingMetric_31 : decode cX7_setKingMetric 31 = .ok (.goto 4, 3) := by decide +kernel
theorem dX7_setKingMetric_34 : decode cX7_setKingMetric 34 = .ok (.iconst 0, 1) := by decide +kernel
theorem dX7_setKingMetric_35 : decode cX7_setKingMetric 35 = .ok (.ireturn, 1) := by decide +kernel
theorem dX7_undoableCount_0 : decode cX7_undoableCount 0 = .ok (.aload_n 0, 1) := by decide +kernel
theorem dX7_undoableCount_1 : decode cX7_undoableCount 1 = .ok (.getfield 104, 3) := by decide +kernel
theorem dX7_undoableCount_4 : decode cX7_undoableCount 4 = .ok (.ireturn, 1) := by decide +kernel
theorem dX7_undo_0 : decode cX7_undo 0 = .ok (.aload_n 0, 1) := by decide +kernel
theorem dX7_undo_1 : decode cX7_undo 1 = .ok (.getfield 104, 3) := by decide +kernel
theorem dX7_undo_4 : decode cX7_undo 4 = .ok (.ifCond .ne 14, 3) := by decide +kernel
theorem dX7_undo_7 : decode cX7_undo 7 = .ok (.new 326, 3) := by decide +kernel
theorem dX7_undo_10 : decode cX7_undo 10 = .ok (.dup, 1) := by decide +kernel
theorem dX7_undo_11 : decode cX7_undo 11 = .ok (.ldc_w 328, 3) := by decide +kernel
theorem dX7_undo_14 : decode cX7_undo 14 = .ok (.invokespecial 330, 3) := by decide +kernel
theorem dX7_undo_17 : decode cX7_undo 17 = .ok (.athrow, 1) := by decide +kernel
theorem dX7_undo_18 : decode cX7_undo 18 = .ok (.aload_n 0, 1) := by decide +kernel
theorem dX7_undo_19 : decode cX7_undo 19 = .ok (.aload_n 0, 1) := by decide +kernel
theorem dX7_undo_20 : decode cX7_undo 20 = .ok (.getfield 331, 3) := by decide +kernel
theorem dX7_undo_23 : decode cX7_undo 23 = .ok (.ifCond .ne 8, 3) := by decide +kernel
theorem dX7_undo_26 : decode cX7_undo 26 = .ok (.bipush 7, 2) := by decide +kernel
theorem dX7_undo_28 : decode cX7_undo 28 = .ok (.goto 9, 3) := by decide +kernel
theorem dX7_undo_31 : decode cX7_undo 31 = .ok (.aload_n 0, 1) := by decide +kernel
theorem dX7_undo_32 : decode cX7_undo 32 = .ok (.getfield 331, 3) := by decide +kernel
theorem dX7_undo_35 : decode cX7_undo 35 = .ok (.iconst 1, 1) := by decide +kernel
theorem dX7_undo_36 : decode cX7_undo 36 = .ok (.isub, 1) := by decide +kernel
theorem dX7_undo_37 : decode cX7_undo 37 = .ok (.putfield 331, 3) := by decide +kernel
theorem dX7_undo_40 : decode cX7_undo 40 = .ok (.aload_n 0, 1) := by decide +kernel
theorem dX7_undo_41 : decode cX7_undo 41 = .ok (.dup, 1) := by decide +kernel
theorem dX7_undo_42 : decode cX7_undo 42 = .ok (.getfield 104, 3) := by decide +kernel
theorem dX7_undo_45 : decode cX7_undo 45 = .ok (.iconst 1, 1) := by decide +kernel
theorem dX7_undo_46 : decode cX7_undo 46 = .ok (.isub, 1) := by decide +kernel
theorem dX7_undo_47 : decode cX7_undo 47 = .ok (.putfield 104, 3) := by decide +kernel
theorem dX7_undo_50 : decode cX7_undo 50 = .ok (.aload_n 0, 1) := by decide +kernel
theorem dX7_undo_51 : decode cX7_undo 51 = .ok (.getfield 10, 3) := by decide +kernel
theorem dX7_undo_54 : decode cX7_undo 54 = .ok (.aload_n 0, 1) := by decide +kernel
theorem dX7_undo_55 : decode cX7_undo 55 = .ok (.getfield 22, 3) := by decide +kernel
theorem dX7_undo_58 : decode cX7_undo 58 = .ok (.aload_n 0, 1) := by decide +kernel
theorem dX7_undo_59 : decode cX7_undo 59 = .ok (.getfield 331, 3) := by decide +kernel
theorem dX7_undo_62 : decode cX7_undo 62 = .ok (.aaload, 1) := by decide +kernel
theorem dX7_undo_63 : decode cX7_undo 63 = .ok (.invokevirtual 100, 3) := by decide +kernel
theorem dX7_undo_66 : decode cX7_undo 66 = .ok (.aload_n 0, 1) := by decide +kernel
theorem dX7_undo_67 : decode cX7_undo 67 = .ok (.getfield 104, 3) := by decide +kernel
theorem dX7_undo_70 : decode cX7_undo 70 = .ok (.ireturn, 1) := by decide +kernel
theorem dX7_saveSnapshot_0 : decode cX7_saveSnapshot 0 = .ok (.aload_n 0, 1) := by decide +kernel
theorem dX7_saveSnapshot_1 : decode cX7_saveSnapshot 1 = .ok (.getfield 19, 3) := by decide +kernel
theorem dX7_saveSnapshot_4 : decode cX7_saveSnapshot 4 = .ok (.aload_n 0, 1) := by decide +kernel
theorem dX7_saveSnapshot_5 : decode cX7_saveSnapshot 5 = .ok (.getfield 10, 3) := by decide +kernel
theorem dX7_saveSnapshot_8 : decode cX7_saveSnapshot 8 = .ok (.invokevirtual 100, 3) := by decide +kernel
theorem dX7_saveSnapshot_11 : decode cX7_saveSnapshot 11 = .ok (.aload_n 0, 1) := by decide +kernel
theorem dX7_saveSnapshot_12 : decode cX7_saveSnapshot 12 = .ok (.iconst 1, 1) := by decide +kernel
theorem dX7_saveSnapshot_13 : decode cX7_saveSnapshot 13 = .ok (.putfield 107, 3) := by decide +kernel
theorem dX7_saveSnapshot_16 : decode cX7_saveSnapshot 16 = .ok (.return_, 1) := by decide +kernel
theorem dX7_restoreSnapshot_0 : decode cX7_restoreSnapshot 0 = .ok (.aload_n 0, 1) := by decide +kernel
theorem dX7_restoreSnapshot_1 : decode cX7_restoreSnapshot 1 = .ok (.getfield 107, 3) := by decide +kernel
theorem dX7_restoreSnapshot_4 : decode cX7_restoreSnapshot 4 = .ok (.ifCond .ne 14, 3) := by decide +kernel
theorem dX7_restoreSnapshot_7 : decode cX7_restoreSnapshot 7 = .ok (.new 326, 3) := by decide +kernel
theorem dX7_restoreSnapshot_10 : decode cX7_restoreSnapshot 10 = .ok (.dup, 1) := by decide +kernel
theorem dX7_restoreSnapshot_11 : decode cX7_restoreSnapshot 11 = .ok (.ldc_w 334, 3) := by decide +kernel
theorem dX7_restoreSnapshot_14 : decode cX7_restoreSnapshot 14 = .ok (.invokespecial 330, 3) := by decide +kernel
theorem dX7_restoreSnapshot_17 : decode cX7_restoreSnapshot 17 = .ok (.athrow, 1) := by decide +kernel
theorem dX7_restoreSnapshot_18 : decode cX7_restoreSnapshot 18 = .ok (.aload_n 0, 1) := by decide +kernel
theorem dX7_restoreSnapshot_19 : decode cX7_restoreSnapshot 19 = .ok (.getfield 10, 3) := by decide +kernel
theorem dX7_restoreSnapshot_22 : decode cX7_restoreSnapshot 22 = .ok (.aload_n 0, 1) := by decide +kernel
theorem dX7_restoreSnapshot_23 : decode cX7_restoreSnapshot 23 = .ok (.getfield 19, 3) := by decide +kernel
theorem dX7_restoreSnapshot_26 : decode cX7_restoreSnapshot 26 = .ok (.invokevirtual 100, 3) := by decide +kernel
theorem dX7_restoreSnapshot_29 : decode cX7_restoreSnapshot 29 = .ok (.aload_n 0, 1) := by decide +kernel
theorem dX7_restoreSnapshot_30 : decode cX7_restoreSnapshot 30 = .ok (.iconst 0, 1) := by decide +kernel
theorem dX7_restoreSnapshot_31 : decode cX7_restoreSnapshot 31 = .ok (.putfield 104, 3) := by decide +kernel
theorem dX7_restoreSnapshot_34 : decode cX7_restoreSnapshot 34 = .ok (.aload_n 0, 1) := by decide +kernel
theorem dX7_restoreSnapshot_35 : decode cX7_restoreSnapshot 35 = .ok (.getfield 10, 3) := by decide +kernel
theorem dX7_restoreSnapshot_38 : decode cX7_restoreSnapshot 38 = .ok (.getfield 111, 3) := by decide +kernel
theorem dX7_restoreSnapshot_41 : decode cX7_restoreSnapshot 41 = .ok (.ireturn, 1) := by decide +kernel
theorem dX7_coastAt_0 : decode cX7_coastAt 0 = .ok (.aload_n 0, 1) := by decide +kernel
theorem dX7_coastAt_1 : decode cX7_coastAt 1 = .ok (.getfield 10, 3) := by decide +kernel
theorem dX7_coastAt_4 : decode cX7_coastAt 4 = .ok (.iload_n 1, 1) := by decide +kernel
theorem dX7_coastAt_5 : decode cX7_coastAt 5 = .ok (.invokevirtual 336, 3) := by decide +kernel
theorem dX7_coastAt_8 : decode cX7_coastAt 8 = .ok (.ifCond .ne 14, 3) := by decide +kernel
theorem dX7_coastAt_11 : decode cX7_coastAt 11 = .ok (.new 315, 3) := by decide +kernel
theorem dX7_coastAt_14 : decode cX7_coastAt 14 = .ok (.dup, 1) := by decide +kernel
theorem dX7_coastAt_15 : decode cX7_coastAt 15 = .ok (.ldc_w 340, 3) := by decide +kernel
theorem dX7_coastAt_18 : decode cX7_coastAt 18 = .ok (.invokespecial 319, 3) := by decide +kernel
theorem dX7_coastAt_21 : decode cX7_coastAt 21 = .ok (.athrow, 1) := by decide +kernel
theorem dX7_coastAt_22 : decode cX7_coastAt 22 = .ok (.aload_n 0, 1) := by decide +kernel
theorem dX7_coastAt_23 : decode cX7_coastAt 23 = .ok (.getfield 10, 3) := by decide +kernel
theorem dX7_coastAt_26 : decode cX7_coastAt 26 = .ok (.getfield 180, 3) := by decide +kernel
theorem dX7_coastAt_29 : decode cX7_coastAt 29 = .ok (.iload_n 1, 1) := by decide +kernel
theorem dX7_coastAt_30 : decode cX7_coastAt 30 = .ok (.aaload, 1) := by decide +kernel
theorem dX7_coastAt_31 : decode cX7_coastAt 31 = .ok (.areturn, 1) := by decide +kernel
theorem dX7_coastWithPoint_0 : decode cX7_coastWithPoint 0 = .ok (.aload_n 0, 1) := by decide +kernel
theorem dX7_coastWithPoint_1 : decode cX7_coastWithPoint 1 = .ok (.iload_n 1, 1) := by decide +kernel
theorem dX7_coastWithPoint_2 : decode cX7_coastWithPoint 2 = .ok (.invokevirtual 123, 3) := by decide +kernel
theorem dX7_coastWithPoint_5 : decode cX7_coastWithPoint 5 = .ok (.astore_n 3, 1) := by decide +kernel
theorem dX7_coastWithPoint_6 : decode cX7_coastWithPoint 6 = .ok (.iload_n 2, 1) := by decide +kernel
theorem dX7_coastWithPoint_7 : decode cX7_coastWithPoint 7 = .ok (.ifCond .lt 11, 3) := by decide +kernel
theorem dX7_coastWithPoint_10 : decode cX7_coastWithPoint 10 = .ok (.iload_n 2, 1) := by decide +kernel
theorem dX7_coastWithPoint_11 : decode cX7_coastWithPoint 11 = .ok (.aload_n 3, 1) := by decide +kernel
theorem dX7_coastWithPoint_12 : decode cX7_coastWithPoint 12 = .ok (.getfield 130, 3) := by decide +kernel
theorem dX7_coastWithPoint_15 : decode cX7_coastWithPoint 15 = .ok (.if_icmp .lt 14, 3) := by decide +kernel
theorem dX7_coastWithPoint_18 : decode cX7_coastWithPoint 18 = .ok (.new 315, 3) := by decide +kernel
theorem dX7_coastWithPoint_21 : decode cX7_coastWithPoint 21 = .ok (.dup, 1) := by decide +kernel
theorem dX7_coastWithPoint_22 : decode cX7_coastWithPoint 22 = .ok (.ldc_w 342, 3) := by decide +kernel
theorem dX7_coastWithPoint_25 : decode cX7_coastWithPoint 25 = .ok (.invokespecial 319, 3) := by decide +kernel
theorem dX7_coastWithPoint_28 : decode cX7_coastWithPoint 28 = .ok (.athrow, 1) := by decide +kernel
theorem dX7_coastWithPoint_29 : decode cX7_coastWithPoint 29 = .ok (.aload_n 3, 1) := by decide +kernel
theorem dX7_coastWithPoint_30 : decode cX7_coastWithPoint 30 = .ok (.areturn, 1) := by decide +kernel
theorem dX7_islandAt_0 : decode cX7_islandAt 0 = .ok (.aload_n 0, 1) := by decide +kernel
theorem dX7_islandAt_1 : decode cX7_islandAt 1 = .ok (.iload_n 1, 1) := by decide +kernel
theorem dX7_islandAt_2 : decode cX7_islandAt 2 = .ok (.invokevirtual 123, 3) := by decide +kernel
theorem dX7_islandAt_5 : decode cX7_islandAt 5 = .ok (.astore_n 2, 1) := by decide +kernel
theorem dX7_islandAt_6 : decode cX7_islandAt 6 = .ok (.aload_n 2, 1) := by decide +kernel
theorem dX7_islandAt_7 : decode cX7_islandAt 7 = .ok (.getfield 127, 3) := by decide +kernel
theorem dX7_islandAt_10 : decode cX7_islandAt 10 = .ok (.ifCond .ne 14, 3) := by decide +kernel
theorem dX7_islandAt_13 : decode cX7_islandAt 13 = .ok (.new 326, 3) := by decide +kernel
theorem dX7_islandAt_16 : decode cX7_islandAt 16 = .ok (.dup, 1) := by decide +kernel
theorem dX7_islandAt_17 : decode cX7_islandAt 17 = .ok (.ldc_w 344, 3) := by decide +kernel
theorem dX7_islandAt_20 : decode cX7_islandAt 20 = .ok (.invokespecial 330, 3) := by decide +kernel
theorem dX7_islandAt_23 : decode cX7_islandAt 23 = .ok (.athrow, 1) := by decide +kernel
theorem dX7_islandAt_24 : decode cX7_islandAt 24 = .ok (.aload_n 2, 1) := by decide +kernel
theorem dX7_islandAt_25 : decode cX7_islandAt 25 = .ok (.areturn, 1) := by decide +kernel
theorem dX7_requireWithin_0 : decode cX7_requireWithin 0 = .ok (.iload_n 0, 1) := by decide +kernel
theorem dX7_requireWithin_1 : decode cX7_requireWithin 1 = .ok (.iload_n 1, 1) := by decide +kernel
theorem dX7_requireWithin_2 : decode cX7_requireWithin 2 = .ok (.if_icmp .lt 8, 3) := by decide +kernel
theorem dX7_requireWithin_5 : decode cX7_requireWithin 5 = .ok (.iload_n 0, 1) := by decide +kernel
theorem dX7_requireWithin_6 : decode cX7_requireWithin 6 = .ok (.iload_n 2, 1) := by decide +kernel
theorem dX7_requireWithin_7 : decode cX7_requireWithin 7 = .ok (.if_icmp .le 14, 3) := by decide +kernel
theorem dX7_requireWithin_10 : decode cX7_requireWithin 10 = .ok (.new 346, 3) := by decide +kernel
theorem dX7_requireWithin_13 : decode cX7_requireWithin 13 = .ok (.dup, 1) := by decide +kernel
theorem dX7_requireWithin_14 : decode cX7_requireWithin 14 = .ok (.ldc_w 348, 3) := by decide +kernel
theorem dX7_requireWithin_17 : decode cX7_requireWithin 17 = .ok (.invokespecial 350, 3) := by decide +kernel
theorem dX7_requireWithin_20 : decode cX7_requireWithin 20 = .ok (.athrow, 1) := by decide +kernel
theorem dX7_requireWithin_21 : decode cX7_requireWithin 21 = .ok (.return_, 1) := by decide +kernel
theorem dX7_requireStick_0 : decode cX7_requireStick 0 = .ok (.iload_n 1, 1) := by decide +kernel
theorem dX7_requireStick_1 : decode cX7_requireStick 1 = .ok (.iconst 0, 1) := by decide +kernel
theorem dX7_requireStick_2 : decode cX7_requireStick 2 = .ok (.bipush 7, 2) := by decide +kernel
theorem dX7_requireStick_4 : decode cX7_requireStick 4 = .ok (.invokestatic 145, 3) := by decide +kernel
theorem dX7_requireStick_7 : decode cX7_requireStick 7 = .ok (.iload_n 2, 1) := by decide +kernel
theorem dX7_requireStick_8 : decode cX7_requireStick 8 = .ok (.iconst 0, 1) := by decide +kernel
theorem dX7_requireStick_9 : decode cX7_requireStick 9 = .ok (.aload_n 0, 1) := by decide +kernel
theorem dX7_requireStick_10 : decode cX7_requireStick 10 = .ok (.iload_n 1, 1) := by decide +kernel
theorem dX7_requireStick_11 : decode cX7_requireStick 11 = .ok (.invokevirtual 156, 3) := by decide +kernel
theorem dX7_requireStick_14 : decode cX7_requireStick 14 = .ok (.iconst 1, 1) := by decide +kernel
theorem dX7_requireStick_15 : decode cX7_requireStick 15 = .ok (.isub, 1) := by decide +kernel
theorem dX7_requireStick_16 : decode cX7_requireStick 16 = .ok (.invokestatic 145, 3) := by decide +kernel
theorem dX7_requireStick_19 : decode cX7_requireStick 19 = .ok (.return_, 1) := by decide +kernel
theorem dX7_requireText_0 : decode cX7_requireText 0 = .ok (.iload_n 1, 1) := by decide +kernel
theorem dX7_requireText_1 : decode cX7_requireText 1 = .ok (.iconst 0, 1) := by decide +kernel
theorem dX7_requireText_2 : decode cX7_requireText 2 = .ok (.aload_n 0, 1) := by decide +kernel
theorem dX7_requireText_3 : decode cX7_requireText 3 = .ok (.getfield 29, 3) := by decide +kernel
theorem dX7_requireText_6 : decode cX7_requireText 6 = .ok (.getfield 86, 3) := by decide +kernel
theorem dX7_requireText_9 : decode cX7_requireText 9 = .ok (.invokestatic 145, 3) := by decide +kernel
theorem dX7_requireText_12 : decode cX7_requireText 12 = .ok (.return_, 1) := by decide +kernel
theorem dX7_refuse_0 : decode cX7_refuse 0 = .ok (.iload_n 0, 1) := by decide +kernel
theorem dX7_refuse_1 : decode cX7_refuse 1 = .ok (.iconst 1, 1) := by decide +kernel
theorem dX7_refuse_2 : decode cX7_refuse 2 = .ok (.if_icmp .ne 14, 3) := by decide +kernel
theorem dX7_refuse_5 : decode cX7_refuse 5 = .ok (.new 315, 3) := by decide +kernel
theorem dX7_refuse_8 : decode cX7_refuse 8 = .ok (.dup, 1) := by decide +kernel
theorem dX7_refuse_9 : decode cX7_refuse 9 = .ok (.ldc_w 351, 3) := by decide +kernel
theorem dX7_refuse_12 : decode cX7_refuse 12 = .ok (.invokespecial 319, 3) := by decide +kernel
theorem dX7_refuse_15 : decode cX7_refuse 15 = .ok (.athrow, 1) := by decide +kernel
theorem dX7_refuse_16 : decode cX7_refuse 16 = .ok (.iload_n 0, 1) := by decide +kernel
theorem dX7_refuse_17 : decode cX7_refuse 17 = .ok (.iconst 2, 1) := by decide +kernel
theorem dX7_refuse_18 : decode cX7_refuse 18 = .ok (.if_icmp .ne 14, 3) := by decide +kernel
theorem dX7_refuse_21 : decode cX7_refuse 21 = .ok (.new 346, 3) := by decide +kernel
theorem dX7_refuse_24 : decode cX7_refuse 24 = .ok (.dup, 1) := by decide +kernel
theorem dX7_refuse_25 : decode cX7_refuse 25 = .ok (.ldc_w 348, 3) := by decide +kernel
theorem dX7_refuse_28 : decode cX7_refuse 28 = .ok (.invokespecial 350, 3) := by decide +kernel
theorem dX7_refuse_31 : decode cX7_refuse 31 = .ok (.athrow, 1) := by decide +kernel
theorem dX7_refuse_32 : decode cX7_refuse 32 = .ok (.iload_n 0, 1) := by decide +kernel
theorem dX7_refuse_33 : decode cX7_refuse 33 = .ok (.iconst 3, 1) := by decide +kernel
theorem dX7_refuse_34 : decode cX7_refuse 34 = .ok (.if_icmp .ne 14, 3) := by decide +kernel
theorem dX7_refuse_37 : decode cX7_refuse 37 = .ok (.new 326, 3) := by decide +kernel
theorem dX7_refuse_40 : decode cX7_refuse 40 = .ok (.dup, 1) := by decide +kernel
theorem dX7_refuse_41 : decode cX7_refuse 41 = .ok (.ldc_w 353, 3) := by decide +kernel
theorem dX7_refuse_44 : decode cX7_refuse 44 = .ok (.invokespecial 330, 3) := by decide +kernel
theorem dX7_refuse_47 : decode cX7_refuse 47 = .ok (.athrow, 1) := by decide +kernel
theorem dX7_refuse_48 : decode cX7_refuse 48 = .ok (.return_, 1) := by decide +kernel
theorem dX7_change_0 : decode cX7_change 0 = .ok (.aload_n 0, 1) := by decide +kernel
theorem dX7_change_1 : decode cX7_change 1 = .ok (.getfield 10, 3) := by decide +kernel
theorem dX7_change_4 : decode cX7_change 4 = .ok (.aload_n 0, 1) := by decide +kernel
theorem dX7_change_5 : decode cX7_change 5 = .ok (.getfield 49, 3) := by decide +kernel
theorem dX7_change_8 : decode cX7_change 8 = .ok (.invokevirtual 244, 3) := by decide +kernel
theorem dX7_change_11 : decode cX7_change 11 = .ok (.invokestatic 248, 3) := by decide +kernel
theorem dX7_change_14 : decode cX7_change 14 = .ok (.aload_n 0, 1) := by decide +kernel
theorem dX7_change_15 : decode cX7_change 15 = .ok (.invokevirtual 297, 3) := by decide +kernel
theorem dX7_change_18 : decode cX7_change 18 = .ok (.aload_n 0, 1) := by decide +kernel
theorem dX7_change_19 : decode cX7_change 19 = .ok (.getfield 10, 3) := by decide +kernel
theorem dX7_change_22 : decode cX7_change 22 = .ok (.aload_n 0, 1) := by decide +kernel
theorem dX7_change_23 : decode cX7_change 23 = .ok (.getfield 49, 3) := by decide +kernel
theorem dX7_change_26 : decode cX7_change 26 = .ok (.invokevirtual 300, 3) := by decide +kernel
theorem dX7_change_29 : decode cX7_change 29 = .ok (.ireturn, 1) := by decide +kernel
theorem dX7_rememberChart_0 : decode cX7_rememberChart 0 = .ok (.aload_n 0, 1) := by decide +kernel
theorem dX7_rememberChart_1 : decode cX7_rememberChart 1 = .ok (.getfield 22, 3) := by decide +kernel
theorem dX7_rememberChart_4 : decode cX7_rememberChart 4 = .ok (.aload_n 0, 1) := by decide +kernel
theorem dX7_rememberChart_5 : decode cX7_rememberChart 5 = .ok (.getfield 331, 3) := by decide +kernel
theorem dX7_rememberChart_8 : decode cX7_rememberChart 8 = .ok (.aaload, 1) := by decide +kernel
theorem dX7_rememberChart_9 : decode cX7_rememberChart 9 = .ok (.aload_n 0, 1) := by decide +kernel
theorem dX7_rememberChart_10 : decode cX7_rememberChart 10 = .ok (.getfield 10, 3) := by decide +kernel
theorem dX7_rememberChart_13 : decode cX7_rememberChart 13 = .ok (.invokevirtual 100, 3) := by decide +kernel
theorem dX7_rememberChart_16 : decode cX7_rememberChart 16 = .ok (.aload_n 0, 1) := by decide +kernel
theorem dX7_rememberChart_17 : decode cX7_rememberChart 17 = .ok (.aload_n 0, 1) := by decide +kernel
theorem dX7_rememberChart_18 : decode cX7_rememberChart 18 = .ok (.getfield 331, 3) := by decide +kernel
theorem dX7_rememberChart_21 : decode cX7_rememberChart 21 = .ok (.bipush 7, 2) := by decide +kernel
theorem dX7_rememberChart_23 : decode cX7_rememberChart 23 = .ok (.if_icmp .ne 7, 3) := by decide +kernel
theorem dX7_rememberChart_26 : decode cX7_rememberChart 26 = .ok (.iconst 0, 1) := by decide +kernel
theorem dX7_rememberChart_27 : decode cX7_rememberChart 27 = .ok (.goto 9, 3) := by decide +kernel
theorem dX7_rememberChart_30 : decode cX7_rememberChart 30 = .ok (.aload_n 0, 1) := by decide +kernel
theorem dX7_rememberChart_31 : decode cX7_rememberChart 31 = .ok (.getfield 331, 3) := by decide +kernel
theorem dX7_rememberChart_34 : decode cX7_rememberChart 34 = .ok (.iconst 1, 1) := by decide +kernel
theorem dX7_rememberChart_35 : decode cX7_rememberChart 35 = .ok (.iadd, 1) := by decide +kernel
theorem dX7_rememberChart_36 : decode cX7_rememberChart 36 = .ok (.putfield 331, 3) := by decide +kernel
theorem dX7_rememberChart_39 : decode cX7_rememberChart 39 = .ok (.aload_n 0, 1) := by decide +kernel
theorem dX7_rememberChart_40 : decode cX7_rememberChart 40 = .ok (.getfield 104, 3) := by decide +kernel
theorem dX7_rememberChart_43 : decode cX7_rememberChart 43 = .ok (.bipush 8, 2) := by decide +kernel
theorem dX7_rememberChart_45 : decode cX7_rememberChart 45 = .ok (.if_icmp .ge 13, 3) := by decide +kernel
theorem dX7_rememberChart_48 : decode cX7_rememberChart 48 = .ok (.aload_n 0, 1) := by decide +kernel
theorem dX7_rememberChart_49 : decode cX7_rememberChart 49 = .ok (.dup, 1) := by decide +kernel
theorem dX7_rememberChart_50 : decode cX7_rememberChart 50 = .ok (.getfield 104, 3) := by decide +kernel
theorem dX7_rememberChart_53 : decode cX7_rememberChart 53 = .ok (.iconst 1, 1) := by decide +kernel
theorem dX7_rememberChart_54 : decode cX7_rememberChart 54 = .ok (.iadd, 1) := by decide +kernel
theorem dX7_rememberChart_55 : decode cX7_rememberChart 55 = .ok (.putfield 104, 3) := by decide +kernel
theorem dX7_rememberChart_58 : decode cX7_rememberChart 58 = .ok (.return_, 1) := by decide +kernel
theorem dX7_extent_0 : decode cX7_extent 0 = .ok (.sipush 1000, 3) := by decide +kernel
theorem dX7_extent_3 : decode cX7_extent 3 = .ok (.istore_n 2, 1) := by decide +kernel
theorem dX7_extent_4 : decode cX7_extent 4 = .ok (.sipush (-1000), 3) := by decide +kernel
theorem dX7_extent_7 : decode cX7_extent 7 = .ok (.istore_n 3, 1) := by decide +kernel
theorem dX7_extent_8 : decode cX7_extent 8 = .ok (.iconst 0, 1) := by decide +kernel
theorem dX7_extent_9 : decode cX7_extent 9 = .ok (.istore 4, 2) := by decide +kernel
theorem dX7_extent_11 : decode cX7_extent 11 = .ok (.iload 4, 2) := by decide +kernel
theorem dX7_extent_13 : decode cX7_extent 13 = .ok (.iload_n 1, 1) := by decide +kernel
theorem dX7_extent_14 : decode cX7_extent 14 = .ok (.if_icmp .ge 27, 3) := by decide +kernel
theorem dX7_extent_17 : decode cX7_extent 17 = .ok (.iload_n 2, 1) := by decide +kernel
theorem dX7_extent_18 : decode cX7_extent 18 = .ok (.aload_n 0, 1) := by decide +kernel
theorem dX7_extent_19 : decode cX7_extent 19 = .ok (.iload 4, 2) := by decide +kernel
theorem dX7_extent_21 : decode cX7_extent 21 = .ok (.iaload, 1) := by decide +kernel
theorem dX7_extent_22 : decode cX7_extent 22 = .ok (.invokestatic 355, 3) := by decide +kernel
theorem dX7_extent_25 : decode cX7_extent 25 = .ok (.istore_n 2, 1) := by decide +kernel
theorem dX7_extent_26 : decode cX7_extent 26 = .ok (.iload_n 3, 1) := by decide +kernel
theorem dX7_extent_27 : decode cX7_extent 27 = .ok (.aload_n 0, 1) := by decide +kernel
theorem dX7_extent_28 : decode cX7_extent 28 = .ok (.iload 4, 2) := by decide +kernel
theorem dX7_extent_30 : decode cX7_extent 30 = .ok (.iaload, 1) := by decide +kernel
theorem dX7_extent_31 : decode cX7_extent 31 = .ok (.invokestatic 358, 3) := by decide +kernel
theorem dX7_extent_34 : decode cX7_extent 34 = .ok (.istore_n 3, 1) := by decide +kernel
theorem dX7_extent_35 : decode cX7_extent 35 = .ok (.iinc 4 1, 3) := by decide +kernel
theorem dX7_extent_38 : decode cX7_extent 38 = .ok (.goto (-27), 3) := by decide +kernel
theorem dX7_extent_41 : decode cX7_extent 41 = .ok (.iload_n 3, 1) := by decide +kernel
theorem dX7_extent_42 : decode cX7_extent 42 = .ok (.iload_n 2, 1) := by decide +kernel
theorem dX7_extent_43 : decode cX7_extent 43 = .ok (.isub, 1) := by decide +kernel
theorem dX7_extent_44 : decode cX7_extent 44 = .ok (.ireturn, 1) := by decide +kernel
theorem dX7_isCoordinate_0 : decode cX7_isCoordinate 0 = .ok (.iload_n 0, 1) := by decide +kernel
theorem dX7_isCoordinate_1 : decode cX7_isCoordinate 1 = .ok (.sipush (-1000), 3) := by decide +kernel
theorem dX7_isCoordinate_4 : decode cX7_isCoordinate 4 = .ok (.if_icmp .lt 14, 3) := by decide +kernel
theorem dX7_isCoordinate_7 : decode cX7_isCoordinate 7 = .ok (.iload_n 0, 1) := by decide +kernel
theorem dX7_isCoordinate_8 : decode cX7_isCoordinate 8 = .ok (.sipush 1000, 3) := by decide +kernel
theorem dX7_isCoordinate_11 : decode cX7_isCoordinate 11 = .ok (.if_icmp .gt 7, 3) := by decide +kernel
theorem dX7_isCoordinate_14 : decode cX7_isCoordinate 14 = .ok (.iconst 1, 1) := by decide +kernel
theorem dX7_isCoordinate_15 : decode cX7_isCoordinate 15 = .ok (.goto 4, 3) := by decide +kernel
theorem dX7_isCoordinate_18 : decode cX7_isCoordinate 18 = .ok (.iconst 0, 1) := by decide +kernel
theorem dX7_isCoordinate_19 : decode cX7_isCoordinate 19 = .ok (.ireturn, 1) := by decide +kernel

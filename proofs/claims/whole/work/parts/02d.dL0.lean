theorem dL_loadMap_0 : decode cL_loadMap 0 = .ok (.aload_n 2, 1) := by decide +kernel
theorem dL_loadMap_1 : decode cL_loadMap 1 = .ok (.iconst 0, 1) := by decide +kernel
theorem dL_loadMap_2 : decode cL_loadMap 2 = .ok (.aload_n 0, 1) := by decide +kernel
theorem dL_loadMap_3 : decode cL_loadMap 3 = .ok (.iload_n 1, 1) := by decide +kernel
theorem dL_loadMap_4 : decode cL_loadMap 4 = .ok (.invokevirtual 7, 3) := by decide +kernel
theorem dL_loadMap_7 : decode cL_loadMap 7 = .ok (.i2l, 1) := by decide +kernel
theorem dL_loadMap_8 : decode cL_loadMap 8 = .ok (.lastore, 1) := by decide +kernel
theorem dL_loadMap_9 : decode cL_loadMap 9 = .ok (.goto 6, 3) := by decide +kernel
theorem dL_loadMap_12 : decode cL_loadMap 12 = .ok (.astore_n 3, 1) := by decide +kernel
theorem dL_loadMap_13 : decode cL_loadMap 13 = .ok (.iconst 1, 1) := by decide +kernel
theorem dL_loadMap_14 : decode cL_loadMap 14 = .ok (.ireturn, 1) := by decide +kernel
theorem dL_loadMap_15 : decode cL_loadMap 15 = .ok (.iconst 0, 1) := by decide +kernel
theorem dL_loadMap_16 : decode cL_loadMap 16 = .ok (.ireturn, 1) := by decide +kernel
theorem dL_isIsland_0 : decode cL_isIsland 0 = .ok (.aload_n 2, 1) := by decide +kernel
theorem dL_isIsland_1 : decode cL_isIsland 1 = .ok (.iconst 0, 1) := by decide +kernel
theorem dL_isIsland_2 : decode cL_isIsland 2 = .ok (.aload_n 0, 1) := by decide +kernel
theorem dL_isIsland_3 : decode cL_isIsland 3 = .ok (.iload_n 1, 1) := by decide +kernel
theorem dL_isIsland_4 : decode cL_isIsland 4 = .ok (.invokevirtual 15, 3) := by decide +kernel
theorem dL_isIsland_7 : decode cL_isIsland 7 = .ok (.ifCond .eq 7, 3) := by decide +kernel
theorem dL_isIsland_10 : decode cL_isIsland 10 = .ok (.lconst 1, 1) := by decide +kernel
theorem dL_isIsland_11 : decode cL_isIsland 11 = .ok (.goto 4, 3) := by decide +kernel
theorem dL_isIsland_14 : decode cL_isIsland 14 = .ok (.lconst 0, 1) := by decide +kernel
theorem dL_isIsland_15 : decode cL_isIsland 15 = .ok (.lastore, 1) := by decide +kernel
theorem dL_isIsland_16 : decode cL_isIsland 16 = .ok (.goto 6, 3) := by decide +kernel
theorem dL_isIsland_19 : decode cL_isIsland 19 = .ok (.astore_n 3, 1) := by decide +kernel
theorem dL_isIsland_20 : decode cL_isIsland 20 = .ok (.iconst 1, 1) := by decide +kernel
theorem dL_isIsland_21 : decode cL_isIsland 21 = .ok (.ireturn, 1) := by decide +kernel
theorem dL_isIsland_22 : decode cL_isIsland 22 = .ok (.iconst 0, 1) := by decide +kernel
theorem dL_isIsland_23 : decode cL_isIsland 23 = .ok (.ireturn, 1) := by decide +kernel
theorem dL_pointCount_0 : decode cL_pointCount 0 = .ok (.aload_n 2, 1) := by decide +kernel
theorem dL_pointCount_1 : decode cL_pointCount 1 = .ok (.iconst 0, 1) := by decide +kernel
theorem dL_pointCount_2 : decode cL_pointCount 2 = .ok (.aload_n 0, 1) := by decide +kernel
theorem dL_pointCount_3 : decode cL_pointCount 3 = .ok (.iload_n 1, 1) := by decide +kernel
theorem dL_pointCount_4 : decode cL_pointCount 4 = .ok (.invokevirtual 21, 3) := by decide +kernel
theorem dL_pointCount_7 : decode cL_pointCount 7 = .ok (.i2l, 1) := by decide +kernel
theorem dL_pointCount_8 : decode cL_pointCount 8 = .ok (.lastore, 1) := by decide +kernel
theorem dL_pointCount_9 : decode cL_pointCount 9 = .ok (.goto 6, 3) := by decide +kernel
theorem dL_pointCount_12 : decode cL_pointCount 12 = .ok (.astore_n 3, 1) := by decide +kernel
theorem dL_pointCount_13 : decode cL_pointCount 13 = .ok (.iconst 1, 1) := by decide +kernel
theorem dL_pointCount_14 : decode cL_pointCount 14 = .ok (.ireturn, 1) := by decide +kernel
theorem dL_pointCount_15 : decode cL_pointCount 15 = .ok (.iconst 0, 1) := by decide +kernel
theorem dL_pointCount_16 : decode cL_pointCount 16 = .ok (.ireturn, 1) := by decide +kernel
theorem dL_pointX_0 : decode cL_pointX 0 = .ok (.aload_n 3, 1) := by decide +kernel
theorem dL_pointX_1 : decode cL_pointX 1 = .ok (.iconst 0, 1) := by decide +kernel
theorem dL_pointX_2 : decode cL_pointX 2 = .ok (.aload_n 0, 1) := by decide +kernel
theorem dL_pointX_3 : decode cL_pointX 3 = .ok (.iload_n 1, 1) := by decide +kernel
theorem dL_pointX_4 : decode cL_pointX 4 = .ok (.iload_n 2, 1) := by decide +kernel
theorem dL_pointX_5 : decode cL_pointX 5 = .ok (.invokevirtual 24, 3) := by decide +kernel
theorem dL_pointX_8 : decode cL_pointX 8 = .ok (.i2l, 1) := by decide +kernel
theorem dL_pointX_9 : decode cL_pointX 9 = .ok (.lastore, 1) := by decide +kernel
theorem dL_pointX_10 : decode cL_pointX 10 = .ok (.goto 7, 3) := by decide +kernel
theorem dL_pointX_13 : decode cL_pointX 13 = .ok (.astore 4, 2) := by decide +kernel
theorem dL_pointX_15 : decode cL_pointX 15 = .ok (.iconst 1, 1) := by decide +kernel
theorem dL_pointX_16 : decode cL_pointX 16 = .ok (.ireturn, 1) := by decide +kernel
theorem dL_pointX_17 : decode cL_pointX 17 = .ok (.iconst 0, 1) := by decide +kernel
theorem dL_pointX_18 : decode cL_pointX 18 = .ok (.ireturn, 1) := by decide +kernel
theorem dL_pointY_0 : decode cL_pointY 0 = .ok (.aload_n 3, 1) := by decide +kernel
theorem dL_pointY_1 : decode cL_pointY 1 = .ok (.iconst 0, 1) := by decide +kernel
theorem dL_pointY_2 : decode cL_pointY 2 = .ok (.aload_n 0, 1) := by decide +kernel
theorem dL_pointY_3 : decode cL_pointY 3 = .ok (.iload_n 1, 1) := by decide +kernel
theorem dL_pointY_4 : decode cL_pointY 4 = .ok (.iload_n 2, 1) := by decide +kernel
theorem dL_pointY_5 : decode cL_pointY 5 = .ok (.invokevirtual 28, 3) := by decide +kernel
theorem dL_pointY_8 : decode cL_pointY 8 = .ok (.i2l, 1) := by decide +kernel
theorem dL_pointY_9 : decode cL_pointY 9 = .ok (.lastore, 1) := by decide +kernel
theorem dL_pointY_10 : decode cL_pointY 10 = .ok (.goto 7, 3) := by decide +kernel
theorem dL_pointY_13 : decode cL_pointY 13 = .ok (.astore 4, 2) := by decide +kernel
theorem dL_pointY_15 : decode cL_pointY 15 = .ok (.iconst 1, 1) := by decide +kernel
theorem dL_pointY_16 : decode cL_pointY 16 = .ok (.ireturn, 1) := by decide +kernel
theorem dL_pointY_17 : decode cL_pointY 17 = .ok (.iconst 0, 1) := by decide +kernel
theorem dL_pointY_18 : decode cL_pointY 18 = .ok (.ireturn, 1) := by decide +kernel
theorem dL_pointDistance_0 : decode cL_pointDistance 0 = .ok (.aload 4, 2) := by decide +kernel
theorem dL_pointDistance_2 : decode cL_pointDistance 2 = .ok (.iconst 0, 1) := by decide +kernel
theorem dL_pointDistance_3 : decode cL_pointDistance 3 = .ok (.aload_n 0, 1) := by decide +kernel
theorem dL_pointDistance_4 : decode cL_pointDistance 4 = .ok (.iload_n 1, 1) := by decide +kernel
theorem dL_pointDistance_5 : decode cL_pointDistance 5 = .ok (.iload_n 2, 1) := by decide +kernel
theorem dL_pointDistance_6 : decode cL_pointDistance 6 = .ok (.iload_n 3, 1) := by decide +kernel
theorem dL_pointDistance_7 : decode cL_pointDistance 7 = .ok (.invokevirtual 31, 3) := by decide +kernel
theorem dL_pointDistance_10 : decode cL_pointDistance 10 = .ok (.i2l, 1) := by decide +kernel
theorem dL_pointDistance_11 : decode cL_pointDistance 11 = .ok (.lastore, 1) := by decide +kernel
theorem dL_pointDistance_12 : decode cL_pointDistance 12 = .ok (.goto 7, 3) := by decide +kernel
theorem dL_pointDistance_15 : decode cL_pointDistance 15 = .ok (.astore 5, 2) := by decide +kernel
theorem dL_pointDistance_17 : decode cL_pointDistance 17 = .ok (.iconst 1, 1) := by decide +kernel
theorem dL_pointDistance_18 : decode cL_pointDistance 18 = .ok (.ireturn, 1) := by decide +kernel
theorem dL_pointDistance_19 : decode cL_pointDistance 19 = .ok (.iconst 0, 1) := by decide +kernel
theorem dL_pointDistance_20 : decode cL_pointDistance 20 = .ok (.ireturn, 1) := by decide +kernel
theorem dL_nearestPoint_0 : decode cL_nearestPoint 0 = .ok (.aload 4, 2) := by decide +kernel
theorem dL_nearestPoint_2 : decode cL_nearestPoint 2 = .ok (.iconst 0, 1) := by decide +kernel
theorem dL_nearestPoint_3 : decode cL_nearestPoint 3 = .ok (.aload_n 0, 1) := by decide +kernel
theorem dL_nearestPoint_4 : decode cL_nearestPoint 4 = .ok (.iload_n 1, 1) := by decide +kernel
theorem dL_nearestPoint_5 : decode cL_nearestPoint 5 = .ok (.iload_n 2, 1) := by decide +kernel
theorem dL_nearestPoint_6 : decode cL_nearestPoint 6 = .ok (.iload_n 3, 1) := by decide +kernel
theorem dL_nearestPoint_7 : decode cL_nearestPoint 7 = .ok (.invokevirtual 35, 3) := by decide +kernel
theorem dL_nearestPoint_10 : decode cL_nearestPoint 10 = .ok (.i2l, 1) := by decide +kernel
theorem dL_nearestPoint_11 : decode cL_nearestPoint 11 = .ok (.lastore, 1) := by decide +kernel
theorem dL_nearestPoint_12 : decode cL_nearestPoint 12 = .ok (.goto 11, 3) := by decide +kernel
theorem dL_nearestPoint_15 : decode cL_nearestPoint 15 = .ok (.astore 5, 2) := by decide +kernel
theorem dL_nearestPoint_17 : decode cL_nearestPoint 17 = .ok (.iconst 1, 1) := by decide +kernel
theorem dL_nearestPoint_18 : decode cL_nearestPoint 18 = .ok (.ireturn, 1) := by decide +kernel
theorem dL_nearestPoint_19 : decode cL_nearestPoint 19 = .ok (.astore 5, 2) := by decide +kernel
theorem dL_nearestPoint_21 : decode cL_nearestPoint 21 = .ok (.iconst 2, 1) := by decide +kernel
theorem dL_nearestPoint_22 : decode cL_nearestPoint 22 = .ok (.ireturn, 1) := by decide +kernel
theorem dL_nearestPoint_23 : decode cL_nearestPoint 23 = .ok (.iconst 0, 1) := by decide +kernel
theorem dL_nearestPoint_24 : decode cL_nearestPoint 24 = .ok (.ireturn, 1) := by decide +kernel
theorem dL_lengthAt_0 : decode cL_lengthAt 0 = .ok (.aload_n 3, 1) := by decide +kernel
theorem dL_lengthAt_1 : decode cL_lengthAt 1 = .ok (.iconst 0, 1) := by decide +kernel
theorem dL_lengthAt_2 : decode cL_lengthAt 2 = .ok (.aload_n 0, 1) := by decide +kernel
theorem dL_lengthAt_3 : decode cL_lengthAt 3 = .ok (.iload_n 1, 1) := by decide +kernel
theorem dL_lengthAt_4 : decode cL_lengthAt 4 = .ok (.iload_n 2, 1) := by decide +kernel
theorem dL_lengthAt_5 : decode cL_lengthAt 5 = .ok (.invokevirtual 38, 3) := by decide +kernel
theorem dL_lengthAt_8 : decode cL_lengthAt 8 = .ok (.i2l, 1) := by decide +kernel
theorem dL_lengthAt_9 : decode cL_lengthAt 9 = .ok (.lastore, 1) := by decide +kernel
theorem dL_lengthAt_10 : decode cL_lengthAt 10 = .ok (.goto 11, 3) := by decide +kernel
theorem dL_lengthAt_13 : decode cL_lengthAt 13 = .ok (.astore 4, 2) := by decide +kernel
theorem dL_lengthAt_15 : decode cL_lengthAt 15 = .ok (.iconst 1, 1) := by decide +kernel
theorem dL_lengthAt_16 : decode cL_lengthAt 16 = .ok (.ireturn, 1) := by decide +kernel
theorem dL_lengthAt_17 : decode cL_lengthAt 17 = .ok (.astore 4, 2) := by decide +kernel
theorem dL_lengthAt_19 : decode cL_lengthAt 19 = .ok (.iconst 2, 1) := by decide +kernel
theorem dL_lengthAt_20 : decode cL_lengthAt 20 = .ok (.ireturn, 1) := by decide +kernel
theorem dL_lengthAt_21 : decode cL_lengthAt 21 = .ok (.iconst 0, 1) := by decide +kernel
theorem dL_lengthAt_22 : decode cL_lengthAt 22 = .ok (.ireturn, 1) := by decide +kernel
theorem dL_stickCount_0 : decode cL_stickCount 0 = .ok (.aload_n 3, 1) := by decide +kernel
theorem dL_stickCount_1 : decode cL_stickCount 1 = .ok (.iconst 0, 1) := by decide +kernel
theorem dL_stickCount_2 : decode cL_stickCount 2 = .ok (.aload_n 0, 1) := by decide +kernel
theorem dL_stickCount_3 : decode cL_stickCount 3 = .ok (.iload_n 1, 1) := by decide +kernel
theorem dL_stickCount_4 : decode cL_stickCount 4 = .ok (.iload_n 2, 1) := by decide +kernel
theorem dL_stickCount_5 : decode cL_stickCount 5 = .ok (.invokevirtual 41, 3) := by decide +kernel
theorem dL_stickCount_8 : decode cL_stickCount 8 = .ok (.i2l, 1) := by decide +kernel
theorem dL_stickCount_9 : decode cL_stickCount 9 = .ok (.lastore, 1) := by decide +kernel
theorem dL_stickCount_10 : decode cL_stickCount 10 = .ok (.goto 11, 3) := by decide +kernel
theorem dL_stickCount_13 : decode cL_stickCount 13 = .ok (.astore 4, 2) := by decide +kernel
theorem dL_stickCount_15 : decode cL_stickCount 15 = .ok (.iconst 1, 1) := by decide +kernel
theorem dL_stickCount_16 : decode cL_stickCount 16 = .ok (.ireturn, 1) := by decide +kernel
theorem dL_stickCount_17 : decode cL_stickCount 17 = .ok (.astore 4, 2) := by decide +kernel
theorem dL_stickCount_19 : decode cL_stickCount 19 = .ok (.iconst 2, 1) := by decide +kernel
theorem dL_stickCount_20 : decode cL_stickCount 20 = .ok (.ireturn, 1) := by decide +kernel
theorem dL_stickCount_21 : decode cL_stickCount 21 = .ok (.iconst 0, 1) := by decide +kernel
theorem dL_stickCount_22 : decode cL_stickCount 22 = .ok (.ireturn, 1) := by decide +kernel
theorem dL_stickStart_0 : decode cL_stickStart 0 = .ok (.aload 4, 2) := by decide +kernel
theorem dL_stickStart_2 : decode cL_stickStart 2 = .ok (.iconst 0, 1) := by decide +kernel
theorem dL_stickStart_3 : decode cL_stickStart 3 = .ok (.aload_n 0, 1) := by decide +kernel
theorem dL_stickStart_4 : decode cL_stickStart 4 = .ok (.iload_n 1, 1) := by decide +kernel
theorem dL_stickStart_5 : decode cL_stickStart 5 = .ok (.iload_n 2, 1) := by decide +kernel
theorem dL_stickStart_6 : decode cL_stickStart 6 = .ok (.iload_n 3, 1) := by decide +kernel
theorem dL_stickStart_7 : decode cL_stickStart 7 = .ok (.invokevirtual 44, 3) := by decide +kernel
theorem dL_stickStart_10 : decode cL_stickStart 10 = .ok (.i2l, 1) := by decide +kernel
theorem dL_stickStart_11 : decode cL_stickStart 11 = .ok (.lastore, 1) := by decide +kernel
theorem dL_stickStart_12 : decode cL_stickStart 12 = .ok (.goto 11, 3) := by decide +kernel
theorem dL_stickStart_15 : decode cL_stickStart 15 = .ok (.astore 5, 2) := by decide +kernel
theorem dL_stickStart_17 : decode cL_stickStart 17 = .ok (.iconst 1, 1) := by decide +kernel
theorem dL_stickStart_18 : decode cL_stickStart 18 = .ok (.ireturn, 1) := by decide +kernel
theorem dL_stickStart_19 : decode cL_stickStart 19 = .ok (.astore 5, 2) := by decide +kernel
theorem dL_stickStart_21 : decode cL_stickStart 21 = .ok (.iconst 2, 1) := by decide +kernel
theorem dL_stickStart_22 : decode cL_stickStart 22 = .ok (.ireturn, 1) := by decide +kernel
theorem dL_stickStart_23 : decode cL_stickStart 23 = .ok (.iconst 0, 1) := by decide +kernel
theorem dL_stickStart_24 : decode cL_stickStart 24 = .ok (.ireturn, 1) := by decide +kernel
theorem dL_stickLength_0 : decode cL_stickLength 0 = .ok (.aload 4, 2) := by decide +kernel
theorem dL_stickLength_2 : decode cL_stickLength 2 = .ok (.iconst 0, 1) := by decide +kernel
theorem dL_stickLength_3 : decode cL_stickLength 3 = .ok (.aload_n 0, 1) := by decide +kernel
theorem dL_stickLength_4 : decode cL_stickLength 4 = .ok (.iload_n 1, 1) := by decide +kernel
theorem dL_stickLength_5 : decode cL_stickLength 5 = .ok (.iload_n 2, 1) := by decide +kernel
theorem dL_stickLength_6 : decode cL_stickLength 6 = .ok (.iload_n 3, 1) := by decide +kernel
theorem dL_stickLength_7 : decode cL_stickLength 7 = .ok (.invokevirtual 47, 3) := by decide +kernel
theorem dL_stickLength_10 : decode cL_stickLength 10 = .ok (.i2l, 1) := by decide +kernel
theorem dL_stickLength_11 : decode cL_stickLength 11 = .ok (.lastore, 1) := by decide +kernel
theorem dL_stickLength_12 : decode cL_stickLength 12 = .ok (.goto 11, 3) := by decide +kernel
theorem dL_stickLength_15 : decode cL_stickLength 15 = .ok (.astore 5, 2) := by decide +kernel
theorem dL_stickLength_17 : decode cL_stickLength 17 = .ok (.iconst 1, 1) := by decide +kernel
theorem dL_stickLength_18 : decode cL_stickLength 18 = .ok (.ireturn, 1) := by decide +kernel
theorem dL_stickLength_19 : decode cL_stickLength 19 = .ok (.astore 5, 2) := by decide +kernel
theorem dL_stickLength_21 : decode cL_stickLength 21 = .ok (.iconst 2, 1) := by decide +kernel
theorem dL_stickLength_22 : decode cL_stickLength 22 = .ok (.ireturn, 1) := by decide +kernel
theorem dL_stickLength_23 : decode cL_stickLength 23 = .ok (.iconst 0, 1) := by decide +kernel
theorem dL_stickLength_24 : decode cL_stickLength 24 = .ok (.ireturn, 1) := by decide +kernel
theorem dL_longestStick_0 : decode cL_longestStick 0 = .ok (.aload_n 3, 1) := by decide +kernel
theorem dL_longestStick_1 : decode cL_longestStick 1 = .ok (.iconst 0, 1) := by decide +kernel
theorem dL_longestStick_2 : decode cL_longestStick 2 = .ok (.aload_n 0, 1) := by decide +kernel
theorem dL_longestStick_3 : decode cL_longestStick 3 = .ok (.iload_n 1, 1) := by decide +kernel
theorem dL_longestStick_4 : decode cL_longestStick 4 = .ok (.iload_n 2, 1) := by decide +kernel
theorem dL_longestStick_5 : decode cL_longestStick 5 = .ok (.invokevirtual 50, 3) := by decide +kernel
theorem dL_longestStick_8 : decode cL_longestStick 8 = .ok (.i2l, 1) := by decide +kernel
theorem dL_longestStick_9 : decode cL_longestStick 9 = .ok (.lastore, 1) := by decide +kernel
theorem dL_longestStick_10 : decode cL_longestStick 10 = .ok (.goto 11, 3) := by decide +kernel
theorem dL_longestStick_13 : decode cL_longestStick 13 = .ok (.astore 4, 2) := by decide +kernel
theorem dL_longestStick_15 : decode cL_longestStick 15 = .ok (.iconst 1, 1) := by decide +kernel
theorem dL_longestStick_16 : decode cL_longestStick 16 = .ok (.ireturn, 1) := by decide +kernel
theorem dL_longestStick_17 : decode cL_longestStick 17 = .ok (.astore 4, 2) := by decide +kernel
theorem dL_longestStick_19 : decode cL_longestStick 19 = .ok (.iconst 2, 1) := by decide +kernel
theorem dL_longestStick_20 : decode cL_longestStick 20 = .ok (.ireturn, 1) := by decide +kernel
theorem dL_longestStick_21 : decode cL_longestStick 21 = .ok (.iconst 0, 1) := by decide +kernel
theorem dL_longestStick_22 : decode cL_longestStick 22 = .ok (.ireturn, 1) := by decide +kernel
theorem dL_lengthGain_0 : decode cL_lengthGain 0 = .ok (.aload_n 3, 1) := by decide +kernel
theorem dL_lengthGain_1 : decode cL_lengthGain 1 = .ok (.iconst 0, 1) := by decide +kernel
theorem dL_lengthGain_2 : decode cL_lengthGain 2 = .ok (.aload_n 0, 1) := by decide +kernel
theorem dL_lengthGain_3 : decode cL_lengthGain 3 = .ok (.iload_n 1, 1) := by decide +kernel
theorem dL_lengthGain_4 : decode cL_lengthGain 4 = .ok (.iload_n 2, 1) := by decide +kernel
theorem dL_lengthGain_5 : decode cL_lengthGain 5 = .ok (.invokevirtual 53, 3) := by decide +kernel
theorem dL_lengthGain_8 : decode cL_lengthGain 8 = .ok (.i2l, 1) := by decide +kernel
theorem dL_lengthGain_9 : decode cL_lengthGain 9 = .ok (.lastore, 1) := by decide +kernel
theorem dL_lengthGain_10 : decode cL_lengthGain 10 = .ok (.goto 11, 3) := by decide +kernel
theorem dL_lengthGain_13 : decode cL_lengthGain 13 = .ok (.astore 4, 2) := by decide +kernel
theorem dL_lengthGain_15 : decode cL_lengthGain 15 = .ok (.iconst 1, 1) := by decide +kernel
theorem dL_lengthGain_16 : decode cL_lengthGain 16 = .ok (.ireturn, 1) := by decide +kernel
theorem dL_lengthGain_17 : decode cL_lengthGain 17 = .ok (.astore 4, 2) := by decide +kernel
theorem dL_lengthGain_19 : decode cL_lengthGain 19 = .ok (.iconst 2, 1) := by decide +kernel
theorem dL_lengthGain_20 : decode cL_lengthGain 20 = .ok (.ireturn, 1) := by decide +kernel
theorem dL_lengthGain_21 : decode cL_lengthGain 21 = .ok (.iconst 0, 1) := by decide +kernel
theorem dL_lengthGain_22 : decode cL_lengthGain 22 = .ok (.ireturn, 1) := by decide +kernel
theorem dL_levelOfGreatestGain_0 : decode cL_levelOfGreatestGain 0 = .ok (.aload_n 2, 1) := by decide +kernel
theorem dL_levelOfGreatestGain_1 : decode cL_levelOfGreatestGain 1 = .ok (.iconst 0, 1) := by decide +kernel
theorem dL_levelOfGreatestGain_2 : decode cL_levelOfGreatestGain 2 = .ok (.aload_n 0, 1) := by decide +kernel
theorem dL_levelOfGreatestGain_3 : decode cL_levelOfGreatestGain 3 = .ok (.iload_n 1, 1) := by decide +kernel
theorem dL_levelOfGreatestGain_4 : decode cL_levelOfGreatestGain 4 = .ok (.invokevirtual 56, 3) := by decide +kernel
theorem dL_levelOfGreatestGain_7 : decode cL_levelOfGreatestGain 7 = .ok (.i2l, 1) := by decide +kernel
theorem dL_levelOfGreatestGain_8 : decode cL_levelOfGreatestGain 8 = .ok (.lastore, 1) := by decide +kernel
theorem dL_levelOfGreatestGain_9 : decode cL_levelOfGreatestGain 9 = .ok (.goto 6, 3) := by decide +kernel
theorem dL_levelOfGreatestGain_12 : decode cL_levelOfGreatestGain 12 = .ok (.astore_n 3, 1) := by decide +kernel
theorem dL_levelOfGreatestGain_13 : decode cL_levelOfGreatestGain 13 = .ok (.iconst 1, 1) := by decide +kernel
theorem dL_levelOfGreatestGain_14 : decode cL_levelOfGreatestGain 14 = .ok (.ireturn, 1) := by decide +kernel
theorem dL_levelOfGreatestGain_15 : decode cL_levelOfGreatestGain 15 = .ok (.iconst 0, 1) := by decide +kernel
theorem dL_levelOfGreatestGain_16 : decode cL_levelOfGreatestGain 16 = .ok (.ireturn, 1) := by decide +kernel
theorem dL_coarsestLevelFor_0 : decode cL_coarsestLevelFor 0 = .ok (.aload_n 3, 1) := by decide +kernel
theorem dL_coarsestLevelFor_1 : decode cL_coarsestLevelFor 1 = .ok (.iconst 0, 1) := by decide +kernel
theorem dL_coarsestLevelFor_2 : decode cL_coarsestLevelFor 2 = .ok (.aload_n 0, 1) := by decide +kernel
theorem dL_coarsestLevelFor_3 : decode cL_coarsestLevelFor 3 = .ok (.iload_n 1, 1) := by decide +kernel
theorem dL_coarsestLevelFor_4 : decode cL_coarsestLevelFor 4 = .ok (.iload_n 2, 1) := by decide +kernel
theorem dL_coarsestLevelFor_5 : decode cL_coarsestLevelFor 5 = .ok (.invokevirtual 59, 3) := by decide +kernel
theorem dL_coarsestLevelFor_8 : decode cL_coarsestLevelFor 8 = .ok (.i2l, 1) := by decide +kernel
theorem dL_coarsestLevelFor_9 : decode cL_coarsestLevelFor 9 = .ok (.lastore, 1) := by decide +kernel
theorem dL_coarsestLevelFor_10 : decode cL_coarsestLevelFor 10 = .ok (.goto 11, 3) := by decide +kernel
theorem dL_coarsestLevelFor_13 : decode cL_coarsestLevelFor 13 = .ok (.astore 4, 2) := by decide +kernel
theorem dL_coarsestLevelFor_15 : decode cL_coarsestLevelFor 15 = .ok (.iconst 1, 1) := by decide +kernel
theorem dL_coarsestLevelFor_16 : decode cL_coarsestLevelFor 16 = .ok (.ireturn, 1) := by decide +kernel
theorem dL_coarsestLevelFor_17 : decode cL_coarsestLevelFor 17 = .ok (.astore 4, 2) := by decide +kernel
theorem dL_coarsestLevelFor_19 : decode cL_coarsestLevelFor 19 = .ok (.iconst 2, 1) := by decide +kernel
theorem dL_coarsestLevelFor_20 : decode cL_coarsestLevelFor 20 = .ok (.ireturn, 1) := by decide +kernel
theorem dL_coarsestLevelFor_21 : decode cL_coarsestLevelFor 21 = .ok (.iconst 0, 1) := by decide +kernel
theorem dL_coarsestLevelFor_22 : decode cL_coarsestLevelFor 22 = .ok (.ireturn, 1) := by decide +kernel
theorem dL_coarsestExactLevel_0 : decode cL_coarsestExactLevel 0 = .ok (.aload_n 2, 1) := by decide +kernel
theorem dL_coarsestExactLevel_1 : decode cL_coarsestExactLevel 1 = .ok (.iconst 0, 1) := by decide +kernel
theorem dL_coarsestExactLevel_2 : decode cL_coarsestExactLevel 2 = .ok (.aload_n 0, 1) := by decide +kernel
theorem dL_coarsestExactLevel_3 : decode cL_coarsestExactLevel 3 = .ok (.iload_n 1, 1) := by decide +kernel
theorem dL_coarsestExactLevel_4 : decode cL_coarsestExactLevel 4 = .ok (.invokevirtual 62, 3) := by decide +kernel
theorem dL_coarsestExactLevel_7 : decode cL_coarsestExactLevel 7 = .ok (.i2l, 1) := by decide +kernel
theorem dL_coarsestExactLevel_8 : decode cL_coarsestExactLevel 8 = .ok (.lastore, 1) := by decide +kernel
theorem dL_coarsestExactLevel_9 : decode cL_coarsestExactLevel 9 = .ok (.goto 6, 3) := by decide +kernel
theorem dL_coarsestExactLevel_12 : decode cL_coarsestExactLevel 12 = .ok (.astore_n 3, 1) := by decide +kernel
theorem dL_coarsestExactLevel_13 : decode cL_coarsestExactLevel 13 = .ok (.iconst 1, 1) := by decide +kernel
theorem dL_coarsestExactLevel_14 : decode cL_coarsestExactLevel 14 = .ok (.ireturn, 1) := by decide +kernel
theorem dL_coarsestExactLevel_15 : decode cL_coarsestExactLevel 15 = .ok (.iconst 0, 1) := by decide +kernel
theorem dL_coarsestExactLevel_16 : decode cL_coarsestExactLevel 16 = .ok (.ireturn, 1) := by decide +kernel
theorem dL_totalLength_0 : decode cL_totalLength 0 = .ok (.aload_n 2, 1) := by decide +kernel
theorem dL_totalLength_1 : decode cL_totalLength 1 = .ok (.iconst 0, 1) := by decide +kernel
theorem dL_totalLength_2 : decode cL_totalLength 2 = .ok (.aload_n 0, 1) := by decide +kernel
theorem dL_totalLength_3 : decode cL_totalLength 3 = .ok (.iload_n 1, 1) := by decide +kernel
theorem dL_totalLength_4 : decode cL_totalLength 4 = .ok (.invokevirtual 65, 3) := by decide +kernel
theorem dL_totalLength_7 : decode cL_totalLength 7 = .ok (.i2l, 1) := by decide +kernel
theorem dL_totalLength_8 : decode cL_totalLength 8 = .ok (.lastore, 1) := by decide +kernel
theorem dL_totalLength_9 : decode cL_totalLength 9 = .ok (.goto 6, 3) := by decide +kernel
theorem dL_totalLength_12 : decode cL_totalLength 12 = .ok (.astore_n 3, 1) := by decide +kernel
theorem dL_totalLength_13 : decode cL_totalLength 13 = .ok (.iconst 1, 1) := by decide +kernel
theorem dL_totalLength_14 : decode cL_totalLength 14 = .ok (.ireturn, 1) := by decide +kernel
theorem dL_totalLength_15 : decode cL_totalLength 15 = .ok (.iconst 0, 1) := by decide +kernel
theorem dL_totalLength_16 : decode cL_totalLength 16 = .ok (.ireturn, 1) := by decide +kernel
theorem dL_longestCoast_0 : decode cL_longestCoast 0 = .ok (.aload_n 2, 1) := by decide +kernel
theorem dL_longestCoast_1 : decode cL_longestCoast 1 = .ok (.iconst 0, 1) := by decide +kernel
theorem dL_longestCoast_2 : decode cL_longestCoast 2 = .ok (.aload_n 0, 1) := by decide +kernel
theorem dL_longestCoast_3 : decode cL_longestCoast 3 = .ok (.iload_n 1, 1) := by decide +kernel
theorem dL_longestCoast_4 : decode cL_longestCoast 4 = .ok (.invokevirtual 68, 3) := by decide +kernel
theorem dL_longestCoast_7 : decode cL_longestCoast 7 = .ok (.i2l, 1) := by decide +kernel
theorem dL_longestCoast_8 : decode cL_longestCoast 8 = .ok (.lastore, 1) := by decide +kernel
theorem dL_longestCoast_9 : decode cL_longestCoast 9 = .ok (.goto 6, 3) := by decide +kernel
theorem dL_longestCoast_12 : decode cL_longestCoast 12 = .ok (.astore_n 3, 1) := by decide +kernel
theorem dL_longestCoast_13 : decode cL_longestCoast 13 = .ok (.iconst 1, 1) := by decide +kernel
theorem dL_longestCoast_14 : decode cL_longestCoast 14 = .ok (.ireturn, 1) := by decide +kernel
theorem dL_longestCoast_15 : decode cL_longestCoast 15 = .ok (.iconst 0, 1) := by decide +kernel
theorem dL_longestCoast_16 : decode cL_longestCoast 16 = .ok (.ireturn, 1) := by decide +kernel
theorem dL_refinementRatio_0 : decode cL_refinementRatio 0 = .ok (.aload_n 3, 1) := by decide +kernel
theorem dL_refinementRatio_1 : decode cL_refinementRatio 1 = .ok (.iconst 0, 1) := by decide +kernel
theorem dL_refinementRatio_2 : decode cL_refinementRatio 2 = .ok (.aload_n 0, 1) := by decide +kernel
theorem dL_refinementRatio_3 : decode cL_refinementRatio 3 = .ok (.iload_n 1, 1) := by decide +kernel
theorem dL_refinementRatio_4 : decode cL_refinementRatio 4 = .ok (.iload_n 2, 1) := by decide +kernel
theorem dL_refinementRatio_5 : decode cL_refinementRatio 5 = .ok (.invokevirtual 71, 3) := by decide +kernel
theorem dL_refinementRatio_8 : decode cL_refinementRatio 8 = .ok (.dastore, 1) := by decide +kernel
theorem dL_refinementRatio_9 : decode cL_refinementRatio 9 = .ok (.goto 11, 3) := by decide +kernel
theorem dL_refinementRatio_12 : decode cL_refinementRatio 12 = .ok (.astore 4, 2) := by decide +kernel
theorem dL_refinementRatio_14 : decode cL_refinementRatio 14 = .ok (.iconst 1, 1) := by decide +kernel
theorem dL_refinementRatio_15 : decode cL_refinementRatio 15 = .ok (.ireturn, 1) := by decide +kernel
theorem dL_refinementRatio_16 : decode cL_refinementRatio 16 = .ok (.astore 4, 2) := by decide +kernel
theorem dL_refinementRatio_18 : decode cL_refinementRatio 18 = .ok (.iconst 2, 1) := by decide +kernel
theorem dL_refinementRatio_19 : decode cL_refinementRatio 19 = .ok (.ireturn, 1) := by decide +kernel
theorem dL_refinementRatio_20 : decode cL_refinementRatio 20 = .ok (.iconst 0, 1) := by decide +kernel
theorem dL_refinementRatio_21 : decode cL_refinementRatio 21 = .ok (.ireturn, 1) := by decide +kernel
theorem dL_meanStickLength_0 : decode cL_meanStickLength 0 = .ok (.aload_n 3, 1) := by decide +kernel
theorem dL_meanStickLength_1 : decode cL_meanStickLength 1 = .ok (.iconst 0, 1) := by decide +kernel
theorem dL_meanStickLength_2 : decode cL_meanStickLength 2 = .ok (.aload_n 0, 1) := by decide +kernel
theorem dL_meanStickLength_3 : decode cL_meanStickLength 3 = .ok (.iload_n 1, 1) := by decide +kernel
theorem dL_meanStickLength_4 : decode cL_meanStickLength 4 = .ok (.iload_n 2, 1) := by decide +kernel
theorem dL_meanStickLength_5 : decode cL_meanStickLength 5 = .ok (.invokevirtual 75, 3) := by decide +kernel
theorem dL_meanStickLength_8 : decode cL_meanStickLength 8 = .ok (.f2d, 1) := by decide +kernel
theorem dL_meanStickLength_9 : decode cL_meanStickLength 9 = .ok (.dastore, 1) := by decide +kernel
theorem dL_meanStickLength_10 : decode cL_meanStickLength 10 = .ok (.goto 11, 3) := by decide +kernel
theorem dL_meanStickLength_13 : decode cL_meanStickLength 13 = .ok (.astore 4, 2) := by decide +kernel
theorem dL_meanStickLength_15 : decode cL_meanStickLength 15 = .ok (.iconst 1, 1) := by decide +kernel
theorem dL_meanStickLength_16 : decode cL_meanStickLength 16 = .ok (.ireturn, 1) := by decide +kernel
theorem dL_meanStickLength_17 : decode cL_meanStickLength 17 = .ok (.astore 4, 2) := by decide +kernel
theorem dL_meanStickLength_19 : decode cL_meanStickLength 19 = .ok (.iconst 2, 1) := by decide +kernel
theorem dL_meanStickLength_20 : decode cL_meanStickLength 20 = .ok (.ireturn, 1) := by decide +kernel
theorem dL_meanStickLength_21 : decode cL_meanStickLength 21 = .ok (.iconst 0, 1) := by decide +kernel
theorem dL_meanStickLength_22 : decode cL_meanStickLength 22 = .ok (.ireturn, 1) := by decide +kernel
theorem dL_doubledArea_0 : decode cL_doubledArea 0 = .ok (.aload_n 2, 1) := by decide +kernel
theorem dL_doubledArea_1 : decode cL_doubledArea 1 = .ok (.iconst 0, 1) := by decide +kernel
theorem dL_doubledArea_2 : decode cL_doubledArea 2 = .ok (.aload_n 0, 1) := by decide +kernel
theorem dL_doubledArea_3 : decode cL_doubledArea 3 = .ok (.iload_n 1, 1) := by decide +kernel
theorem dL_doubledArea_4 : decode cL_doubledArea 4 = .ok (.invokevirtual 79, 3) := by decide +kernel
theorem dL_doubledArea_7 : decode cL_doubledArea 7 = .ok (.i2l, 1) := by decide +kernel
theorem dL_doubledArea_8 : decode cL_doubledArea 8 = .ok (.lastore, 1) := by decide +kernel
theorem dL_doubledArea_9 : decode cL_doubledArea 9 = .ok (.goto 9, 3) := by decide +kernel
theorem dL_doubledArea_12 : decode cL_doubledArea 12 = .ok (.astore_n 3, 1) := by decide +kernel
theorem dL_doubledArea_13 : decode cL_doubledArea 13 = .ok (.iconst 1, 1) := by decide +kernel
theorem dL_doubledArea_14 : decode cL_doubledArea 14 = .ok (.ireturn, 1) := by decide +kernel
theorem dL_doubledArea_15 : decode cL_doubledArea 15 = .ok (.astore_n 3, 1) := by decide +kernel
theorem dL_doubledArea_16 : decode cL_doubledArea 16 = .ok (.iconst 2, 1) := by decide +kernel
theorem dL_doubledArea_17 : decode cL_doubledArea 17 = .ok (.ireturn, 1) := by decide +kernel
theorem dL_doubledArea_18 : decode cL_doubledArea 18 = .ok (.iconst 0, 1) := by decide +kernel
theorem dL_doubledArea_19 : decode cL_doubledArea 19 = .ok (.ireturn, 1) := by decide +kernel
theorem dL_isCounterclockwise_0 : decode cL_isCounterclockwise 0 = .ok (.aload_n 2, 1) := by decide +kernel
theorem dL_isCounterclockwise_1 : decode cL_isCounterclockwise 1 = .ok (.iconst 0, 1) := by decide +kernel
theorem dL_isCounterclockwise_2 : decode cL_isCounterclockwise 2 = .ok (.aload_n 0, 1) := by decide +kernel
theorem dL_isCounterclockwise_3 : decode cL_isCounterclockwise 3 = .ok (.iload_n 1, 1) := by decide +kernel
theorem dL_isCounterclockwise_4 : decode cL_isCounterclockwise 4 = .ok (.invokevirtual 84, 3) := by decide +kernel
theorem dL_isCounterclockwise_7 : decode cL_isCounterclockwise 7 = .ok (.ifCond .eq 7, 3) := by decide +kernel
theorem dL_isCounterclockwise_10 : decode cL_isCounterclockwise 10 = .ok (.lconst 1, 1) := by decide +kernel
theorem dL_isCounterclockwise_11 : decode cL_isCounterclockwise 11 = .ok (.goto 4, 3) := by decide +kernel
theorem dL_isCounterclockwise_14 : decode cL_isCounterclockwise 14 = .ok (.lconst 0, 1) := by decide +kernel
theorem dL_isCounterclockwise_15 : decode cL_isCounterclockwise 15 = .ok (.lastore, 1) := by decide +kernel
theorem dL_isCounterclockwise_16 : decode cL_isCounterclockwise 16 = .ok (.goto 9, 3) := by decide +kernel
theorem dL_isCounterclockwise_19 : decode cL_isCounterclockwise 19 = .ok (.astore_n 3, 1) := by decide +kernel
theorem dL_isCounterclockwise_20 : decode cL_isCounterclockwise 20 = .ok (.iconst 1, 1) := by decide +kernel
theorem dL_isCounterclockwise_21 : decode cL_isCounterclockwise 21 = .ok (.ireturn, 1) := by decide +kernel
theorem dL_isCounterclockwise_22 : decode cL_isCounterclockwise 22 = .ok (.astore_n 3, 1) := by decide +kernel
theorem dL_isCounterclockwise_23 : decode cL_isCounterclockwise 23 = .ok (.iconst 2, 1) := by decide +kernel
theorem dL_isCounterclockwise_24 : decode cL_isCounterclockwise 24 = .ok (.ireturn, 1) := by decide +kernel
theorem dL_isCounterclockwise_25 : decode cL_isCounterclockwise 25 = .ok (.iconst 0, 1) := by decide +kernel
theorem dL_isCounterclockwise_26 : decode cL_isCounterclockwise 26 = .ok (.ireturn, 1) := by decide +kernel
theorem dL_contains_0 : decode cL_contains 0 = .ok (.aload 4, 2) := by decide +kernel
theorem dL_contains_2 : decode cL_contains 2 = .ok (.iconst 0, 1) := by decide +kernel
theorem dL_contains_3 : decode cL_contains 3 = .ok (.aload_n 0, 1) := by decide +kernel
theorem dL_contains_4 : decode cL_contains 4 = .ok (.iload_n 1, 1) := by decide +kernel
theorem dL_contains_5 : decode cL_contains 5 = .ok (.iload_n 2, 1) := by decide +kernel
theorem dL_contains_6 : decode cL_contains 6 = .ok (.iload_n 3, 1) := by decide +kernel
theorem dL_contains_7 : decode cL_contains 7 = .ok (.invokevirtual 87, 3) := by decide +kernel
theorem dL_contains_10 : decode cL_contains 10 = .ok (.ifCond .eq 7, 3) := by decide +kernel
theorem dL_contains_13 : decode cL_contains 13 = .ok (.lconst 1, 1) := by decide +kernel
theorem dL_contains_14 : decode cL_contains 14 = .ok (.goto 4, 3) := by decide +kernel
theorem dL_contains_17 : decode cL_contains 17 = .ok (.lconst 0, 1) := by decide +kernel
theorem dL_contains_18 : decode cL_contains 18 = .ok (.lastore, 1) := by decide +kernel
theorem dL_contains_19 : decode cL_contains 19 = .ok (.goto 15, 3) := by decide +kernel
theorem dL_contains_22 : decode cL_contains 22 = .ok (.astore 5, 2) := by decide +kernel
theorem dL_contains_24 : decode cL_contains 24 = .ok (.iconst 1, 1) := by decide +kernel
theorem dL_contains_25 : decode cL_contains 25 = .ok (.ireturn, 1) := by decide +kernel
theorem dL_contains_26 : decode cL_contains 26 = .ok (.astore 5, 2) := by decide +kernel
theorem dL_contains_28 : decode cL_contains 28 = .ok (.iconst 2, 1) := by decide +kernel
theorem dL_contains_29 : decode cL_contains 29 = .ok (.ireturn, 1) := by decide +kernel
theorem dL_contains_30 : decode cL_contains 30 = .ok (.astore 5, 2) := by decide +kernel
theorem dL_contains_32 : decode cL_contains 32 = .ok (.iconst 3, 1) := by decide +kernel
theorem dL_contains_33 : decode cL_contains 33 = .ok (.ireturn, 1) := by decide +kernel
theorem dL_contains_34 : decode cL_contains 34 = .ok (.iconst 0, 1) := by decide +kernel
theorem dL_contains_35 : decode cL_contains 35 = .ok (.ireturn, 1) := by decide +kernel
theorem dL_encloses_0 : decode cL_encloses 0 = .ok (.aload_n 3, 1) := by decide +kernel
theorem dL_encloses_1 : decode cL_encloses 1 = .ok (.iconst 0, 1) := by decide +kernel
theorem dL_encloses_2 : decode cL_encloses 2 = .ok (.aload_n 0, 1) := by decide +kernel
theorem dL_encloses_3 : decode cL_encloses 3 = .ok (.iload_n 1, 1) := by decide +kernel
theorem dL_encloses_4 : decode cL_encloses 4 = .ok (.iload_n 2, 1) := by decide +kernel
theorem dL_encloses_5 : decode cL_encloses 5 = .ok (.invokevirtual 91, 3) := by decide +kernel
theorem dL_encloses_8 : decode cL_encloses 8 = .ok (.ifCond .eq 7, 3) := by decide +kernel
theorem dL_encloses_11 : decode cL_encloses 11 = .ok (.lconst 1, 1) := by decide +kernel
theorem dL_encloses_12 : decode cL_encloses 12 = .ok (.goto 4, 3) := by decide +kernel
theorem dL_encloses_15 : decode cL_encloses 15 = .ok (.lconst 0, 1) := by decide +kernel
theorem dL_encloses_16 : decode cL_encloses 16 = .ok (.lastore, 1) := by decide +kernel
theorem dL_encloses_17 : decode cL_encloses 17 = .ok (.goto 11, 3) := by decide +kernel
theorem dL_encloses_20 : decode cL_encloses 20 = .ok (.astore 4, 2) := by decide +kernel
theorem dL_encloses_22 : decode cL_encloses 22 = .ok (.iconst 1, 1) := by decide +kernel
theorem dL_encloses_23 : decode cL_encloses 23 = .ok (.ireturn, 1) := by decide +kernel
theorem dL_encloses_24 : decode cL_encloses 24 = .ok (.astore 4, 2) := by decide +kernel
theorem dL_encloses_26 : decode cL_encloses 26 = .ok (.iconst 2, 1) := by decide +kernel
theorem dL_encloses_27 : decode cL_encloses 27 = .ok (.ireturn, 1) := by decide +kernel
theorem dL_encloses_28 : decode cL_encloses 28 = .ok (.iconst 0, 1) := by decide +kernel
theorem dL_encloses_29 : decode cL_encloses 29 = .ok (.ireturn, 1) := by decide +kernel
theorem dL_innermostIslandAround_0 : decode cL_innermostIslandAround 0 = .ok (.aload_n 2, 1) := by decide +kernel
theorem dL_innermostIslandAround_1 : decode cL_innermostIslandAround 1 = .ok (.iconst 0, 1) := by decide +kernel
theorem dL_innermostIslandAround_2 : decode cL_innermostIslandAround 2 = .ok (.aload_n 0, 1) := by decide +kernel
theorem dL_innermostIslandAround_3 : decode cL_innermostIslandAround 3 = .ok (.iload_n 1, 1) := by decide +kernel
theorem dL_innermostIslandAround_4 : decode cL_innermostIslandAround 4 = .ok (.invokevirtual 95, 3) := by decide +kernel
theorem dL_innermostIslandAround_7 : decode cL_innermostIslandAround 7 = .ok (.i2l, 1) := by decide +kernel
theorem dL_innermostIslandAround_8 : decode cL_innermostIslandAround 8 = .ok (.lastore, 1) := by decide +kernel
theorem dL_innermostIslandAround_9 : decode cL_innermostIslandAround 9 = .ok (.goto 6, 3) := by decide +kernel
theorem dL_innermostIslandAround_12 : decode cL_innermostIslandAround 12 = .ok (.astore_n 3, 1) := by decide +kernel
theorem dL_innermostIslandAround_13 : decode cL_innermostIslandAround 13 = .ok (.iconst 1, 1) := by decide +kernel
theorem dL_innermostIslandAround_14 : decode cL_innermostIslandAround 14 = .ok (.ireturn, 1) := by decide +kernel
theorem dL_innermostIslandAround_15 : decode cL_innermostIslandAround 15 = .ok (.iconst 0, 1) := by decide +kernel
theorem dL_innermostIslandAround_16 : decode cL_innermostIslandAround 16 = .ok (.ireturn, 1) := by decide +kernel
theorem dL_ringDepth_0 : decode cL_ringDepth 0 = .ok (.aload_n 2, 1) := by decide +kernel
theorem dL_ringDepth_1 : decode cL_ringDepth 1 = .ok (.iconst 0, 1) := by decide +kernel
theorem dL_ringDepth_2 : decode cL_ringDepth 2 = .ok (.aload_n 0, 1) := by decide +kernel
theorem dL_ringDepth_3 : decode cL_ringDepth 3 = .ok (.iload_n 1, 1) := by decide +kernel
theorem dL_ringDepth_4 : decode cL_ringDepth 4 = .ok (.invokevirtual 98, 3) := by decide +kernel
theorem dL_ringDepth_7 : decode cL_ringDepth 7 = .ok (.i2l, 1) := by decide +kernel
theorem dL_ringDepth_8 : decode cL_ringDepth 8 = .ok (.lastore, 1) := by decide +kernel
theorem dL_ringDepth_9 : decode cL_ringDepth 9 = .ok (.goto 6, 3) := by decide +kernel
theorem dL_ringDepth_12 : decode cL_ringDepth 12 = .ok (.astore_n 3, 1) := by decide +kernel
theorem dL_ringDepth_13 : decode cL_ringDepth 13 = .ok (.iconst 1, 1) := by decide +kernel
theorem dL_ringDepth_14 : decode cL_ringDepth 14 = .ok (.ireturn, 1) := by decide +kernel
theorem dL_ringDepth_15 : decode cL_ringDepth 15 = .ok (.iconst 0, 1) := by decide +kernel
theorem dL_ringDepth_16 : decode cL_ringDepth 16 = .ok (.ireturn, 1) := by decide +kernel
theorem dL_boxWidth_0 : decode cL_boxWidth 0 = .ok (.aload_n 2, 1) := by decide +kernel
theorem dL_boxWidth_1 : decode cL_boxWidth 1 = .ok (.iconst 0, 1) := by decide +kernel
theorem dL_boxWidth_2 : decode cL_boxWidth 2 = .ok (.aload_n 0, 1) := by decide +kernel
theorem dL_boxWidth_3 : decode cL_boxWidth 3 = .ok (.iload_n 1, 1) := by decide +kernel
theorem dL_boxWidth_4 : decode cL_boxWidth 4 = .ok (.invokevirtual 101, 3) := by decide +kernel
theorem dL_boxWidth_7 : decode cL_boxWidth 7 = .ok (.i2l, 1) := by decide +kernel
theorem dL_boxWidth_8 : decode cL_boxWidth 8 = .ok (.lastore, 1) := by decide +kernel
theorem dL_boxWidth_9 : decode cL_boxWidth 9 = .ok (.goto 6, 3) := by decide +kernel
theorem dL_boxWidth_12 : decode cL_boxWidth 12 = .ok (.astore_n 3, 1) := by decide +kernel
theorem dL_boxWidth_13 : decode cL_boxWidth 13 = .ok (.iconst 1, 1) := by decide +kernel
theorem dL_boxWidth_14 : decode cL_boxWidth 14 = .ok (.ireturn, 1) := by decide +kernel
theorem dL_boxWidth_15 : decode cL_boxWidth 15 = .ok (.iconst 0, 1) := by decide +kernel
theorem dL_boxWidth_16 : decode cL_boxWidth 16 = .ok (.ireturn, 1) := by decide +kernel
theorem dL_boxHeight_0 : decode cL_boxHeight 0 = .ok (.aload_n 2, 1) := by decide +kernel
theorem dL_boxHeight_1 : decode cL_boxHeight 1 = .ok (.iconst 0, 1) := by decide +kernel
theorem dL_boxHeight_2 : decode cL_boxHeight 2 = .ok (.aload_n 0, 1) := by decide +kernel
theorem dL_boxHeight_3 : decode cL_boxHeight 3 = .ok (.iload_n 1, 1) := by decide +kernel
theorem dL_boxHeight_4 : decode cL_boxHeight 4 = .ok (.invokevirtual 104, 3) := by decide +kernel
theorem dL_boxHeight_7 : decode cL_boxHeight 7 = .ok (.i2l, 1) := by decide +kernel
theorem dL_boxHeight_8 : decode cL_boxHeight 8 = .ok (.lastore, 1) := by decide +kernel
theorem dL_boxHeight_9 : decode cL_boxHeight 9 = .ok (.goto 6, 3) := by decide +kernel
theorem dL_boxHeight_12 : decode cL_boxHeight 12 = .ok (.astore_n 3, 1) := by decide +kernel
theorem dL_boxHeight_13 : decode cL_boxHeight 13 = .ok (.iconst 1, 1) := by decide +kernel
theorem dL_boxHeight_14 : decode cL_boxHeight 14 = .ok (.ireturn, 1) := by decide +kernel
theorem dL_boxHeight_15 : decode cL_boxHeight 15 = .ok (.iconst 0, 1) := by decide +kernel
theorem dL_boxHeight_16 : decode cL_boxHeight 16 = .ok (.ireturn, 1) := by decide +kernel
theorem dL_foldObstacle_0 : decode cL_foldObstacle 0 = .ok (.aload_n 3, 1) := by decide +kernel
theorem dL_foldObstacle_1 : decode cL_foldObstacle 1 = .ok (.iconst 0, 1) := by decide +kernel
theorem dL_foldObstacle_2 : decode cL_foldObstacle 2 = .ok (.aload_n 0, 1) := by decide +kernel
theorem dL_foldObstacle_3 : decode cL_foldObstacle 3 = .ok (.iload_n 1, 1) := by decide +kernel
theorem dL_foldObstacle_4 : decode cL_foldObstacle 4 = .ok (.iload_n 2, 1) := by decide +kernel
theorem dL_foldObstacle_5 : decode cL_foldObstacle 5 = .ok (.invokevirtual 107, 3) := by decide +kernel
theorem dL_foldObstacle_8 : decode cL_foldObstacle 8 = .ok (.i2l, 1) := by decide +kernel
theorem dL_foldObstacle_9 : decode cL_foldObstacle 9 = .ok (.lastore, 1) := by decide +kernel
theorem dL_foldObstacle_10 : decode cL_foldObstacle 10 = .ok (.goto 11, 3) := by decide +kernel
theorem dL_foldObstacle_13 : decode cL_foldObstacle 13 = .ok (.astore 4, 2) := by decide +kernel
theorem dL_foldObstacle_15 : decode cL_foldObstacle 15 = .ok (.iconst 1, 1) := by decide +kernel
theorem dL_foldObstacle_16 : decode cL_foldObstacle 16 = .ok (.ireturn, 1) := by decide +kernel
theorem dL_foldObstacle_17 : decode cL_foldObstacle 17 = .ok (.astore 4, 2) := by decide +kernel
theorem dL_foldObstacle_19 : decode cL_foldObstacle 19 = .ok (.iconst 2, 1) := by decide +kernel
theorem dL_foldObstacle_20 : decode cL_foldObstacle 20 = .ok (.ireturn, 1) := by decide +kernel
theorem dL_foldObstacle_21 : decode cL_foldObstacle 21 = .ok (.iconst 0, 1) := by decide +kernel
theorem dL_foldObstacle_22 : decode cL_foldObstacle 22 = .ok (.ireturn, 1) := by decide +kernel
theorem dL_lengthAfterFold_0 : decode cL_lengthAfterFold 0 = .ok (.aload 4, 2) := by decide +kernel
theorem dL_lengthAfterFold_2 : decode cL_lengthAfterFold 2 = .ok (.iconst 0, 1) := by decide +kernel
theorem dL_lengthAfterFold_3 : decode cL_lengthAfterFold 3 = .ok (.aload_n 0, 1) := by decide +kernel
theorem dL_lengthAfterFold_4 : decode cL_lengthAfterFold 4 = .ok (.iload_n 1, 1) := by decide +kernel
theorem dL_lengthAfterFold_5 : decode cL_lengthAfterFold 5 = .ok (.iload_n 2, 1) := by decide +kernel
theorem dL_lengthAfterFold_6 : decode cL_lengthAfterFold 6 = .ok (.iload_n 3, 1) := by decide +kernel
theorem dL_lengthAfterFold_7 : decode cL_lengthAfterFold 7 = .ok (.invokevirtual 110, 3) := by decide +kernel
theorem dL_lengthAfterFold_10 : decode cL_lengthAfterFold 10 = .ok (.i2l, 1) := by decide +kernel
theorem dL_lengthAfterFold_11 : decode cL_lengthAfterFold 11 = .ok (.lastore, 1) := by decide +kernel
theorem dL_lengthAfterFold_12 : decode cL_lengthAfterFold 12 = .ok (.goto 11, 3) := by decide +kernel
theorem dL_lengthAfterFold_15 : decode cL_lengthAfterFold 15 = .ok (.astore 5, 2) := by decide +kernel
theorem dL_lengthAfterFold_17 : decode cL_lengthAfterFold 17 = .ok (.iconst 1, 1) := by decide +kernel
theorem dL_lengthAfterFold_18 : decode cL_lengthAfterFold 18 = .ok (.ireturn, 1) := by decide +kernel
theorem dL_lengthAfterFold_19 : decode cL_lengthAfterFold 19 = .ok (.astore 5, 2) := by decide +kernel
theorem dL_lengthAfterFold_21 : decode cL_lengthAfterFold 21 = .ok (.iconst 2, 1) := by decide +kernel
theorem dL_lengthAfterFold_22 : decode cL_lengthAfterFold 22 = .ok (.ireturn, 1) := by decide +kernel
theorem dL_lengthAfterFold_23 : decode cL_lengthAfterFold 23 = .ok (.iconst 0, 1) := by decide +kernel
theorem dL_lengthAfterFold_24 : decode cL_lengthAfterFold 24 = .ok (.ireturn, 1) := by decide +kernel
theorem dL_lengthWithoutPoint_0 : decode cL_lengthWithoutPoint 0 = .ok (.aload_n 3, 1) := by decide +kernel
theorem dL_lengthWithoutPoint_1 : decode cL_lengthWithoutPoint 1 = .ok (.iconst 0, 1) := by decide +kernel
theorem dL_lengthWithoutPoint_2 : decode cL_lengthWithoutPoint 2 = .ok (.aload_n 0, 1) := by decide +kernel
theorem dL_lengthWithoutPoint_3 : decode cL_lengthWithoutPoint 3 = .ok (.iload_n 1, 1) := by decide +kernel
theorem dL_lengthWithoutPoint_4 : decode cL_lengthWithoutPoint 4 = .ok (.iload_n 2, 1) := by decide +kernel
theorem dL_lengthWithoutPoint_5 : decode cL_lengthWithoutPoint 5 = .ok (.invokevirtual 113, 3) := by decide +kernel
theorem dL_lengthWithoutPoint_8 : decode cL_lengthWithoutPoint 8 = .ok (.i2l, 1) := by decide +kernel
theorem dL_lengthWithoutPoint_9 : decode cL_lengthWithoutPoint 9 = .ok (.lastore, 1) := by decide +kernel
theorem dL_lengthWithoutPoint_10 : decode cL_lengthWithoutPoint 10 = .ok (.goto 7, 3) := by decide +kernel
theorem dL_lengthWithoutPoint_13 : decode cL_lengthWithoutPoint 13 = .ok (.astore 4, 2) := by decide +kernel
theorem dL_lengthWithoutPoint_15 : decode cL_lengthWithoutPoint 15 = .ok (.iconst 1, 1) := by decide +kernel
theorem dL_lengthWithoutPoint_16 : decode cL_lengthWithoutPoint 16 = .ok (.ireturn, 1) := by decide +kernel
theorem dL_lengthWithoutPoint_17 : decode cL_lengthWithoutPoint 17 = .ok (.iconst 0, 1) := by decide +kernel
theorem dL_lengthWithoutPoint_18 : decode cL_lengthWithoutPoint 18 = .ok (.ireturn, 1) := by decide +kernel
theorem dL_leastImportantPoint_0 : decode cL_leastImportantPoint 0 = .ok (.aload_n 2, 1) := by decide +kernel
theorem dL_leastImportantPoint_1 : decode cL_leastImportantPoint 1 = .ok (.iconst 0, 1) := by decide +kernel
theorem dL_leastImportantPoint_2 : decode cL_leastImportantPoint 2 = .ok (.aload_n 0, 1) := by decide +kernel
theorem dL_leastImportantPoint_3 : decode cL_leastImportantPoint 3 = .ok (.iload_n 1, 1) := by decide +kernel
theorem dL_leastImportantPoint_4 : decode cL_leastImportantPoint 4 = .ok (.invokevirtual 116, 3) := by decide +kernel
theorem dL_leastImportantPoint_7 : decode cL_leastImportantPoint 7 = .ok (.i2l, 1) := by decide +kernel
theorem dL_leastImportantPoint_8 : decode cL_leastImportantPoint 8 = .ok (.lastore, 1) := by decide +kernel
theorem dL_leastImportantPoint_9 : decode cL_leastImportantPoint 9 = .ok (.goto 6, 3) := by decide +kernel
theorem dL_leastImportantPoint_12 : decode cL_leastImportantPoint 12 = .ok (.astore_n 3, 1) := by decide +kernel
theorem dL_leastImportantPoint_13 : decode cL_leastImportantPoint 13 = .ok (.iconst 1, 1) := by decide +kernel
theorem dL_leastImportantPoint_14 : decode cL_leastImportantPoint 14 = .ok (.ireturn, 1) := by decide +kernel
theorem dL_leastImportantPoint_15 : decode cL_leastImportantPoint 15 = .ok (.iconst 0, 1) := by decide +kernel
theorem dL_leastImportantPoint_16 : decode cL_leastImportantPoint 16 = .ok (.ireturn, 1) := by decide +kernel
theorem dL_lengthInOtherMetric_0 : decode cL_lengthInOtherMetric 0 = .ok (.aload_n 3, 1) := by decide +kernel
theorem dL_lengthInOtherMetric_1 : decode cL_lengthInOtherMetric 1 = .ok (.iconst 0, 1) := by decide +kernel
theorem dL_lengthInOtherMetric_2 : decode cL_lengthInOtherMetric 2 = .ok (.aload_n 0, 1) := by decide +kernel
theorem dL_lengthInOtherMetric_3 : decode cL_lengthInOtherMetric 3 = .ok (.iload_n 1, 1) := by decide +kernel
theorem dL_lengthInOtherMetric_4 : decode cL_lengthInOtherMetric 4 = .ok (.iload_n 2, 1) := by decide +kernel
theorem dL_lengthInOtherMetric_5 : decode cL_lengthInOtherMetric 5 = .ok (.invokevirtual 119, 3) := by decide +kernel
theorem dL_lengthInOtherMetric_8 : decode cL_lengthInOtherMetric 8 = .ok (.i2l, 1) := by decide +kernel
theorem dL_lengthInOtherMetric_9 : decode cL_lengthInOtherMetric 9 = .ok (.lastore, 1) := by decide +kernel
theorem dL_lengthInOtherMetric_10 : decode cL_lengthInOtherMetric 10 = .ok (.goto 11, 3) := by decide +kernel
theorem dL_lengthInOtherMetric_13 : decode cL_lengthInOtherMetric 13 = .ok (.astore 4, 2) := by decide +kernel
theorem dL_lengthInOtherMetric_15 : decode cL_lengthInOtherMetric 15 = .ok (.iconst 1, 1) := by decide +kernel
theorem dL_lengthInOtherMetric_16 : decode cL_lengthInOtherMetric 16 = .ok (.ireturn, 1) := by decide +kernel
theorem dL_lengthInOtherMetric_17 : decode cL_lengthInOtherMetric 17 = .ok (.astore 4, 2) := by decide +kernel
theorem dL_lengthInOtherMetric_19 : decode cL_lengthInOtherMetric 19 = .ok (.iconst 2, 1) := by decide +kernel
theorem dL_lengthInOtherMetric_20 : decode cL_lengthInOtherMetric 20 = .ok (.ireturn, 1) := by decide +kernel
theorem dL_lengthInOtherMetric_21 : decode cL_lengthInOtherMetric 21 = .ok (.iconst 0, 1) := by decide +kernel
theorem dL_lengthInOtherMetric_22 : decode cL_lengthInOtherMetric 22 = .ok (.ireturn, 1) := by decide +kernel
theorem dL_addCoast_0 : decode cL_addCoast 0 = .ok (.aload_n 2, 1) := by decide +kernel
theorem dL_addCoast_1 : decode cL_addCoast 1 = .ok (.iconst 0, 1) := by decide +kernel
theorem dL_addCoast_2 : decode cL_addCoast 2 = .ok (.aload_n 0, 1) := by decide +kernel

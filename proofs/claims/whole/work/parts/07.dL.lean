theorem dL_loadMap_0 : decode cL_loadMap 0 = .ok (.aload_n 2, 1) := by decide +kernel
theorem dL_loadMap_1 : decode cL_loadMap 1 = .ok (.iconst 0, 1) := by decide +kernel
theorem dL_loadMap_2 : decode cL_loadMap 2 = .ok (.aload_n 0, 1) := by decide +kernel
theorem dL_loadMap_3 : decode cL_loadMap 3 = .ok (.iload_n 1, 1) := by decide +kernel
theorem dL_loadMap_4 : decode cL_loadMap 4 = .ok (.invokevirtual 7, 3) := by decide +kernel
theorem dL_loadMap_7 : decode cL_loadMap 7 = .ok (.i2l, 1) := by decide +kernel
theorem dL_loadMap_8 : decode cL_loadMap 8 = .ok (.lastore, 1) := by decide +kernel
theorem dL_loadMap_9 : decode cL_loadMap 9 = .ok (.goto 6, 3) := by decide +kernel
theorem dL_loadMap_12 : decode cL_loadMap 12 = .ok (.astore_n 3, 1) := by decide +kernel
theorem dL_loadMap_13 : decode cL_loadMap 13 = .ok (.iconst 1, 1) := by decide +kernel
theorem dL_loadMap_14 : decode cL_loadMap 14 = .ok (.ireturn, 1) := by decide +kernel
theorem dL_loadMap_15 : decode cL_loadMap 15 = .ok (.iconst 0, 1) := by decide +kernel
theorem dL_loadMap_16 : decode cL_loadMap 16 = .ok (.ireturn, 1) := by decide +kernel
theorem dL_isIsland_0 : decode cL_isIsland 0 = .ok (.aload_n 2, 1) := by decide +kernel
theorem dL_isIsland_1 : decode cL_isIsland 1 = .ok (.iconst 0, 1) := by decide +kernel
theorem dL_isIsland_2 : decode cL_isIsland 2 = .ok (.aload_n 0, 1) := by decide +kernel
theorem dL_isIsland_3 : decode cL_isIsland 3 = .ok (.iload_n 1, 1) := by decide +kernel
theorem dL_isIsland_4 : decode cL_isIsland 4 = .ok (.invokevirtual 15, 3) := by decide +kernel
theorem dL_isIsland_7 : decode cL_isIsland 7 = .ok (.ifCond .eq 7, 3) := by decide +kernel
theorem dL_isIsland_10 : decode cL_isIsland 10 = .ok (.lconst 1, 1) := by decide +kernel
theorem dL_isIsland_11 : decode cL_isIsland 11 = .ok (.goto 4, 3) := by decide +kernel
theorem dL_isIsland_14 : decode cL_isIsland 14 = .ok (.lconst 0, 1) := by decide +kernel
theorem dL_isIsland_15 : decode cL_isIsland 15 = .ok (.lastore, 1) := by decide +kernel
theorem dL_isIsland_16 : decode cL_isIsland 16 = .ok (.goto 6, 3) := by decide +kernel
theorem dL_isIsland_19 : decode cL_isIsland 19 = .ok (.astore_n 3, 1) := by decide +kernel
theorem dL_isIsland_20 : decode cL_isIsland 20 = .ok (.iconst 1, 1) := by decide +kernel
theorem dL_isIsland_21 : decode cL_isIsland 21 = .ok (.ireturn, 1) := by decide +kernel
theorem dL_isIsland_22 : decode cL_isIsland 22 = .ok (.iconst 0, 1) := by decide +kernel
theorem dL_isIsland_23 : decode cL_isIsland 23 = .ok (.ireturn, 1) := by decide +kernel
theorem dL_pointCount_0 : decode cL_pointCount 0 = .ok (.aload_n 2, 1) := by decide +kernel
theorem dL_pointCount_1 : decode cL_pointCount 1 = .ok (.iconst 0, 1) := by decide +kernel
theorem dL_pointCount_2 : decode cL_pointCount 2 = .ok (.aload_n 0, 1) := by decide +kernel
theorem dL_pointCount_3 : decode cL_pointCount 3 = .ok (.iload_n 1, 1) := by decide +kernel
theorem dL_pointCount_4 : decode cL_pointCount 4 = .ok (.invokevirtual 21, 3) := by decide +kernel
theorem dL_pointCount_7 : decode cL_pointCount 7 = .ok (.i2l, 1) := by decide +kernel
theorem dL_pointCount_8 : decode cL_pointCount 8 = .ok (.lastore, 1) := by decide +kernel
theorem dL_pointCount_9 : decode cL_pointCount 9 = .ok (.goto 6, 3) := by decide +kernel
theorem dL_pointCount_12 : decode cL_pointCount 12 = .ok (.astore_n 3, 1) := by decide +kernel
theorem dL_pointCount_13 : decode cL_pointCount 13 = .ok (.iconst 1, 1) := by decide +kernel
theorem dL_pointCount_14 : decode cL_pointCount 14 = .ok (.ireturn, 1) := by decide +kernel
theorem dL_pointCount_15 : decode cL_pointCount 15 = .ok (.iconst 0, 1) := by decide +kernel
theorem dL_pointCount_16 : decode cL_pointCount 16 = .ok (.ireturn, 1) := by decide +kernel
theorem dL_pointX_0 : decode cL_pointX 0 = .ok (.aload_n 3, 1) := by decide +kernel
theorem dL_pointX_1 : decode cL_pointX 1 = .ok (.iconst 0, 1) := by decide +kernel
theorem dL_pointX_2 : decode cL_pointX 2 = .ok (.aload_n 0, 1) := by decide +kernel
theorem dL_pointX_3 : decode cL_pointX 3 = .ok (.iload_n 1, 1) := by decide +kernel
theorem dL_pointX_4 : decode cL_pointX 4 = .ok (.iload_n 2, 1) := by decide +kernel
theorem dL_pointX_5 : decode cL_pointX 5 = .ok (.invokevirtual 24, 3) := by decide +kernel
theorem dL_pointX_8 : decode cL_pointX 8 = .ok (.i2l, 1) := by decide +kernel
theorem dL_pointX_9 : decode cL_pointX 9 = .ok (.lastore, 1) := by decide +kernel
theorem dL_pointX_10 : decode cL_pointX 10 = .ok (.goto 7, 3) := by decide +kernel
theorem dL_pointX_13 : decode cL_pointX 13 = .ok (.astore 4, 2) := by decide +kernel
theorem dL_pointX_15 : decode cL_pointX 15 = .ok (.iconst 1, 1) := by decide +kernel
theorem dL_pointX_16 : decode cL_pointX 16 = .ok (.ireturn, 1) := by decide +kernel
theorem dL_pointX_17 : decode cL_pointX 17 = .ok (.iconst 0, 1) := by decide +kernel
theorem dL_pointX_18 : decode cL_pointX 18 = .ok (.ireturn, 1) := by decide +kernel
theorem dL_pointY_0 : decode cL_pointY 0 = .ok (.aload_n 3, 1) := by decide +kernel
theorem dL_pointY_1 : decode cL_pointY 1 = .ok (.iconst 0, 1) := by decide +kernel
theorem dL_pointY_2 : decode cL_pointY 2 = .ok (.aload_n 0, 1) := by decide +kernel
theorem dL_pointY_3 : decode cL_pointY 3 = .ok (.iload_n 1, 1) := by decide +kernel
theorem dL_pointY_4 : decode cL_pointY 4 = .ok (.iload_n 2, 1) := by decide +kernel
theorem dL_pointY_5 : decode cL_pointY 5 = .ok (.invokevirtual 28, 3) := by decide +kernel
theorem dL_pointY_8 : decode cL_pointY 8 = .ok (.i2l, 1) := by decide +kernel
theorem dL_pointY_9 : decode cL_pointY 9 = .ok (.lastore, 1) := by decide +kernel
theorem dL_pointY_10 : decode cL_pointY 10 = .ok (.goto 7, 3) := by decide +kernel
theorem dL_pointY_13 : decode cL_pointY 13 = .ok (.astore 4, 2) := by decide +kernel
theorem dL_pointY_15 : decode cL_pointY 15 = .ok (.iconst 1, 1) := by decide +kernel
theorem dL_pointY_16 : decode cL_pointY 16 = .ok (.ireturn, 1) := by decide +kernel
theorem dL_pointY_17 : decode cL_pointY 17 = .ok (.iconst 0, 1) := by decide +kernel
theorem dL_pointY_18 : decode cL_pointY 18 = .ok (.ireturn, 1) := by decide +kernel
theorem dL_pointDistance_0 : decode cL_pointDistance 0 = .ok (.aload 4, 2) := by decide +kernel
theorem dL_pointDistance_2 : decode cL_pointDistance 2 = .ok (.iconst 0, 1) := by decide +kernel
theorem dL_pointDistance_3 : decode cL_pointDistance 3 = .ok (.aload_n 0, 1) := by decide +kernel
theorem dL_pointDistance_4 : decode cL_pointDistance 4 = .ok (.iload_n 1, 1) := by decide +kernel
theorem dL_pointDistance_5 : decode cL_pointDistance 5 = .ok (.iload_n 2, 1) := by decide +kernel
theorem dL_pointDistance_6 : decode cL_pointDistance 6 = .ok (.iload_n 3, 1) := by decide +kernel
theorem dL_pointDistance_7 : decode cL_pointDistance 7 = .ok (.invokevirtual 31, 3) := by decide +kernel
theorem dL_pointDistance_10 : decode cL_pointDistance 10 = .ok (.i2l, 1) := by decide +kernel
theorem dL_pointDistance_11 : decode cL_pointDistance 11 = .ok (.lastore, 1) := by decide +kernel
theorem dL_pointDistance_12 : decode cL_pointDistance 12 = .ok (.goto 7, 3) := by decide +kernel
theorem dL_pointDistance_15 : decode cL_pointDistance 15 = .ok (.astore 5, 2) := by decide +kernel
theorem dL_pointDistance_17 : decode cL_pointDistance 17 = .ok (.iconst 1, 1) := by decide +kernel
theorem dL_pointDistance_18 : decode cL_pointDistance 18 = .ok (.ireturn, 1) := by decide +kernel
theorem dL_pointDistance_19 : decode cL_pointDistance 19 = .ok (.iconst 0, 1) := by decide +kernel
theorem dL_pointDistance_20 : decode cL_pointDistance 20 = .ok (.ireturn, 1) := by decide +kernel
theorem dL_nearestPoint_0 : decode cL_nearestPoint 0 = .ok (.aload 4, 2) := by decide +kernel
theorem dL_nearestPoint_2 : decode cL_nearestPoint 2 = .ok (.iconst 0, 1) := by decide +kernel
theorem dL_nearestPoint_3 : decode cL_nearestPoint 3 = .ok (.aload_n 0, 1) := by decide +kernel
theorem dL_nearestPoint_4 : decode cL_nearestPoint 4 = .ok (.iload_n 1, 1) := by decide +kernel
theorem dL_nearestPoint_5 : decode cL_nearestPoint 5 = .ok (.iload_n 2, 1) := by decide +kernel
theorem dL_nearestPoint_6 : decode cL_nearestPoint 6 = .ok (.iload_n 3, 1) := by decide +kernel
theorem dL_nearestPoint_7 : decode cL_nearestPoint 7 = .ok (.invokevirtual 35, 3) := by decide +kernel
theorem dL_nearestPoint_10 : decode cL_nearestPoint 10 = .ok (.i2l, 1) := by decide +kernel
theorem dL_nearestPoint_11 : decode cL_nearestPoint 11 = .ok (.lastore, 1) := by decide +kernel
theorem dL_nearestPoint_12 : decode cL_nearestPoint 12 = .ok (.goto 11, 3) := by decide +kernel
theorem dL_nearestPoint_15 : decode cL_nearestPoint 15 = .ok (.astore 5, 2) := by decide +kernel
theorem dL_nearestPoint_17 : decode cL_nearestPoint 17 = .ok (.iconst 1, 1) := by decide +kernel
theorem dL_nearestPoint_18 : decode cL_nearestPoint 18 = .ok (.ireturn, 1) := by decide +kernel
theorem dL_nearestPoint_19 : decode cL_nearestPoint 19 = .ok (.astore 5, 2) := by decide +kernel
theorem dL_nearestPoint_21 : decode cL_nearestPoint 21 = .ok (.iconst 2, 1) := by decide +kernel
theorem dL_nearestPoint_22 : decode cL_nearestPoint 22 = .ok (.ireturn, 1) := by decide +kernel
theorem dL_nearestPoint_23 : decode cL_nearestPoint 23 = .ok (.iconst 0, 1) := by decide +kernel
theorem dL_nearestPoint_24 : decode cL_nearestPoint 24 = .ok (.ireturn, 1) := by decide +kernel
theorem dL_lengthAt_0 : decode cL_lengthAt 0 = .ok (.aload_n 3, 1) := by decide +kernel
theorem dL_lengthAt_1 : decode cL_lengthAt 1 = .ok (.iconst 0, 1) := by decide +kernel
theorem dL_lengthAt_2 : decode cL_lengthAt 2 = .ok (.aload_n 0, 1) := by decide +kernel
theorem dL_lengthAt_3 : decode cL_lengthAt 3 = .ok (.iload_n 1, 1) := by decide +kernel
theorem dL_lengthAt_4 : decode cL_lengthAt 4 = .ok (.iload_n 2, 1) := by decide +kernel
theorem dL_lengthAt_5 : decode cL_lengthAt 5 = .ok (.invokevirtual 38, 3) := by decide +kernel
theorem dL_lengthAt_8 : decode cL_lengthAt 8 = .ok (.i2l, 1) := by decide +kernel
theorem dL_lengthAt_9 : decode cL_lengthAt 9 = .ok (.lastore, 1) := by decide +kernel
theorem dL_lengthAt_10 : decode cL_lengthAt 10 = .ok (.goto 11, 3) := by decide +kernel
theorem dL_lengthAt_13 : decode cL_lengthAt 13 = .ok (.astore 4, 2) := by decide +kernel
theorem dL_lengthAt_15 : decode cL_lengthAt 15 = .ok (.iconst 1, 1) := by decide +kernel
theorem dL_lengthAt_16 : decode cL_lengthAt 16 = .ok (.ireturn, 1) := by decide +kernel
theorem dL_lengthAt_17 : decode cL_lengthAt 17 = .ok (.astore 4, 2) := by decide +kernel
theorem dL_lengthAt_19 : decode cL_lengthAt 19 = .ok (.iconst 2, 1) := by decide +kernel
theorem dL_lengthAt_20 : decode cL_lengthAt 20 = .ok (.ireturn, 1) := by decide +kernel
theorem dL_lengthAt_21 : decode cL_lengthAt 21 = .ok (.iconst 0, 1) := by decide +kernel
theorem dL_lengthAt_22 : decode cL_lengthAt 22 = .ok (.ireturn, 1) := by decide +kernel
theorem dL_stickCount_0 : decode cL_stickCount 0 = .ok (.aload_n 3, 1) := by decide +kernel
theorem dL_stickCount_1 : decode cL_stickCount 1 = .ok (.iconst 0, 1) := by decide +kernel
theorem dL_stickCount_2 : decode cL_stickCount 2 = .ok (.aload_n 0, 1) := by decide +kernel
theorem dL_stickCount_3 : decode cL_stickCount 3 = .ok (.iload_n 1, 1) := by decide +kernel
theorem dL_stickCount_4 : decode cL_stickCount 4 = .ok (.iload_n 2, 1) := by decide +kernel
theorem dL_stickCount_5 : decode cL_stickCount 5 = .ok (.invokevirtual 41, 3) := by decide +kernel
theorem dL_stickCount_8 : decode cL_stickCount 8 = .ok (.i2l, 1) := by decide +kernel
theorem dL_stickCount_9 : decode cL_stickCount 9 = .ok (.lastore, 1) := by decide +kernel
theorem dL_stickCount_10 : decode cL_stickCount 10 = .ok (.goto 11, 3) := by decide +kernel
theorem dL_stickCount_13 : decode cL_stickCount 13 = .ok (.astore 4, 2) := by decide +kernel
theorem dL_stickCount_15 : decode cL_stickCount 15 = .ok (.iconst 1, 1) := by decide +kernel
theorem dL_stickCount_16 : decode cL_stickCount 16 = .ok (.ireturn, 1) := by decide +kernel
theorem dL_stickCount_17 : decode cL_stickCount 17 = .ok (.astore 4, 2) := by decide +kernel
theorem dL_stickCount_19 : decode cL_stickCount 19 = .ok (.iconst 2, 1) := by decide +kernel
theorem dL_stickCount_20 : decode cL_stickCount 20 = .ok (.ireturn, 1) := by decide +kernel
theorem dL_stickCount_21 : decode cL_stickCount 21 = .ok (.iconst 0, 1) := by decide +kernel
theorem dL_stickCount_22 : decode cL_stickCount 22 = .ok (.ireturn, 1) := by decide +kernel
theorem dL_stickStart_0 : decode cL_stickStart 0 = .ok (.aload 4, 2) := by decide +kernel
theorem dL_stickStart_2 : decode cL_stickStart 2 = .ok (.iconst 0, 1) := by decide +kernel
theorem dL_stickStart_3 : decode cL_stickStart 3 = .ok (.aload_n 0, 1) := by decide +kernel
theorem dL_stickStart_4 : decode cL_stickStart 4 = .ok (.iload_n 1, 1) := by decide +kernel
theorem dL_stickStart_5 : decode cL_stickStart 5 = .ok (.iload_n 2, 1) := by decide +kernel
theorem dL_stickStart_6 : decode cL_stickStart 6 = .ok (.iload_n 3, 1) := by decide +kernel
theorem dL_stickStart_7 : decode cL_stickStart 7 = .ok (.invokevirtual 44, 3) := by decide +kernel
theorem dL_stickStart_10 : decode cL_stickStart 10 = .ok (.i2l, 1) := by decide +kernel
theorem dL_stickStart_11 : decode cL_stickStart 11 = .ok (.lastore, 1) := by decide +kernel
theorem dL_stickStart_12 : decode cL_stickStart 12 = .ok (.goto 11, 3) := by decide +kernel
theorem dL_stickStart_15 : decode cL_stickStart 15 = .ok (.astore 5, 2) := by decide +kernel
theorem dL_stickStart_17 : decode cL_stickStart 17 = .ok (.iconst 1, 1) := by decide +kernel
theorem dL_stickStart_18 : decode cL_stickStart 18 = .ok (.ireturn, 1) := by decide +kernel
theorem dL_stickStart_19 : decode cL_stickStart 19 = .ok (.astore 5, 2) := by decide +kernel
theorem dL_stickStart_21 : decode cL_stickStart 21 = .ok (.iconst 2, 1) := by decide +kernel
theorem dL_stickStart_22 : decode cL_stickStart 22 = .ok (.ireturn, 1) := by decide +kernel
theorem dL_stickStart_23 : decode cL_stickStart 23 = .ok (.iconst 0, 1) := by decide +kernel
theorem dL_stickStart_24 : decode cL_stickStart 24 = .ok (.ireturn, 1) := by decide +kernel
theorem dL_stickLength_0 : decode cL_stickLength 0 = .ok (.aload 4, 2) := by decide +kernel
theorem dL_stickLength_2 : decode cL_stickLength 2 = .ok (.iconst 0, 1) := by decide +kernel
theorem dL_stickLength_3 : decode cL_stickLength 3 = .ok (.aload_n 0, 1) := by decide +kernel
theorem dL_stickLength_4 : decode cL_stickLength 4 = .ok (.iload_n 1, 1) := by decide +kernel
theorem dL_stickLength_5 : decode cL_stickLength 5 = .ok (.iload_n 2, 1) := by decide +kernel
theorem dL_stickLength_6 : decode cL_stickLength 6 = .ok (.iload_n 3, 1) := by decide +kernel
theorem dL_stickLength_7 : decode cL_stickLength 7 = .ok (.invokevirtual 47, 3) := by decide +kernel
theorem dL_stickLength_10 : decode cL_stickLength 10 = .ok (.i2l, 1) := by decide +kernel
theorem dL_stickLength_11 : decode cL_stickLength 11 = .ok (.lastore, 1) := by decide +kernel
theorem dL_stickLength_12 : decode cL_stickLength 12 = .ok (.goto 11, 3) := by decide +kernel
theorem dL_stickLength_15 : decode cL_stickLength 15 = .ok (.astore 5, 2) := by decide +kernel
theorem dL_stickLength_17 : decode cL_stickLength 17 = .ok (.iconst 1, 1) := by decide +kernel
theorem dL_stickLength_18 : decode cL_stickLength 18 = .ok (.ireturn, 1) := by decide +kernel
theorem dL_stickLength_19 : decode cL_stickLength 19 = .ok (.astore 5, 2) := by decide +kernel
theorem dL_stickLength_21 : decode cL_stickLength 21 = .ok (.iconst 2, 1) := by decide +kernel
theorem dL_stickLength_22 : decode cL_stickLength 22 = .ok (.ireturn, 1) := by decide +kernel
theorem dL_stickLength_23 : decode cL_stickLength 23 = .ok (.iconst 0, 1) := by decide +kernel
theorem dL_stickLength_24 : decode cL_stickLength 24 = .ok (.ireturn, 1) := by decide +kernel
theorem dL_longestStick_0 : decode cL_longestStick 0 = .ok (.aload_n 3, 1) := by decide +kernel
theorem dL_longestStick_1 : decode cL_longestStick 1 = .ok (.iconst 0, 1) := by decide +kernel
theorem dL_longestStick_2 : decode cL_longestStick 2 = .ok (.aload_n 0, 1) := by decide +kernel
theorem dL_longestStick_3 : decode cL_longestStick 3 = .ok (.iload_n 1, 1) := by decide +kernel
theorem dL_longestStick_4 : decode cL_longestStick 4 = .ok (.iload_n 2, 1) := by decide +kernel
theorem dL_longestStick_5 : decode cL_longestStick 5 = .ok (.invokevirtual 50, 3) := by decide +kernel
theorem dL_longestStick_8 : decode cL_longestStick 8 = .ok (.i2l, 1) := by decide +kernel
theorem dL_longestStick_9 : decode cL_longestStick 9 = .ok (.lastore, 1) := by decide +kernel
theorem dL_longestStick_10 : decode cL_longestStick 10 = .ok (.goto 11, 3) := by decide +kernel
theorem dL_longestStick_13 : decode cL_longestStick 13 = .ok (.astore 4, 2) := by decide +kernel
theorem dL_longestStick_15 : decode cL_longestStick 15 = .ok (.iconst 1, 1) := by decide +kernel
theorem dL_longestStick_16 : decode cL_longestStick 16 = .ok (.ireturn, 1) := by decide +kernel
theorem dL_longestStick_17 : decode cL_longestStick 17 = .ok (.astore 4, 2) := by decide +kernel
theorem dL_longestStick_19 : decode cL_longestStick 19 = .ok (.iconst 2, 1) := by decide +kernel
theorem dL_longestStick_20 : decode cL_longestStick 20 = .ok (.ireturn, 1) := by decide +kernel
theorem dL_longestStick_21 : decode cL_longestStick 21 = .ok (.iconst 0, 1) := by decide +kernel
theorem dL_longestStick_22 : decode cL_longestStick 22 = .ok (.ireturn, 1) := by decide +kernel
theorem dL_lengthGain_0 : decode cL_lengthGain 0 = .ok (.aload_n 3, 1) := by decide +kernel
theorem dL_lengthGain_1 : decode cL_lengthGain 1 = .ok (.iconst 0, 1) := by decide +kernel
theorem dL_lengthGain_2 : decode cL_lengthGain 2 = .ok (.aload_n 0, 1) := by decide +kernel
theorem dL_lengthGain_3 : decode cL_lengthGain 3 = .ok (.iload_n 1, 1) := by decide +kernel
theorem dL_lengthGain_4 : decode cL_lengthGain 4 = .ok (.iload_n 2, 1) := by decide +kernel
theorem dL_lengthGain_5 : decode cL_lengthGain 5 = .ok (.invokevirtual 53, 3) := by decide +kernel
theorem dL_lengthGain_8 : decode cL_lengthGain 8 = .ok (.i2l, 1) := by decide +kernel
theorem dL_lengthGain_9 : decode cL_lengthGain 9 = .ok (.lastore, 1) := by decide +kernel
theorem dL_lengthGain_10 : decode cL_lengthGain 10 = .ok (.goto 11, 3) := by decide +kernel
theorem dL_lengthGain_13 : decode cL_lengthGain 13 = .ok (.astore 4, 2) := by decide +kernel
theorem dL_lengthGain_15 : decode cL_lengthGain 15 = .ok (.iconst 1, 1) := by decide +kernel
theorem dL_lengthGain_16 : decode cL_lengthGain 16 = .ok (.ireturn, 1) := by decide +kernel
theorem dL_lengthGain_17 : decode cL_lengthGain 17 = .ok (.astore 4, 2) := by decide +kernel
theorem dL_lengthGain_19 : decode cL_lengthGain 19 = .ok (.iconst 2, 1) := by decide +kernel
theorem dL_lengthGain_20 : decode cL_lengthGain 20 = .ok (.ireturn, 1) := by decide +kernel
theorem dL_lengthGain_21 : decode cL_lengthGain 21 = .ok (.iconst 0, 1) := by decide +kernel
theorem dL_lengthGain_22 : decode cL_lengthGain 22 = .ok (.ireturn, 1) := by decide +kernel
theorem dL_levelOfGreatestGain_0 : decode cL_levelOfGreatestGain 0 = .ok (.aload_n 2, 1) := by decide +kernel
theorem dL_levelOfGreatestGain_1 : decode cL_levelOfGreatestGain 1 = .ok (.iconst 0, 1) := by decide +kernel
theorem dL_levelOfGreatestGain_2 : decode cL_levelOfGreatestGain 2 = .ok (.aload_n 0, 1) := by decide +kernel
theorem dL_levelOfGreatestGain_3 : decode cL_levelOfGreatestGain 3 = .ok (.iload_n 1, 1) := by decide +kernel
theorem dL_levelOfGreatestGain_4 : decode cL_levelOfGreatestGain 4 = .ok (.invokevirtual 56, 3) := by decide +kernel
theorem dL_levelOfGreatestGain_7 : decode cL_levelOfGreatestGain 7 = .ok (.i2l, 1) := by decide +kernel
theorem dL_levelOfGreatestGain_8 : decode cL_levelOfGreatestGain 8 = .ok (.lastore, 1) := by decide +kernel
theorem dL_levelOfGreatestGain_9 : decode cL_levelOfGreatestGain 9 = .ok (.goto 6, 3) := by decide +kernel
theorem dL_levelOfGreatestGain_12 : decode cL_levelOfGreatestGain 12 = .ok (.astore_n 3, 1) := by decide +kernel
theorem dL_levelOfGreatestGain_13 : decode cL_levelOfGreatestGain 13 = .ok (.iconst 1, 1) := by decide +kernel
theorem dL_levelOfGreatestGain_14 : decode cL_levelOfGreatestGain 14 = .ok (.ireturn, 1) := by decide +kernel
theorem dL_levelOfGreatestGain_15 : decode cL_levelOfGreatestGain 15 = .ok (.iconst 0, 1) := by decide +kernel
theorem dL_levelOfGreatestGain_16 : decode cL_levelOfGreatestGain 16 = .ok (.ireturn, 1) := by decide +kernel
theorem dL_coarsestLevelFor_0 : decode cL_coarsestLevelFor 0 = .ok (.aload_n 3, 1) := by decide +kernel
theorem dL_coarsestLevelFor_1 : decode cL_coarsestLevelFor 1 = .ok (.iconst 0, 1) := by decide +kernel
theorem dL_coarsestLevelFor_2 : decode cL_coarsestLevelFor 2 = .ok (.aload_n 0, 1) := by decide +kernel
theorem dL_coarsestLevelFor_3 : decode cL_coarsestLevelFor 3 = .ok (.iload_n 1, 1) := by decide +kernel
theorem dL_coarsestLevelFor_4 : decode cL_coarsestLevelFor 4 = .ok (.iload_n 2, 1) := by decide +kernel
theorem dL_coarsestLevelFor_5 : decode cL_coarsestLevelFor 5 = .ok (.invokevirtual 59, 3) := by decide +kernel
theorem dL_coarsestLevelFor_8 : decode cL_coarsestLevelFor 8 = .ok (.i2l, 1) := by decide +kernel
theorem dL_coarsestLevelFor_9 : decode cL_coarsestLevelFor 9 = .ok (.lastore, 1) := by decide +kernel
theorem dL_coarsestLevelFor_10 : decode cL_coarsestLevelFor 10 = .ok (.goto 11, 3) := by decide +kernel
theorem dL_coarsestLevelFor_13 : decode cL_coarsestLevelFor 13 = .ok (.astore 4, 2) := by decide +kernel
theorem dL_coarsestLevelFor_15 : decode cL_coarsestLevelFor 15 = .ok (.iconst 1, 1) := by decide +kernel
theorem dL_coarsestLevelFor_16 : decode cL_coarsestLevelFor 16 = .ok (.ireturn, 1) := by decide +kernel
theorem dL_coarsestLevelFor_17 : decode cL_coarsestLevelFor 17 = .ok (.astore 4, 2) := by decide +kernel
theorem dL_coarsestLevelFor_19 : decode cL_coarsestLevelFor 19 = .ok (.iconst 2, 1) := by decide +kernel
theorem dL_coarsestLevelFor_20 : decode cL_coarsestLevelFor 20 = .ok (.ireturn, 1) := by decide +kernel
theorem dL_coarsestLevelFor_21 : decode cL_coarsestLevelFor 21 = .ok (.iconst 0, 1) := by decide +kernel
theorem dL_coarsestLevelFor_22 : decode cL_coarsestLevelFor 22 = .ok (.ireturn, 1) := by decide +kernel
theorem dL_coarsestExactLevel_0 : decode cL_coarsestExactLevel 0 = .ok (.aload_n 2, 1) := by decide +kernel
theorem dL_coarsestExactLevel_1 : decode cL_coarsestExactLevel 1 = .ok (.iconst 0, 1) := by decide +kernel
theorem dL_coarsestExactLevel_2 : decode cL_coarsestExactLevel 2 = .ok (.aload_n 0, 1) := by decide +kernel
theorem dL_coarsestExactLevel_3 : decode cL_coarsestExactLevel 3 = .ok (.iload_n 1, 1) := by decide +kernel
theorem dL_coarsestExactLevel_4 : decode cL_coarsestExactLevel 4 = .ok (.invokevirtual 62, 3) := by decide +kernel
theorem dL_coarsestExactLevel_7 : decode cL_coarsestExactLevel 7 = .ok (.i2l, 1) := by decide +kernel
theorem dL_coarsestExactLevel_8 : decode cL_coarsestExactLevel 8 = .ok (.lastore, 1) := by decide +kernel
theorem dL_coarsestExactLevel_9 : decode cL_coarsestExactLevel 9 = .ok (.goto 6, 3) := by decide +kernel
theorem dL_coarsestExactLevel_12 : decode cL_coarsestExactLevel 12 = .ok (.astore_n 3, 1) := by decide +kernel
theorem dL_coarsestExactLevel_13 : decode cL_coarsestExactLevel 13 = .ok (.iconst 1, 1) := by decide +kernel
theorem dL_coarsestExactLevel_14 : decode cL_coarsestExactLevel 14 = .ok (.ireturn, 1) := by decide +kernel
theorem dL_coarsestExactLevel_15 : decode cL_coarsestExactLevel 15 = .ok (.iconst 0, 1) := by decide +kernel
theorem dL_coarsestExactLevel_16 : decode cL_coarsestExactLevel 16 = .ok (.ireturn, 1) := by decide +kernel
theorem dL_totalLength_0 : decode cL_totalLength 0 = .ok (.aload_n 2, 1) := by decide +kernel
theorem dL_totalLength_1 : decode cL_totalLength 1 = .ok (.iconst 0, 1) := by decide +kernel
theorem dL_totalLength_2 : decode cL_totalLength 2 = .ok (.aload_n 0, 1) := by decide +kernel
theorem dL_totalLength_3 : decode cL_totalLength 3 = .ok (.iload_n 1, 1) := by decide +kernel
theorem dL_totalLength_4 : decode cL_totalLength 4 = .ok (.invokevirtual 65, 3) := by decide +kernel
theorem dL_totalLength_7 : decode cL_totalLength 7 = .ok (.i2l, 1) := by decide +kernel
theorem dL_totalLength_8 : decode cL_totalLength 8 = .ok (.lastore, 1) := by decide +kernel
theorem dL_totalLength_9 : decode cL_totalLength 9 = .ok (.goto 6, 3) := by decide +kernel
theorem dL_totalLength_12 : decode cL_totalLength 12 = .ok (.astore_n 3, 1) := by decide +kernel
theorem dL_totalLength_13 : decode cL_totalLength 13 = .ok (.iconst 1, 1) := by decide +kernel
theorem dL_totalLength_14 : decode cL_totalLength 14 = .ok (.ireturn, 1) := by decide +kernel
theorem dL_totalLength_15 : decode cL_totalLength 15 = .ok (.iconst 0, 1) := by decide +kernel
theorem dL_totalLength_16 : decode cL_totalLength 16 = .ok (.ireturn, 1) := by decide +kernel
theorem dL_longestCoast_0 : decode cL_longestCoast 0 = .ok (.aload_n 2, 1) := by decide +kernel
theorem dL_longestCoast_1 : decode cL_longestCoast 1 = .ok (.iconst 0, 1) := by decide +kernel
theorem dL_longestCoast_2 : decode cL_longestCoast 2 = .ok (.aload_n 0, 1) := by decide +kernel
theorem dL_longestCoast_3 : decode cL_longestCoast 3 = .ok (.iload_n 1, 1) := by decide +kernel
theorem dL_longestCoast_4 : decode cL_longestCoast 4 = .ok (.invokevirtual 68, 3) := by decide +kernel
theorem dL_longestCoast_7 : decode cL_longestCoast 7 = .ok (.i2l, 1) := by decide +kernel
theorem dL_longestCoast_8 : decode cL_longestCoast 8 = .ok (.lastore, 1) := by decide +kernel
theorem dL_longestCoast_9 : decode cL_longestCoast 9 = .ok (.goto 6, 3) := by decide +kernel
theorem dL_longestCoast_12 : decode cL_longestCoast 12 = .ok (.astore_n 3, 1) := by decide +kernel
theorem dL_longestCoast_13 : decode cL_longestCoast 13 = .ok (.iconst 1, 1) := by decide +kernel
theorem dL_longestCoast_14 : decode cL_longestCoast 14 = .ok (.ireturn, 1) := by decide +kernel
theorem dL_longestCoast_15 : decode cL_longestCoast 15 = .ok (.iconst 0, 1) := by decide +kernel
theorem dL_longestCoast_16 : decode cL_longestCoast 16 = .ok (.ireturn, 1) := by decide +kernel
theorem dL_refinementRatio_0 : decode cL_refinementRatio 0 = .ok (.aload_n 3, 1) := by decide +kernel
theorem dL_refinementRatio_1 : decode cL_refinementRatio 1 = .ok (.iconst 0, 1) := by decide +kernel
theorem dL_refinementRatio_2 : decode cL_refinementRatio 2 = .ok (.aload_n 0, 1) := by decide +kernel
theorem dL_refinementRatio_3 : decode cL_refinementRatio 3 = .ok (.iload_n 1, 1) := by decide +kernel
theorem dL_refinementRatio_4 : decode cL_refinementRatio 4 = .ok (.iload_n 2, 1) := by decide +kernel
theorem dL_refinementRatio_5 : decode cL_refinementRatio 5 = .ok (.invokevirtual 71, 3) := by decide +kernel
theorem dL_refinementRatio_8 : decode cL_refinementRatio 8 = .ok (.dastore, 1) := by decide +kernel
theorem dL_refinementRatio_9 : decode cL_refinementRatio 9 = .ok (.goto 11, 3) := by decide +kernel
theorem dL_refinementRatio_12 : decode cL_refinementRatio 12 = .ok (.astore 4, 2) := by decide +kernel
theorem dL_refinementRatio_14 : decode cL_refinementRatio 14 = .ok (.iconst 1, 1) := by decide +kernel
theorem dL_refinementRatio_15 : decode cL_refinementRatio 15 = .ok (.ireturn, 1) := by decide +kernel
theorem dL_refinementRatio_16 : decode cL_refinementRatio 16 = .ok (.astore 4, 2) := by decide +kernel
theorem dL_refinementRatio_18 : decode cL_refinementRatio 18 = .ok (.iconst 2, 1) := by decide +kernel
theorem dL_refinementRatio_19 : decode cL_refinementRatio 19 = .ok (.ireturn, 1) := by decide +kernel
theorem dL_refinementRatio_20 : decode cL_refinementRatio 20 = .ok (.iconst 0, 1) := by decide +kernel
theorem dL_refinementRatio_21 : decode cL_refinementRatio 21 = .ok (.ireturn, 1) := by decide +kernel
theorem dL_meanStickLength_0 : decode cL_meanStickLength 0 = .ok (.aload_n 3, 1) := by decide +kernel
theorem dL_meanStickLength_1 : decode cL_meanStickLength 1 = .ok (.iconst 0, 1) := by decide +kernel
theorem dL_meanStickLength_2 : decode cL_meanStickLength 2 = .ok (.aload_n 0, 1) := by decide +kernel
theorem dL_meanStickLength_3 : decode cL_meanStickLength 3 = .ok (.iload_n 1, 1) := by decide +kernel
theorem dL_meanStickLength_4 : decode cL_meanStickLength 4 = .ok (.iload_n 2, 1) := by decide +kernel
theorem dL_meanStickLength_5 : decode cL_meanStickLength 5 = .ok (.invokevirtual 75, 3) := by decide +kernel
theorem dL_meanStickLength_8 : decode cL_meanStickLength 8 = .ok (.f2d, 1) := by decide +kernel
theorem dL_meanStickLength_9 : decode cL_meanStickLength 9 = .ok (.dastore, 1) := by decide +kernel
theorem dL_meanStickLength_10 : decode cL_meanStickLength 10 = .ok (.goto 11, 3) := by decide +kernel
theorem dL_meanStickLength_13 : decode cL_meanStickLength 13 = .ok (.astore 4, 2) := by decide +kernel
theorem dL_meanStickLength_15 : decode cL_meanStickLength 15 = .ok (.iconst 1, 1) := by decide +kernel
theorem dL_meanStickLength_16 : decode cL_meanStickLength 16 = .ok (.ireturn, 1) := by decide +kernel
theorem dL_meanStickLength_17 : decode cL_meanStickLength 17 = .ok (.astore 4, 2) := by decide +kernel
theorem dL_meanStickLength_19 : decode cL_meanStickLength 19 = .ok (.iconst 2, 1) := by decide +kernel
theorem dL_meanStickLength_20 : decode cL_meanStickLength 20 = .ok (.ireturn, 1) := by decide +kernel
theorem dL_meanStickLength_21 : decode cL_meanStickLength 21 = .ok (.iconst 0, 1) := by decide +kernel
theorem dL_meanStickLength_22 : decode cL_meanStickLength 22 = .ok (.ireturn, 1) := by decide +kernel
theorem dL_doubledArea_0 : decode cL_doubledArea 0 = .ok (.aload_n 2, 1) := by decide +kernel
theorem dL_doubledArea_1 : decode cL_doubledArea 1 = .ok (.iconst 0, 1) := by decide +kernel
theorem dL_doubledArea_2 : decode cL_doubledArea 2 = .ok (.aload_n 0, 1) := by decide +kernel
theorem dL_doubledArea_3 : decode cL_doubledArea 3 = .ok (.iload_n 1, 1) := by decide +kernel
theorem dL_doubledArea_4 : decode cL_doubledArea 4 = .ok (.invokevirtual 79, 3) := by decide +kernel
theorem dL_doubledArea_7 : decode cL_doubledArea 7 = .ok (.i2l, 1) := by decide +kernel
theorem dL_doubledArea_8 : decode cL_doubledArea 8 = .ok (.lastore, 1) := by decide +kernel
theorem dL_doubledArea_9 : decode cL_doubledArea 9 = .ok (.goto 9, 3) := by decide +kernel
theorem dL_doubledArea_12 : decode cL_doubledArea 12 = .ok (.astore_n 3, 1) := by decide +kernel
theorem dL_doubledArea_13 : decode cL_doubledArea 13 = .ok (.iconst 1, 1) := by decide +kernel
theorem dL_doubledArea_14 : decode cL_doubledArea 14 = .ok (.ireturn, 1) := by decide +kernel
theorem dL_doubledArea_15 : decode cL_doubledArea 15 = .ok (.astore_n 3, 1) := by decide +kernel
theorem dL_doubledArea_16 : decode cL_doubledArea 16 = .ok (.iconst 2, 1) := by decide +kernel
theorem dL_doubledArea_17 : decode cL_doubledArea 17 = .ok (.ireturn, 1) := by decide +kernel
theorem dL_doubledArea_18 : decode cL_doubledArea 18 = .ok (.iconst 0, 1) := by decide +kernel
theorem dL_doubledArea_19 : decode cL_doubledArea 19 = .ok (.ireturn, 1) := by decide +kernel
theorem dL_isCounterclockwise_0 : decode cL_isCounterclockwise 0 = .ok (.aload_n 2, 1) := by decide +kernel
theorem dL_isCounterclockwise_1 : decode cL_isCounterclockwise 1 = .ok (.iconst 0, 1) := by decide +kernel
theorem dL_isCounterclockwise_2 : decode cL_isCounterclockwise 2 = .ok (.aload_n 0, 1) := by decide +kernel
theorem dL_isCounterclockwise_3 : decode cL_isCounterclockwise 3 = .ok (.iload_n 1, 1) := by decide +kernel
theorem dL_isCounterclockwise_4 : decode cL_isCounterclockwise 4 = .ok (.invokevirtual 84, 3) := by decide +kernel
theorem dL_isCounterclockwise_7 : decode cL_isCounterclockwise 7 = .ok (.ifCond .eq 7, 3) := by decide +kernel
theorem dL_isCounterclockwise_10 : decode cL_isCounterclockwise 10 = .ok (.lconst 1, 1) := by decide +kernel
theorem dL_isCounterclockwise_11 : decode cL_isCounterclockwise 11 = .ok (.goto 4, 3) := by decide +kernel
theorem dL_isCounterclockwise_14 : decode cL_isCounterclockwise 14 = .ok (.lconst 0, 1) := by decide +kernel
theorem dL_isCounterclockwise_15 : decode cL_isCounterclockwise 15 = .ok (.lastore, 1) := by decide +kernel
theorem dL_isCounterclockwise_16 : decode cL_isCounterclockwise 16 = .ok (.goto 9, 3) := by decide +kernel
theorem dL_isCounterclockwise_19 : decode cL_isCounterclockwise 19 = .ok (.astore_n 3, 1) := by decide +kernel
theorem dL_isCounterclockwise_20 : decode cL_isCounterclockwise 20 = .ok (.iconst 1, 1) := by decide +kernel
theorem dL_isCounterclockwise_21 : decode cL_isCounterclockwise 21 = .ok (.ireturn, 1) := by decide +kernel
theorem dL_isCounterclockwise_22 : decode cL_isCounterclockwise 22 = .ok (.astore_n 3, 1) := by decide +kernel
theorem dL_isCounterclockwise_23 : decode cL_isCounterclockwise 23 = .ok (.iconst 2, 1) := by decide +kernel
theorem dL_isCounterclockwise_24 : decode cL_isCounterclockwise 24 = .ok (.ireturn, 1) := by decide +kernel
theorem dL_isCounterclockwise_25 : decode cL_isCounterclockwise 25 = .ok (.iconst 0, 1) := by decide +kernel
theorem dL_isCounterclockwise_26 : decode cL_isCounterclockwise 26 = .ok (.ireturn, 1) := by decide +kernel
theorem dL_contains_0 : decode cL_contains 0 = .ok (.aload 4, 2) := by decide +kernel
theorem dL_contains_2 : decode cL_contains 2 = .ok (.iconst 0, 1) := by decide +kernel
theorem dL_contains_3 : decode cL_contains 3 = .ok (.aload_n 0, 1) := by decide +kernel
theorem dL_contains_4 : decode cL_contains 4 = .ok (.iload_n 1, 1) := by decide +kernel
theorem dL_contains_5 : decode cL_contains 5 = .ok (.iload_n 2, 1) := by decide +kernel
theorem dL_contains_6 : decode cL_contains 6 = .ok (.iload_n 3, 1) := by decide +kernel
theorem dL_contains_7 : decode cL_contains 7 = .ok (.invokevirtual 87, 3) := by decide +kernel
theorem dL_contains_10 : decode cL_contains 10 = .ok (.ifCond .eq 7, 3) := by decide +kernel
theorem dL_contains_13 : decode cL_contains 13 = .ok (.lconst 1, 1) := by decide +kernel
theorem dL_contains_14 : decode cL_contains 14 = .ok (.goto 4, 3) := by decide +kernel
theorem dL_contains_17 : decode cL_contains 17 = .ok (.lconst 0, 1) := by decide +kernel
theorem dL_contains_18 : decode cL_contains 18 = .ok (.lastore, 1) := by decide +kernel
theorem dL_contains_19 : decode cL_contains 19 = .ok (.goto 15, 3) := by decide +kernel
theorem dL_contains_22 : decode cL_contains 22 = .ok (.astore 5, 2) := by decide +kernel
theorem dL_contains_24 : decode cL_contains 24 = .ok (.iconst 1, 1) := by decide +kernel
theorem dL_contains_25 : decode cL_contains 25 = .ok (.ireturn, 1) := by decide +kernel
theorem dL_contains_26 : decode cL_contains 26 = .ok (.astore 5, 2) := by decide +kernel
theorem dL_contains_28 : decode cL_contains 28 = .ok (.iconst 2, 1) := by decide +kernel
theorem dL_contains_29 : decode cL_contains 29 = .ok (.ireturn, 1) := by decide +kernel
theorem dL_contains_30 : decode cL_contains 30 = .ok (.astore 5, 2) := by decide +kernel
theorem dL_contains_32 : decode cL_contains 32 = .ok (.iconst 3, 1) := by decide +kernel
theorem dL_contains_33 : decode cL_contains 33 = .ok (.ireturn, 1) := by decide +kernel
theorem dL_contains_34 : decode cL_contains 34 = .ok (.iconst 0, 1) := by decide +kernel
theorem dL_contains_35 : decode cL_contains 35 = .ok (.ireturn, 1) := by decide +kernel
theorem dL_encloses_0 : decode cL_encloses 0 = .ok (.aload_n 3, 1) := by decide +kernel
theorem dL_encloses_1 : decode cL_encloses 1 = .ok (.iconst 0, 1) := by decide +kernel
theorem dL_encloses_2 : decode cL_encloses 2 = .ok (.aload_n 0, 1) := by decide +kernel
theorem dL_encloses_3 : decode cL_encloses 3 = .ok (.iload_n 1, 1) := by decide +kernel
theorem dL_encloses_4 : decode cL_encloses 4 = .ok (.iload_n 2, 1) := by decide +kernel
theorem dL_encloses_5 : decode cL_encloses 5 = .ok (.invokevirtual 91, 3) := by decide +kernel
theorem dL_encloses_8 : decode cL_encloses 8 = .ok (.ifCond .eq 7, 3) := by decide +kernel
theorem dL_encloses_11 : decode cL_encloses 11 = .ok (.lconst 1, 1) := by decide +kernel
theorem dL_encloses_12 : decode cL_encloses 12 = .ok (.goto 4, 3) := by decide +kernel
theorem dL_encloses_15 : decode cL_encloses 15 = .ok (.lconst 0, 1) := by decide +kernel
theorem dL_encloses_16 : decode cL_encloses 16 = .ok (.lastore, 1) := by decide +kernel
theorem dL_encloses_17 : decode cL_encloses 17 = .ok (.goto 11, 3) := by decide +kernel
theorem dL_encloses_20 : decode cL_encloses 20 = .ok (.astore 4, 2) := by decide +kernel
theorem dL_encloses_22 : decode cL_encloses 22 = .ok (.iconst 1, 1) := by decide +kernel
theorem dL_encloses_23 : decode cL_encloses 23 = .ok (.ireturn, 1) := by decide +kernel
theorem dL_encloses_24 : decode cL_encloses 24 = .ok (.astore 4, 2) := by decide +kernel
theorem dL_encloses_26 : decode cL_encloses 26 = .ok (.iconst 2, 1) := by decide +kernel
theorem dL_encloses_27 : decode cL_encloses 27 = .ok (.ireturn, 1) := by decide +kernel
theorem dL_encloses_28 : decode cL_encloses 28 = .ok (.iconst 0, 1) := by decide +kernel
theorem dL_encloses_29 : decode cL_encloses 29 = .ok (.ireturn, 1) := by decide +kernel
theorem dL_innermostIslandAround_0 : decode cL_innermostIslandAround 0 = .ok (.aload_n 2, 1) := by decide +kernel
theorem dL_innermostIslandAround_1 : decode cL_innermostIslandAround 1 = .ok (.iconst 0, 1) := by decide +kernel
theorem dL_innermostIslandAround_2 : decode cL_innermostIslandAround 2 = .ok (.aload_n 0, 1) := by decide +kernel
theorem dL_innermostIslandAround_3 : decode cL_innermostIslandAround 3 = .ok (.iload_n 1, 1) := by decide +kernel
theorem dL_innermostIslandAround_4 : decode cL_innermostIslandAround 4 = .ok (.invokevirtual 95, 3) := by decide +kernel
theorem dL_innermostIslandAround_7 : decode cL_innermostIslandAround 7 = .ok (.i2l, 1) := by decide +kernel
theorem dL_innermostIslandAround_8 : decode cL_innermostIslandAround 8 = .ok (.lastore, 1) := by decide +kernel
theorem dL_innermostIslandAround_9 : decode cL_innermostIslandAround 9 = .ok (.goto 6, 3) := by decide +kernel
theorem dL_innermostIslandAround_12 : decode cL_innermostIslandAround 12 = .ok (.astore_n 3, 1) := by decide +kernel
theorem dL_innermostIslandAround_13 : decode cL_innermostIslandAround 13 = .ok (.iconst 1, 1) := by decide +kernel
theorem dL_innermostIslandAround_14 : decode cL_innermostIslandAround 14 = .ok (.ireturn, 1) := by decide +kernel
theorem dL_innermostIslandAround_15 : decode cL_innermostIslandAround 15 = .ok (.iconst 0, 1) := by decide +kernel
theorem dL_innermostIslandAround_16 : decode cL_innermostIslandAround 16 = .ok (.ireturn, 1) := by decide +kernel
theorem dL_ringDepth_0 : decode cL_ringDepth 0 = .ok (.aload_n 2, 1) := by decide +kernel
theorem dL_ringDepth_1 : decode cL_ringDepth 1 = .ok (.iconst 0, 1) := by decide +kernel
theorem dL_ringDepth_2 : decode cL_ringDepth 2 = .ok (.aload_n 0, 1) := by decide +kernel
theorem dL_ringDepth_3 : decode cL_ringDepth 3 = .ok (.iload_n 1, 1) := by decide +kernel
theorem dL_ringDepth_4 : decode cL_ringDepth 4 = .ok (.invokevirtual 98, 3) := by decide +kernel
theorem dL_ringDepth_7 : decode cL_ringDepth 7 = .ok (.i2l, 1) := by decide +kernel
theorem dL_ringDepth_8 : decode cL_ringDepth 8 = .ok (.lastore, 1) := by decide +kernel
theorem dL_ringDepth_9 : decode cL_ringDepth 9 = .ok (.goto 6, 3) := by decide +kernel
theorem dL_ringDepth_12 : decode cL_ringDepth 12 = .ok (.astore_n 3, 1) := by decide +kernel
theorem dL_ringDepth_13 : decode cL_ringDepth 13 = .ok (.iconst 1, 1) := by decide +kernel
theorem dL_ringDepth_14 : decode cL_ringDepth 14 = .ok (.ireturn, 1) := by decide +kernel
theorem dL_ringDepth_15 : decode cL_ringDepth 15 = .ok (.iconst 0, 1) := by decide +kernel
theorem dL_ringDepth_16 : decode cL_ringDepth 16 = .ok (.ireturn, 1) := by decide +kernel
theorem dL_boxWidth_0 : decode cL_boxWidth 0 = .ok (.aload_n 2, 1) := by decide +kernel
theorem dL_boxWidth_1 : decode cL_boxWidth 1 = .ok (.iconst 0, 1) := by decide +kernel
theorem dL_boxWidth_2 : decode cL_boxWidth 2 = .ok (.aload_n 0, 1) := by decide +kernel
theorem dL_boxWidth_3 : decode cL_boxWidth 3 = .ok (.iload_n 1, 1) := by decide +kernel
theorem dL_boxWidth_4 : decode cL_boxWidth 4 = .ok (.invokevirtual 101, 3) := by decide +kernel
theorem dL_boxWidth_7 : decode cL_boxWidth 7 = .ok (.i2l, 1) := by decide +kernel
theorem dL_boxWidth_8 : decode cL_boxWidth 8 = .ok (.lastore, 1) := by decide +kernel
theorem dL_boxWidth_9 : decode cL_boxWidth 9 = .ok (.goto 6, 3) := by decide +kernel
theorem dL_boxWidth_12 : decode cL_boxWidth 12 = .ok (.astore_n 3, 1) := by decide +kernel
theorem dL_boxWidth_13 : decode cL_boxWidth 13 = .ok (.iconst 1, 1) := by decide +kernel
theorem dL_boxWidth_14 : decode cL_boxWidth 14 = .ok (.ireturn, 1) := by decide +kernel
theorem dL_boxWidth_15 : decode cL_boxWidth 15 = .ok (.iconst 0, 1) := by decide +kernel
theorem dL_boxWidth_16 : decode cL_boxWidth 16 = .ok (.ireturn, 1) := by decide +kernel
theorem dL_boxHeight_0 : decode cL_boxHeight 0 = .ok (.aload_n 2, 1) := by decide +kernel
theorem dL_boxHeight_1 : decode cL_boxHeight 1 = .ok (.iconst 0, 1) := by decide +kernel
theorem dL_boxHeight_2 : decode cL_boxHeight 2 = .ok (.aload_n 0, 1) := by decide +kernel
theorem dL_boxHeight_3 : decode cL_boxHeight 3 = .ok (.iload_n 1, 1) := by decide +kernel
theorem dL_boxHeight_4 : decode cL_boxHeight 4 = .ok (.invokevirtual 104, 3) := by decide +kernel
theorem dL_boxHeight_7 : decode cL_boxHeight 7 = .ok (.i2l, 1) := by decide +kernel
theorem dL_boxHeight_8 : decode cL_boxHeight 8 = .ok (.lastore, 1) := by decide +kernel
theorem dL_boxHeight_9 : decode cL_boxHeight 9 = .ok (.goto 6, 3) := by decide +kernel
theorem dL_boxHeight_12 : decode cL_boxHeight 12 = .ok (.astore_n 3, 1) := by decide +kernel
theorem dL_boxHeight_13 : decode cL_boxHeight 13 = .ok (.iconst 1, 1) := by decide +kernel
theorem dL_boxHeight_14 : decode cL_boxHeight 14 = .ok (.ireturn, 1) := by decide +kernel
theorem dL_boxHeight_15 : decode cL_boxHeight 15 = .ok (.iconst 0, 1) := by decide +kernel
theorem dL_boxHeight_16 : decode cL_boxHeight 16 = .ok (.ireturn, 1) := by decide +kernel
theorem dL_foldObstacle_0 : decode cL_foldObstacle 0 = .ok (.aload_n 3, 1) := by decide +kernel
theorem dL_foldObstacle_1 : decode cL_foldObstacle 1 = .ok (.iconst 0, 1) := by decide +kernel
theorem dL_foldObstacle_2 : decode cL_foldObstacle 2 = .ok (.aload_n 0, 1) := by decide +kernel
theorem dL_foldObstacle_3 : decode cL_foldObstacle 3 = .ok (.iload_n 1, 1) := by decide +kernel
theorem dL_foldObstacle_4 : decode cL_foldObstacle 4 = .ok (.iload_n 2, 1) := by decide +kernel
theorem dL_foldObstacle_5 : decode cL_foldObstacle 5 = .ok (.invokevirtual 107, 3) := by decide +kernel
theorem dL_foldObstacle_8 : decode cL_foldObstacle 8 = .ok (.i2l, 1) := by decide +kernel
theorem dL_foldObstacle_9 : decode cL_foldObstacle 9 = .ok (.lastore, 1) := by decide +kernel
theorem dL_foldObstacle_10 : decode cL_foldObstacle 10 = .ok (.goto 11, 3) := by decide +kernel
theorem dL_foldObstacle_13 : decode cL_foldObstacle 13 = .ok (.astore 4, 2) := by decide +kernel
theorem dL_foldObstacle_15 : decode cL_foldObstacle 15 = .ok (.iconst 1, 1) := by decide +kernel
theorem dL_foldObstacle_16 : decode cL_foldObstacle 16 = .ok (.ireturn, 1) := by decide +kernel
theorem dL_foldObstacle_17 : decode cL_foldObstacle 17 = .ok (.astore 4, 2) := by decide +kernel
theorem dL_foldObstacle_19 : decode cL_foldObstacle 19 = .ok (.iconst 2, 1) := by decide +kernel
theorem dL_foldObstacle_20 : decode cL_foldObstacle 20 = .ok (.ireturn, 1) := by decide +kernel
theorem dL_foldObstacle_21 : decode cL_foldObstacle 21 = .ok (.iconst 0, 1) := by decide +kernel
theorem dL_foldObstacle_22 : decode cL_foldObstacle 22 = .ok (.ireturn, 1) := by decide +kernel
theorem dL_lengthAfterFold_0 : decode cL_lengthAfterFold 0 = .ok (.aload 4, 2) := by decide +kernel
theorem dL_lengthAfterFold_2 : decode cL_lengthAfterFold 2 = .ok (.iconst 0, 1) := by decide +kernel
theorem dL_lengthAfterFold_3 : decode cL_lengthAfterFold 3 = .ok (.aload_n 0, 1) := by decide +kernel
theorem dL_lengthAfterFold_4 : decode cL_lengthAfterFold 4 = .ok (.iload_n 1, 1) := by decide +kernel
theorem dL_lengthAfterFold_5 : decode cL_lengthAfterFold 5 = .ok (.iload_n 2, 1) := by decide +kernel
theorem dL_lengthAfterFold_6 : decode cL_lengthAfterFold 6 = .ok (.iload_n 3, 1) := by decide +kernel
theorem dL_lengthAfterFold_7 : decode cL_lengthAfterFold 7 = .ok (.invokevirtual 110, 3) := by decide +kernel
theorem dL_lengthAfterFold_10 : decode cL_lengthAfterFold 10 = .ok (.i2l, 1) := by decide +kernel
theorem dL_lengthAfterFold_11 : decode cL_lengthAfterFold 11 = .ok (.lastore, 1) := by decide +kernel
theorem dL_lengthAfterFold_12 : decode cL_lengthAfterFold 12 = .ok (.goto 11, 3) := by decide +kernel
theorem dL_lengthAfterFold_15 : decode cL_lengthAfterFold 15 = .ok (.astore 5, 2) := by decide +kernel
theorem dL_lengthAfterFold_17 : decode cL_lengthAfterFold 17 = .ok (.iconst 1, 1) := by decide +kernel
theorem dL_lengthAfterFold_18 : decode cL_lengthAfterFold 18 = .ok (.ireturn, 1) := by decide +kernel
theorem dL_lengthAfterFold_19 : decode cL_lengthAfterFold 19 = .ok (.astore 5, 2) := by decide +kernel
theorem dL_lengthAfterFold_21 : decode cL_lengthAfterFold 21 = .ok (.iconst 2, 1) := by decide +kernel
theorem dL_lengthAfterFold_22 : decode cL_lengthAfterFold 22 = .ok (.ireturn, 1) := by decide +kernel
theorem dL_lengthAfterFold_23 : decode cL_lengthAfterFold 23 = .ok (.iconst 0, 1) := by decide +kernel
theorem dL_lengthAfterFold_24 : decode cL_lengthAfterFold 24 = .ok (.ireturn, 1) := by decide +kernel
theorem dL_lengthWithoutPoint_0 : decode cL_lengthWithoutPoint 0 = .ok (.aload_n 3, 1) := by decide +kernel
theorem dL_lengthWithoutPoint_1 : decode cL_lengthWithoutPoint 1 = .ok (.iconst 0, 1) := by decide +kernel
theorem dL_lengthWithoutPoint_2 : decode cL_lengthWithoutPoint 2 = .ok (.aload_n 0, 1) := by decide +kernel
theorem dL_lengthWithoutPoint_3 : decode cL_lengthWithoutPoint 3 = .ok (.iload_n 1, 1) := by decide +kernel
theorem dL_lengthWithoutPoint_4 : decode cL_lengthWithoutPoint 4 = .ok (.iload_n 2, 1) := by decide +kernel
theorem dL_lengthWithoutPoint_5 : decode cL_lengthWithoutPoint 5 = .ok (.invokevirtual 113, 3) := by decide +kernel
theorem dL_lengthWithoutPoint_8 : decode cL_lengthWithoutPoint 8 = .ok (.i2l, 1) := by decide +kernel
theorem dL_lengthWithoutPoint_9 : decode cL_lengthWithoutPoint 9 = .ok (.lastore, 1) := by decide +kernel
theorem dL_lengthWithoutPoint_10 : decode cL_lengthWithoutPoint 10 = .ok (.goto 7, 3) := by decide +kernel
theorem dL_lengthWithoutPoint_13 : decode cL_lengthWithoutPoint 13 = .ok (.astore 4, 2) := by decide +kernel
theorem dL_lengthWithoutPoint_15 : decode cL_lengthWithoutPoint 15 = .ok (.iconst 1, 1) := by decide +kernel
theorem dL_lengthWithoutPoint_16 : decode cL_lengthWithoutPoint 16 = .ok (.ireturn, 1) := by decide +kernel
theorem dL_lengthWithoutPoint_17 : decode cL_lengthWithoutPoint 17 = .ok (.iconst 0, 1) := by decide +kernel
theorem dL_lengthWithoutPoint_18 : decode cL_lengthWithoutPoint 18 = .ok (.ireturn, 1) := by decide +kernel
theorem dL_leastImportantPoint_0 : decode cL_leastImportantPoint 0 = .ok (.aload_n 2, 1) := by decide +kernel
theorem dL_leastImportantPoint_1 : decode cL_leastImportantPoint 1 = .ok (.iconst 0, 1) := by decide +kernel
theorem dL_leastImportantPoint_2 : decode cL_leastImportantPoint 2 = .ok (.aload_n 0, 1) := by decide +kernel
theorem dL_leastImportantPoint_3 : decode cL_leastImportantPoint 3 = .ok (.iload_n 1, 1) := by decide +kernel
theorem dL_leastImportantPoint_4 : decode cL_leastImportantPoint 4 = .ok (.invokevirtual 116, 3) := by decide +kernel
theorem dL_leastImportantPoint_7 : decode cL_leastImportantPoint 7 = .ok (.i2l, 1) := by decide +kernel
theorem dL_leastImportantPoint_8 : decode cL_leastImportantPoint 8 = .ok (.lastore, 1) := by decide +kernel
theorem dL_leastImportantPoint_9 : decode cL_leastImportantPoint 9 = .ok (.goto 6, 3) := by decide +kernel
theorem dL_leastImportantPoint_12 : decode cL_leastImportantPoint 12 = .ok (.astore_n 3, 1) := by decide +kernel
theorem dL_leastImportantPoint_13 : decode cL_leastImportantPoint 13 = .ok (.iconst 1, 1) := by decide +kernel
theorem dL_leastImportantPoint_14 : decode cL_leastImportantPoint 14 = .ok (.ireturn, 1) := by decide +kernel
theorem dL_leastImportantPoint_15 : decode cL_leastImportantPoint 15 = .ok (.iconst 0, 1) := by decide +kernel
theorem dL_leastImportantPoint_16 : decode cL_leastImportantPoint 16 = .ok (.ireturn, 1) := by decide +kernel
theorem dL_lengthInOtherMetric_0 : decode cL_lengthInOtherMetric 0 = .ok (.aload_n 3, 1) := by decide +kernel
theorem dL_lengthInOtherMetric_1 : decode cL_lengthInOtherMetric 1 = .ok (.iconst 0, 1) := by decide +kernel
theorem dL_lengthInOtherMetric_2 : decode cL_lengthInOtherMetric 2 = .ok (.aload_n 0, 1) := by decide +kernel
theorem dL_lengthInOtherMetric_3 : decode cL_lengthInOtherMetric 3 = .ok (.iload_n 1, 1) := by decide +kernel
theorem dL_lengthInOtherMetric_4 : decode cL_lengthInOtherMetric 4 = .ok (.iload_n 2, 1) := by decide +kernel
theorem dL_lengthInOtherMetric_5 : decode cL_lengthInOtherMetric 5 = .ok (.invokevirtual 119, 3) := by decide +kernel
theorem dL_lengthInOtherMetric_8 : decode cL_lengthInOtherMetric 8 = .ok (.i2l, 1) := by decide +kernel
theorem dL_lengthInOtherMetric_9 : decode cL_lengthInOtherMetric 9 = .ok (.lastore, 1) := by decide +kernel
theorem dL_lengthInOtherMetric_10 : decode cL_lengthInOtherMetric 10 = .ok (.goto 11, 3) := by decide +kernel
theorem dL_lengthInOtherMetric_13 : decode cL_lengthInOtherMetric 13 = .ok (.astore 4, 2) := by decide +kernel
theorem dL_lengthInOtherMetric_15 : decode cL_lengthInOtherMetric 15 = .ok (.iconst 1, 1) := by decide +kernel
theorem dL_lengthInOtherMetric_16 : decode cL_lengthInOtherMetric 16 = .ok (.ireturn, 1) := by decide +kernel
theorem dL_lengthInOtherMetric_17 : decode cL_lengthInOtherMetric 17 = .ok (.astore 4, 2) := by decide +kernel
theorem dL_lengthInOtherMetric_19 : decode cL_lengthInOtherMetric 19 = .ok (.iconst 2, 1) := by decide +kernel
theorem dL_lengthInOtherMetric_20 : decode cL_lengthInOtherMetric 20 = .ok (.ireturn, 1) := by decide +kernel
theorem dL_lengthInOtherMetric_21 : decode cL_lengthInOtherMetric 21 = .ok (.iconst 0, 1) := by decide +kernel
theorem dL_lengthInOtherMetric_22 : decode cL_lengthInOtherMetric 22 = .ok (.ireturn, 1) := by decide +kernel
theorem dL_addCoast_0 : decode cL_addCoast 0 = .ok (.aload_n 2, 1) := by decide +kernel
theorem dL_addCoast_1 : decode cL_addCoast 1 = .ok (.iconst 0, 1) := by decide +kernel
theorem dL_addCoast_2 : decode cL_addCoast 2 = .ok (.aload_n 0, 1) := by decide +kernel
theorem dL_addCoast_3 : decode cL_addCoast 3 = .ok (.iload_n 1, 1) := by decide +kernel
theorem dL_addCoast_4 : decode cL_addCoast 4 = .ok (.invokevirtual 122, 3) := by decide +kernel
theorem dL_addCoast_7 : decode cL_addCoast 7 = .ok (.i2l, 1) := by decide +kernel
theorem dL_addCoast_8 : decode cL_addCoast 8 = .ok (.lastore, 1) := by decide +kernel
theorem dL_addCoast_9 : decode cL_addCoast 9 = .ok (.goto 9, 3) := by decide +kernel
theorem dL_addCoast_12 : decode cL_addCoast 12 = .ok (.astore_n 3, 1) := by decide +kernel
theorem dL_addCoast_13 : decode cL_addCoast 13 = .ok (.iconst 1, 1) := by decide +kernel
theorem dL_addCoast_14 : decode cL_addCoast 14 = .ok (.ireturn, 1) := by decide +kernel
theorem dL_addCoast_15 : decode cL_addCoast 15 = .ok (.astore_n 3, 1) := by decide +kernel
theorem dL_addCoast_16 : decode cL_addCoast 16 = .ok (.iconst 2, 1) := by decide +kernel
theorem dL_addCoast_17 : decode cL_addCoast 17 = .ok (.ireturn, 1) := by decide +kernel
theorem dL_addCoast_18 : decode cL_addCoast 18 = .ok (.iconst 0, 1) := by decide +kernel
theorem dL_addCoast_19 : decode cL_addCoast 19 = .ok (.ireturn, 1) := by decide +kernel
theorem dL_removeCoast_0 : decode cL_removeCoast 0 = .ok (.aload_n 2, 1) := by decide +kernel
theorem dL_removeCoast_1 : decode cL_removeCoast 1 = .ok (.iconst 0, 1) := by decide +kernel
theorem dL_removeCoast_2 : decode cL_removeCoast 2 = .ok (.aload_n 0, 1) := by decide +kernel
theorem dL_removeCoast_3 : decode cL_removeCoast 3 = .ok (.iload_n 1, 1) := by decide +kernel
theorem dL_removeCoast_4 : decode cL_removeCoast 4 = .ok (.invokevirtual 125, 3) := by decide +kernel
theorem dL_removeCoast_7 : decode cL_removeCoast 7 = .ok (.i2l, 1) := by decide +kernel
theorem dL_removeCoast_8 : decode cL_removeCoast 8 = .ok (.lastore, 1) := by decide +kernel
theorem dL_removeCoast_9 : decode cL_removeCoast 9 = .ok (.goto 6, 3) := by decide +kernel
theorem dL_removeCoast_12 : decode cL_removeCoast 12 = .ok (.astore_n 3, 1) := by decide +kernel
theorem dL_removeCoast_13 : decode cL_removeCoast 13 = .ok (.iconst 1, 1) := by decide +kernel
theorem dL_removeCoast_14 : decode cL_removeCoast 14 = .ok (.ireturn, 1) := by decide +kernel
theorem dL_removeCoast_15 : decode cL_removeCoast 15 = .ok (.iconst 0, 1) := by decide +kernel
theorem dL_removeCoast_16 : decode cL_removeCoast 16 = .ok (.ireturn, 1) := by decide +kernel
theorem dL_fold_0 : decode cL_fold 0 = .ok (.aload_n 3, 1) := by decide +kernel
theorem dL_fold_1 : decode cL_fold 1 = .ok (.iconst 0, 1) := by decide +kernel
theorem dL_fold_2 : decode cL_fold 2 = .ok (.aload_n 0, 1) := by decide +kernel
theorem dL_fold_3 : decode cL_fold 3 = .ok (.iload_n 1, 1) := by decide +kernel
theorem dL_fold_4 : decode cL_fold 4 = .ok (.iload_n 2, 1) := by decide +kernel
theorem dL_fold_5 : decode cL_fold 5 = .ok (.invokevirtual 128, 3) := by decide +kernel
theorem dL_fold_8 : decode cL_fold 8 = .ok (.i2l, 1) := by decide +kernel
theorem dL_fold_9 : decode cL_fold 9 = .ok (.lastore, 1) := by decide +kernel
theorem dL_fold_10 : decode cL_fold 10 = .ok (.goto 15, 3) := by decide +kernel
theorem dL_fold_13 : decode cL_fold 13 = .ok (.astore 4, 2) := by decide +kernel
theorem dL_fold_15 : decode cL_fold 15 = .ok (.iconst 1, 1) := by decide +kernel
theorem dL_fold_16 : decode cL_fold 16 = .ok (.ireturn, 1) := by decide +kernel
theorem dL_fold_17 : decode cL_fold 17 = .ok (.astore 4, 2) := by decide +kernel
theorem dL_fold_19 : decode cL_fold 19 = .ok (.iconst 2, 1) := by decide +kernel
theorem dL_fold_20 : decode cL_fold 20 = .ok (.ireturn, 1) := by decide +kernel
theorem dL_fold_21 : decode cL_fold 21 = .ok (.astore 4, 2) := by decide +kernel
theorem dL_fold_23 : decode cL_fold 23 = .ok (.iconst 3, 1) := by decide +kernel
theorem dL_fold_24 : decode cL_fold 24 = .ok (.ireturn, 1) := by decide +kernel
theorem dL_fold_25 : decode cL_fold 25 = .ok (.iconst 0, 1) := by decide +kernel
theorem dL_fold_26 : decode cL_fold 26 = .ok (.ireturn, 1) := by decide +kernel
theorem dL_unfold_0 : decode cL_unfold 0 = .ok (.aload_n 2, 1) := by decide +kernel
theorem dL_unfold_1 : decode cL_unfold 1 = .ok (.iconst 0, 1) := by decide +kernel
theorem dL_unfold_2 : decode cL_unfold 2 = .ok (.aload_n 0, 1) := by decide +kernel
theorem dL_unfold_3 : decode cL_unfold 3 = .ok (.iload_n 1, 1) := by decide +kernel
theorem dL_unfold_4 : decode cL_unfold 4 = .ok (.invokevirtual 131, 3) := by decide +kernel
theorem dL_unfold_7 : decode cL_unfold 7 = .ok (.i2l, 1) := by decide +kernel
theorem dL_unfold_8 : decode cL_unfold 8 = .ok (.lastore, 1) := by decide +kernel
theorem dL_unfold_9 : decode cL_unfold 9 = .ok (.goto 9, 3) := by decide +kernel
theorem dL_unfold_12 : decode cL_unfold 12 = .ok (.astore_n 3, 1) := by decide +kernel
theorem dL_unfold_13 : decode cL_unfold 13 = .ok (.iconst 1, 1) := by decide +kernel
theorem dL_unfold_14 : decode cL_unfold 14 = .ok (.ireturn, 1) := by decide +kernel
theorem dL_unfold_15 : decode cL_unfold 15 = .ok (.astore_n 3, 1) := by decide +kernel
theorem dL_unfold_16 : decode cL_unfold 16 = .ok (.iconst 2, 1) := by decide +kernel
theorem dL_unfold_17 : decode cL_unfold 17 = .ok (.ireturn, 1) := by decide +kernel
theorem dL_unfold_18 : decode cL_unfold 18 = .ok (.iconst 0, 1) := by decide +kernel
theorem dL_unfold_19 : decode cL_unfold 19 = .ok (.ireturn, 1) := by decide +kernel
theorem dL_movePoint_0 : decode cL_movePoint 0 = .ok (.aload 5, 2) := by decide +kernel
theorem dL_movePoint_2 : decode cL_movePoint 2 = .ok (.iconst 0, 1) := by decide +kernel
theorem dL_movePoint_3 : decode cL_movePoint 3 = .ok (.aload_n 0, 1) := by decide +kernel
theorem dL_movePoint_4 : decode cL_movePoint 4 = .ok (.iload_n 1, 1) := by decide +kernel
theorem dL_movePoint_5 : decode cL_movePoint 5 = .ok (.iload_n 2, 1) := by decide +kernel
theorem dL_movePoint_6 : decode cL_movePoint 6 = .ok (.iload_n 3, 1) := by decide +kernel
theorem dL_movePoint_7 : decode cL_movePoint 7 = .ok (.iload 4, 2) := by decide +kernel
theorem dL_movePoint_9 : decode cL_movePoint 9 = .ok (.invokevirtual 134, 3) := by decide +kernel
theorem dL_movePoint_12 : decode cL_movePoint 12 = .ok (.i2l, 1) := by decide +kernel
theorem dL_movePoint_13 : decode cL_movePoint 13 = .ok (.lastore, 1) := by decide +kernel
theorem dL_movePoint_14 : decode cL_movePoint 14 = .ok (.goto 11, 3) := by decide +kernel
theorem dL_movePoint_17 : decode cL_movePoint 17 = .ok (.astore 6, 2) := by decide +kernel
theorem dL_movePoint_19 : decode cL_movePoint 19 = .ok (.iconst 1, 1) := by decide +kernel
theorem dL_movePoint_20 : decode cL_movePoint 20 = .ok (.ireturn, 1) := by decide +kernel
theorem dL_movePoint_21 : decode cL_movePoint 21 = .ok (.astore 6, 2) := by decide +kernel
theorem dL_movePoint_23 : decode cL_movePoint 23 = .ok (.iconst 2, 1) := by decide +kernel
theorem dL_movePoint_24 : decode cL_movePoint 24 = .ok (.ireturn, 1) := by decide +kernel
theorem dL_movePoint_25 : decode cL_movePoint 25 = .ok (.iconst 0, 1) := by decide +kernel
theorem dL_movePoint_26 : decode cL_movePoint 26 = .ok (.ireturn, 1) := by decide +kernel
theorem dL_insertPoint_0 : decode cL_insertPoint 0 = .ok (.aload 5, 2) := by decide +kernel
theorem dL_insertPoint_2 : decode cL_insertPoint 2 = .ok (.iconst 0, 1) := by decide +kernel
theorem dL_insertPoint_3 : decode cL_insertPoint 3 = .ok (.aload_n 0, 1) := by decide +kernel
theorem dL_insertPoint_4 : decode cL_insertPoint 4 = .ok (.iload_n 1, 1) := by decide +kernel
theorem dL_insertPoint_5 : decode cL_insertPoint 5 = .ok (.iload_n 2, 1) := by decide +kernel
theorem dL_insertPoint_6 : decode cL_insertPoint 6 = .ok (.iload_n 3, 1) := by decide +kernel
theorem dL_insertPoint_7 : decode cL_insertPoint 7 = .ok (.iload 4, 2) := by decide +kernel
theorem dL_insertPoint_9 : decode cL_insertPoint 9 = .ok (.invokevirtual 138, 3) := by decide +kernel
theorem dL_insertPoint_12 : decode cL_insertPoint 12 = .ok (.i2l, 1) := by decide +kernel
theorem dL_insertPoint_13 : decode cL_insertPoint 13 = .ok (.lastore, 1) := by decide +kernel
theorem dL_insertPoint_14 : decode cL_insertPoint 14 = .ok (.goto 15, 3) := by decide +kernel
theorem dL_insertPoint_17 : decode cL_insertPoint 17 = .ok (.astore 6, 2) := by decide +kernel
theorem dL_insertPoint_19 : decode cL_insertPoint 19 = .ok (.iconst 1, 1) := by decide +kernel
theorem dL_insertPoint_20 : decode cL_insertPoint 20 = .ok (.ireturn, 1) := by decide +kernel
theorem dL_insertPoint_21 : decode cL_insertPoint 21 = .ok (.astore 6, 2) := by decide +kernel
theorem dL_insertPoint_23 : decode cL_insertPoint 23 = .ok (.iconst 2, 1) := by decide +kernel
theorem dL_insertPoint_24 : decode cL_insertPoint 24 = .ok (.ireturn, 1) := by decide +kernel
theorem dL_insertPoint_25 : decode cL_insertPoint 25 = .ok (.astore 6, 2) := by decide +kernel
theorem dL_insertPoint_27 : decode cL_insertPoint 27 = .ok (.iconst 3, 1) := by decide +kernel
theorem dL_insertPoint_28 : decode cL_insertPoint 28 = .ok (.ireturn, 1) := by decide +kernel
theorem dL_insertPoint_29 : decode cL_insertPoint 29 = .ok (.iconst 0, 1) := by decide +kernel
theorem dL_insertPoint_30 : decode cL_insertPoint 30 = .ok (.ireturn, 1) := by decide +kernel
theorem dL_removePoint_0 : decode cL_removePoint 0 = .ok (.aload_n 3, 1) := by decide +kernel
theorem dL_removePoint_1 : decode cL_removePoint 1 = .ok (.iconst 0, 1) := by decide +kernel
theorem dL_removePoint_2 : decode cL_removePoint 2 = .ok (.aload_n 0, 1) := by decide +kernel
theorem dL_removePoint_3 : decode cL_removePoint 3 = .ok (.iload_n 1, 1) := by decide +kernel
theorem dL_removePoint_4 : decode cL_removePoint 4 = .ok (.iload_n 2, 1) := by decide +kernel
theorem dL_removePoint_5 : decode cL_removePoint 5 = .ok (.invokevirtual 141, 3) := by decide +kernel
theorem dL_removePoint_8 : decode cL_removePoint 8 = .ok (.i2l, 1) := by decide +kernel
theorem dL_removePoint_9 : decode cL_removePoint 9 = .ok (.lastore, 1) := by decide +kernel
theorem dL_removePoint_10 : decode cL_removePoint 10 = .ok (.goto 11, 3) := by decide +kernel
theorem dL_removePoint_13 : decode cL_removePoint 13 = .ok (.astore 4, 2) := by decide +kernel
theorem dL_removePoint_15 : decode cL_removePoint 15 = .ok (.iconst 1, 1) := by decide +kernel
theorem dL_removePoint_16 : decode cL_removePoint 16 = .ok (.ireturn, 1) := by decide +kernel
theorem dL_removePoint_17 : decode cL_removePoint 17 = .ok (.astore 4, 2) := by decide +kernel
theorem dL_removePoint_19 : decode cL_removePoint 19 = .ok (.iconst 2, 1) := by decide +kernel
theorem dL_removePoint_20 : decode cL_removePoint 20 = .ok (.ireturn, 1) := by decide +kernel
theorem dL_removePoint_21 : decode cL_removePoint 21 = .ok (.iconst 0, 1) := by decide +kernel
theorem dL_removePoint_22 : decode cL_removePoint 22 = .ok (.ireturn, 1) := by decide +kernel
theorem dL_shift_0 : decode cL_shift 0 = .ok (.aload 4, 2) := by decide +kernel
theorem dL_shift_2 : decode cL_shift 2 = .ok (.iconst 0, 1) := by decide +kernel
theorem dL_shift_3 : decode cL_shift 3 = .ok (.aload_n 0, 1) := by decide +kernel
theorem dL_shift_4 : decode cL_shift 4 = .ok (.iload_n 1, 1) := by decide +kernel
theorem dL_shift_5 : decode cL_shift 5 = .ok (.iload_n 2, 1) := by decide +kernel
theorem dL_shift_6 : decode cL_shift 6 = .ok (.iload_n 3, 1) := by decide +kernel
theorem dL_shift_7 : decode cL_shift 7 = .ok (.invokevirtual 144, 3) := by decide +kernel
theorem dL_shift_10 : decode cL_shift 10 = .ok (.i2l, 1) := by decide +kernel
theorem dL_shift_11 : decode cL_shift 11 = .ok (.lastore, 1) := by decide +kernel
theorem dL_shift_12 : decode cL_shift 12 = .ok (.goto 15, 3) := by decide +kernel
theorem dL_shift_15 : decode cL_shift 15 = .ok (.astore 5, 2) := by decide +kernel
theorem dL_shift_17 : decode cL_shift 17 = .ok (.iconst 1, 1) := by decide +kernel
theorem dL_shift_18 : decode cL_shift 18 = .ok (.ireturn, 1) := by decide +kernel
theorem dL_shift_19 : decode cL_shift 19 = .ok (.astore 5, 2) := by decide +kernel
theorem dL_shift_21 : decode cL_shift 21 = .ok (.iconst 2, 1) := by decide +kernel
theorem dL_shift_22 : decode cL_shift 22 = .ok (.ireturn, 1) := by decide +kernel
theorem dL_shift_23 : decode cL_shift 23 = .ok (.astore 5, 2) := by decide +kernel
theorem dL_shift_25 : decode cL_shift 25 = .ok (.iconst 3, 1) := by decide +kernel
theorem dL_shift_26 : decode cL_shift 26 = .ok (.ireturn, 1) := by decide +kernel
theorem dL_shift_27 : decode cL_shift 27 = .ok (.iconst 0, 1) := by decide +kernel
theorem dL_shift_28 : decode cL_shift 28 = .ok (.ireturn, 1) := by decide +kernel
theorem dL_reverse_0 : decode cL_reverse 0 = .ok (.aload_n 2, 1) := by decide +kernel
theorem dL_reverse_1 : decode cL_reverse 1 = .ok (.iconst 0, 1) := by decide +kernel
theorem dL_reverse_2 : decode cL_reverse 2 = .ok (.aload_n 0, 1) := by decide +kernel
theorem dL_reverse_3 : decode cL_reverse 3 = .ok (.iload_n 1, 1) := by decide +kernel
theorem dL_reverse_4 : decode cL_reverse 4 = .ok (.invokevirtual 147, 3) := by decide +kernel
theorem dL_reverse_7 : decode cL_reverse 7 = .ok (.i2l, 1) := by decide +kernel
theorem dL_reverse_8 : decode cL_reverse 8 = .ok (.lastore, 1) := by decide +kernel
theorem dL_reverse_9 : decode cL_reverse 9 = .ok (.goto 6, 3) := by decide +kernel
theorem dL_reverse_12 : decode cL_reverse 12 = .ok (.astore_n 3, 1) := by decide +kernel
theorem dL_reverse_13 : decode cL_reverse 13 = .ok (.iconst 1, 1) := by decide +kernel
theorem dL_reverse_14 : decode cL_reverse 14 = .ok (.ireturn, 1) := by decide +kernel
theorem dL_reverse_15 : decode cL_reverse 15 = .ok (.iconst 0, 1) := by decide +kernel
theorem dL_reverse_16 : decode cL_reverse 16 = .ok (.ireturn, 1) := by decide +kernel
theorem dL_runScript_0 : decode cL_runScript 0 = .ok (.aload_n 2, 1) := by decide +kernel
theorem dL_runScript_1 : decode cL_runScript 1 = .ok (.iconst 0, 1) := by decide +kernel
theorem dL_runScript_2 : decode cL_runScript 2 = .ok (.aload_n 0, 1) := by decide +kernel
theorem dL_runScript_3 : decode cL_runScript 3 = .ok (.iload_n 1, 1) := by decide +kernel
theorem dL_runScript_4 : decode cL_runScript 4 = .ok (.invokevirtual 150, 3) := by decide +kernel
theorem dL_runScript_7 : decode cL_runScript 7 = .ok (.i2l, 1) := by decide +kernel
theorem dL_runScript_8 : decode cL_runScript 8 = .ok (.lastore, 1) := by decide +kernel
theorem dL_runScript_9 : decode cL_runScript 9 = .ok (.goto 6, 3) := by decide +kernel
theorem dL_runScript_12 : decode cL_runScript 12 = .ok (.astore_n 3, 1) := by decide +kernel
theorem dL_runScript_13 : decode cL_runScript 13 = .ok (.iconst 1, 1) := by decide +kernel
theorem dL_runScript_14 : decode cL_runScript 14 = .ok (.ireturn, 1) := by decide +kernel
theorem dL_runScript_15 : decode cL_runScript 15 = .ok (.iconst 0, 1) := by decide +kernel
theorem dL_runScript_16 : decode cL_runScript 16 = .ok (.ireturn, 1) := by decide +kernel
theorem dL_writeLengths_0 : decode cL_writeLengths 0 = .ok (.aload_n 2, 1) := by decide +kernel
theorem dL_writeLengths_1 : decode cL_writeLengths 1 = .ok (.iconst 0, 1) := by decide +kernel
theorem dL_writeLengths_2 : decode cL_writeLengths 2 = .ok (.aload_n 0, 1) := by decide +kernel
theorem dL_writeLengths_3 : decode cL_writeLengths 3 = .ok (.iload_n 1, 1) := by decide +kernel
theorem dL_writeLengths_4 : decode cL_writeLengths 4 = .ok (.invokevirtual 153, 3) := by decide +kernel
theorem dL_writeLengths_7 : decode cL_writeLengths 7 = .ok (.i2l, 1) := by decide +kernel
theorem dL_writeLengths_8 : decode cL_writeLengths 8 = .ok (.lastore, 1) := by decide +kernel
theorem dL_writeLengths_9 : decode cL_writeLengths 9 = .ok (.goto 6, 3) := by decide +kernel
theorem dL_writeLengths_12 : decode cL_writeLengths 12 = .ok (.astore_n 3, 1) := by decide +kernel
theorem dL_writeLengths_13 : decode cL_writeLengths 13 = .ok (.iconst 1, 1) := by decide +kernel
theorem dL_writeLengths_14 : decode cL_writeLengths 14 = .ok (.ireturn, 1) := by decide +kernel
theorem dL_writeLengths_15 : decode cL_writeLengths 15 = .ok (.iconst 0, 1) := by decide +kernel
theorem dL_writeLengths_16 : decode cL_writeLengths 16 = .ok (.ireturn, 1) := by decide +kernel
theorem dL_outputByte_0 : decode cL_outputByte 0 = .ok (.aload_n 2, 1) := by decide +kernel
theorem dL_outputByte_1 : decode cL_outputByte 1 = .ok (.iconst 0, 1) := by decide +kernel
theorem dL_outputByte_2 : decode cL_outputByte 2 = .ok (.aload_n 0, 1) := by decide +kernel
theorem dL_outputByte_3 : decode cL_outputByte 3 = .ok (.iload_n 1, 1) := by decide +kernel
theorem dL_outputByte_4 : decode cL_outputByte 4 = .ok (.invokevirtual 156, 3) := by decide +kernel
theorem dL_outputByte_7 : decode cL_outputByte 7 = .ok (.i2l, 1) := by decide +kernel
theorem dL_outputByte_8 : decode cL_outputByte 8 = .ok (.lastore, 1) := by decide +kernel
theorem dL_outputByte_9 : decode cL_outputByte 9 = .ok (.goto 6, 3) := by decide +kernel
theorem dL_outputByte_12 : decode cL_outputByte 12 = .ok (.astore_n 3, 1) := by decide +kernel
theorem dL_outputByte_13 : decode cL_outputByte 13 = .ok (.iconst 1, 1) := by decide +kernel
theorem dL_outputByte_14 : decode cL_outputByte 14 = .ok (.ireturn, 1) := by decide +kernel
theorem dL_outputByte_15 : decode cL_outputByte 15 = .ok (.iconst 0, 1) := by decide +kernel
theorem dL_outputByte_16 : decode cL_outputByte 16 = .ok (.ireturn, 1) := by decide +kernel
theorem dL_undo_0 : decode cL_undo 0 = .ok (.aload_n 1, 1) := by decide +kernel
theorem dL_undo_1 : decode cL_undo 1 = .ok (.iconst 0, 1) := by decide +kernel
theorem dL_undo_2 : decode cL_undo 2 = .ok (.aload_n 0, 1) := by decide +kernel
theorem dL_undo_3 : decode cL_undo 3 = .ok (.invokevirtual 159, 3) := by decide +kernel
theorem dL_undo_6 : decode cL_undo 6 = .ok (.i2l, 1) := by decide +kernel
theorem dL_undo_7 : decode cL_undo 7 = .ok (.lastore, 1) := by decide +kernel
theorem dL_undo_8 : decode cL_undo 8 = .ok (.goto 6, 3) := by decide +kernel
theorem dL_undo_11 : decode cL_undo 11 = .ok (.astore_n 2, 1) := by decide +kernel
theorem dL_undo_12 : decode cL_undo 12 = .ok (.iconst 1, 1) := by decide +kernel
theorem dL_undo_13 : decode cL_undo 13 = .ok (.ireturn, 1) := by decide +kernel
theorem dL_undo_14 : decode cL_undo 14 = .ok (.iconst 0, 1) := by decide +kernel
theorem dL_undo_15 : decode cL_undo 15 = .ok (.ireturn, 1) := by decide +kernel
theorem dL_restoreSnapshot_0 : decode cL_restoreSnapshot 0 = .ok (.aload_n 1, 1) := by decide +kernel
theorem dL_restoreSnapshot_1 : decode cL_restoreSnapshot 1 = .ok (.iconst 0, 1) := by decide +kernel
theorem dL_restoreSnapshot_2 : decode cL_restoreSnapshot 2 = .ok (.aload_n 0, 1) := by decide +kernel
theorem dL_restoreSnapshot_3 : decode cL_restoreSnapshot 3 = .ok (.invokevirtual 163, 3) := by decide +kernel
theorem dL_restoreSnapshot_6 : decode cL_restoreSnapshot 6 = .ok (.i2l, 1) := by decide +kernel
theorem dL_restoreSnapshot_7 : decode cL_restoreSnapshot 7 = .ok (.lastore, 1) := by decide +kernel
theorem dL_restoreSnapshot_8 : decode cL_restoreSnapshot 8 = .ok (.goto 6, 3) := by decide +kernel
theorem dL_restoreSnapshot_11 : decode cL_restoreSnapshot 11 = .ok (.astore_n 2, 1) := by decide +kernel
theorem dL_restoreSnapshot_12 : decode cL_restoreSnapshot 12 = .ok (.iconst 1, 1) := by decide +kernel
theorem dL_restoreSnapshot_13 : decode cL_restoreSnapshot 13 = .ok (.ireturn, 1) := by decide +kernel
theorem dL_restoreSnapshot_14 : decode cL_restoreSnapshot 14 = .ok (.iconst 0, 1) := by decide +kernel
theorem dL_restoreSnapshot_15 : decode cL_restoreSnapshot 15 = .ok (.ireturn, 1) := by decide +kernel
theorem dL_law_0 : decode cL_law 0 = .ok (.new 8, 3) := by decide +kernel
theorem dL_law_3 : decode cL_law 3 = .ok (.dup, 1) := by decide +kernel
theorem dL_law_4 : decode cL_law 4 = .ok (.invokespecial 166, 3) := by decide +kernel
theorem dL_law_7 : decode cL_law 7 = .ok (.astore_n 1, 1) := by decide +kernel
theorem dL_law_8 : decode cL_law 8 = .ok (.new 167, 3) := by decide +kernel
theorem dL_law_11 : decode cL_law 11 = .ok (.dup, 1) := by decide +kernel
theorem dL_law_12 : decode cL_law 12 = .ok (.invokespecial 169, 3) := by decide +kernel
theorem dL_law_15 : decode cL_law 15 = .ok (.astore_n 2, 1) := by decide +kernel
theorem dL_law_16 : decode cL_law 16 = .ok (.iconst 1, 1) := by decide +kernel
theorem dL_law_17 : decode cL_law 17 = .ok (.newarray .long, 2) := by decide +kernel
theorem dL_law_19 : decode cL_law 19 = .ok (.astore_n 3, 1) := by decide +kernel
theorem dL_law_20 : decode cL_law 20 = .ok (.iconst 1, 1) := by decide +kernel
theorem dL_law_21 : decode cL_law 21 = .ok (.newarray .double, 2) := by decide +kernel
theorem dL_law_23 : decode cL_law 23 = .ok (.astore 4, 2) := by decide +kernel
theorem dL_law_25 : decode cL_law 25 = .ok (.iconst 0, 1) := by decide +kernel
theorem dL_law_26 : decode cL_law 26 = .ok (.istore 5, 2) := by decide +kernel
theorem dL_law_28 : decode cL_law 28 = .ok (.iload 5, 2) := by decide +kernel
theorem dL_law_30 : decode cL_law 30 = .ok (.aload_n 0, 1) := by decide +kernel
theorem dL_law_31 : decode cL_law 31 = .ok (.arraylength, 1) := by decide +kernel
theorem dL_law_32 : decode cL_law 32 = .ok (.bipush 6, 2) := by decide +kernel
theorem dL_law_34 : decode cL_law 34 = .ok (.isub, 1) := by decide +kernel
theorem dL_law_35 : decode cL_law 35 = .ok (.if_icmp .gt 3608, 3) := by decide +kernel
theorem dL_law_38 : decode cL_law 38 = .ok (.aload_n 0, 1) := by decide +kernel
theorem dL_law_39 : decode cL_law 39 = .ok (.iload 5, 2) := by decide +kernel
theorem dL_law_41 : decode cL_law 41 = .ok (.iaload, 1) := by decide +kernel
theorem dL_law_42 : decode cL_law 42 = .ok (.bipush 63, 2) := by decide +kernel
theorem dL_law_44 : decode cL_law 44 = .ok (.iand, 1) := by decide +kernel
theorem dL_law_45 : decode cL_law 45 = .ok (.tableswitch 3592 0 58 #[251, 324, 380, 393, 406, 419, 432, 495, 551, 619, 687, 767, 847, 915, 983, 1063, 1143, 1211, 1279, 1335, 1403, 1459, 1515, 1571, 1660, 1750, 1806, 1869, 1956, 2031, 2087, 2143, 2199, 2255, 2323, 2403, 2471, 2527, 2595, 2608, 2621, 2634, 2647, 2703, 2759, 2827, 2883, 2975, 3067, 3135, 3215, 3271, 3312, 3368, 3424, 3480, 3493, 3537, 3548], 251) := by decide +kernel
theorem dL_law_296 : decode cL_law 296 = .ok (.aload_n 1, 1) := by decide +kernel
theorem dL_law_297 : decode cL_law 297 = .ok (.aload_n 0, 1) := by decide +kernel
theorem dL_law_298 : decode cL_law 298 = .ok (.iload 5, 2) := by decide +kernel
theorem dL_law_300 : decode cL_law 300 = .ok (.iconst 1, 1) := by decide +kernel
theorem dL_law_301 : decode cL_law 301 = .ok (.iadd, 1) := by decide +kernel
theorem dL_law_302 : decode cL_law 302 = .ok (.iaload, 1) := by decide +kernel
theorem dL_law_303 : decode cL_law 303 = .ok (.aload_n 0, 1) := by decide +kernel
theorem dL_law_304 : decode cL_law 304 = .ok (.iload 5, 2) := by decide +kernel
theorem dL_law_306 : decode cL_law 306 = .ok (.iconst 2, 1) := by decide +kernel
theorem dL_law_307 : decode cL_law 307 = .ok (.iadd, 1) := by decide +kernel
theorem dL_law_308 : decode cL_law 308 = .ok (.iaload, 1) := by decide +kernel
theorem dL_law_309 : decode cL_law 309 = .ok (.aload_n 0, 1) := by decide +kernel
theorem dL_law_310 : decode cL_law 310 = .ok (.iload 5, 2) := by decide +kernel
theorem dL_law_312 : decode cL_law 312 = .ok (.iconst 3, 1) := by decide +kernel
theorem dL_law_313 : decode cL_law 313 = .ok (.iadd, 1) := by decide +kernel
theorem dL_law_314 : decode cL_law 314 = .ok (.iaload, 1) := by decide +kernel
theorem dL_law_315 : decode cL_law 315 = .ok (.aload_n 0, 1) := by decide +kernel
theorem dL_law_316 : decode cL_law 316 = .ok (.iload 5, 2) := by decide +kernel
theorem dL_law_318 : decode cL_law 318 = .ok (.iconst 4, 1) := by decide +kernel
theorem dL_law_319 : decode cL_law 319 = .ok (.iadd, 1) := by decide +kernel
theorem dL_law_320 : decode cL_law 320 = .ok (.iaload, 1) := by decide +kernel
theorem dL_law_321 : decode cL_law 321 = .ok (.aload_n 0, 1) := by decide +kernel
theorem dL_law_322 : decode cL_law 322 = .ok (.iload 5, 2) := by decide +kernel
theorem dL_law_324 : decode cL_law 324 = .ok (.iconst 5, 1) := by decide +kernel
theorem dL_law_325 : decode cL_law 325 = .ok (.iadd, 1) := by decide +kernel
theorem dL_law_326 : decode cL_law 326 = .ok (.iaload, 1) := by decide +kernel
theorem dL_law_327 : decode cL_law 327 = .ok (.invokevirtual 170, 3) := by decide +kernel
theorem dL_law_330 : decode cL_law 330 = .ok (.aload_n 2, 1) := by decide +kernel
theorem dL_law_331 : decode cL_law 331 = .ok (.aload_n 0, 1) := by decide +kernel
theorem dL_law_332 : decode cL_law 332 = .ok (.iload 5, 2) := by decide +kernel
theorem dL_law_334 : decode cL_law 334 = .ok (.iconst 1, 1) := by decide +kernel
theorem dL_law_335 : decode cL_law 335 = .ok (.iadd, 1) := by decide +kernel
theorem dL_law_336 : decode cL_law 336 = .ok (.iaload, 1) := by decide +kernel
theorem dL_law_337 : decode cL_law 337 = .ok (.aload_n 0, 1) := by decide +kernel
theorem dL_law_338 : decode cL_law 338 = .ok (.iload 5, 2) := by decide +kernel
theorem dL_law_340 : decode cL_law 340 = .ok (.iconst 2, 1) := by decide +kernel
theorem dL_law_341 : decode cL_law 341 = .ok (.iadd, 1) := by decide +kernel
theorem dL_law_342 : decode cL_law 342 = .ok (.iaload, 1) := by decide +kernel
theorem dL_law_343 : decode cL_law 343 = .ok (.aload_n 0, 1) := by decide +kernel
theorem dL_law_344 : decode cL_law 344 = .ok (.iload 5, 2) := by decide +kernel
theorem dL_law_346 : decode cL_law 346 = .ok (.iconst 3, 1) := by decide +kernel
theorem dL_law_347 : decode cL_law 347 = .ok (.iadd, 1) := by decide +kernel
theorem dL_law_348 : decode cL_law 348 = .ok (.iaload, 1) := by decide +kernel
theorem dL_law_349 : decode cL_law 349 = .ok (.aload_n 0, 1) := by decide +kernel
theorem dL_law_350 : decode cL_law 350 = .ok (.iload 5, 2) := by decide +kernel
theorem dL_law_352 : decode cL_law 352 = .ok (.iconst 4, 1) := by decide +kernel
theorem dL_law_353 : decode cL_law 353 = .ok (.iadd, 1) := by decide +kernel
theorem dL_law_354 : decode cL_law 354 = .ok (.iaload, 1) := by decide +kernel
theorem dL_law_355 : decode cL_law 355 = .ok (.aload_n 0, 1) := by decide +kernel
theorem dL_law_356 : decode cL_law 356 = .ok (.iload 5, 2) := by decide +kernel
theorem dL_law_358 : decode cL_law 358 = .ok (.iconst 5, 1) := by decide +kernel
theorem dL_law_359 : decode cL_law 359 = .ok (.iadd, 1) := by decide +kernel
theorem dL_law_360 : decode cL_law 360 = .ok (.iaload, 1) := by decide +kernel
theorem dL_law_361 : decode cL_law 361 = .ok (.invokevirtual 174, 3) := by decide +kernel
theorem dL_law_364 : decode cL_law 364 = .ok (.if_icmp .eq 3273, 3) := by decide +kernel
theorem dL_law_367 : decode cL_law 367 = .ok (.iconst 0, 1) := by decide +kernel
theorem dL_law_368 : decode cL_law 368 = .ok (.ireturn, 1) := by decide +kernel
theorem dL_law_369 : decode cL_law 369 = .ok (.aload_n 1, 1) := by decide +kernel
theorem dL_law_370 : decode cL_law 370 = .ok (.aload_n 0, 1) := by decide +kernel
theorem dL_law_371 : decode cL_law 371 = .ok (.iload 5, 2) := by decide +kernel
theorem dL_law_373 : decode cL_law 373 = .ok (.iconst 1, 1) := by decide +kernel
theorem dL_law_374 : decode cL_law 374 = .ok (.iadd, 1) := by decide +kernel
theorem dL_law_375 : decode cL_law 375 = .ok (.iaload, 1) := by decide +kernel
theorem dL_law_376 : decode cL_law 376 = .ok (.aload_n 3, 1) := by decide +kernel
theorem dL_law_377 : decode cL_law 377 = .ok (.invokestatic 175, 3) := by decide +kernel
theorem dL_law_380 : decode cL_law 380 = .ok (.istore 6, 2) := by decide +kernel
theorem dL_law_382 : decode cL_law 382 = .ok (.aload_n 2, 1) := by decide +kernel
theorem dL_law_383 : decode cL_law 383 = .ok (.aload_n 0, 1) := by decide +kernel
theorem dL_law_384 : decode cL_law 384 = .ok (.iload 5, 2) := by decide +kernel
theorem dL_law_386 : decode cL_law 386 = .ok (.iconst 1, 1) := by decide +kernel
theorem dL_law_387 : decode cL_law 387 = .ok (.iadd, 1) := by decide +kernel
theorem dL_law_388 : decode cL_law 388 = .ok (.iaload, 1) := by decide +kernel
theorem dL_law_389 : decode cL_law 389 = .ok (.invokevirtual 180, 3) := by decide +kernel
theorem dL_law_392 : decode cL_law 392 = .ok (.istore 7, 2) := by decide +kernel
theorem dL_law_394 : decode cL_law 394 = .ok (.aload_n 2, 1) := by decide +kernel
theorem dL_law_395 : decode cL_law 395 = .ok (.invokevirtual 181, 3) := by decide +kernel
theorem dL_law_398 : decode cL_law 398 = .ok (.iload 6, 2) := by decide +kernel
theorem dL_law_400 : decode cL_law 400 = .ok (.if_icmp .eq 5, 3) := by decide +kernel
theorem dL_law_403 : decode cL_law 403 = .ok (.iconst 0, 1) := by decide +kernel
theorem dL_law_404 : decode cL_law 404 = .ok (.ireturn, 1) := by decide +kernel
theorem dL_law_405 : decode cL_law 405 = .ok (.iload 6, 2) := by decide +kernel
theorem dL_law_407 : decode cL_law 407 = .ok (.ifCond .ne 15, 3) := by decide +kernel
theorem dL_law_410 : decode cL_law 410 = .ok (.aload_n 3, 1) := by decide +kernel
theorem dL_law_411 : decode cL_law 411 = .ok (.iconst 0, 1) := by decide +kernel
theorem dL_law_412 : decode cL_law 412 = .ok (.laload, 1) := by decide +kernel
theorem dL_law_413 : decode cL_law 413 = .ok (.iload 7, 2) := by decide +kernel
theorem dL_law_415 : decode cL_law 415 = .ok (.i2l, 1) := by decide +kernel
theorem dL_law_416 : decode cL_law 416 = .ok (.lcmp, 1) := by decide +kernel
theorem dL_law_417 : decode cL_law 417 = .ok (.ifCond .eq 5, 3) := by decide +kernel
theorem dL_law_420 : decode cL_law 420 = .ok (.iconst 0, 1) := by decide +kernel
theorem dL_law_421 : decode cL_law 421 = .ok (.ireturn, 1) := by decide +kernel
theorem dL_law_422 : decode cL_law 422 = .ok (.goto 3215, 3) := by decide +kernel
theorem dL_law_425 : decode cL_law 425 = .ok (.aload_n 1, 1) := by decide +kernel
theorem dL_law_426 : decode cL_law 426 = .ok (.invokevirtual 184, 3) := by decide +kernel
theorem dL_law_429 : decode cL_law 429 = .ok (.aload_n 2, 1) := by decide +kernel
theorem dL_law_430 : decode cL_law 430 = .ok (.invokevirtual 187, 3) := by decide +kernel
theorem dL_law_433 : decode cL_law 433 = .ok (.if_icmp .eq 3204, 3) := by decide +kernel
theorem dL_law_436 : decode cL_law 436 = .ok (.iconst 0, 1) := by decide +kernel
theorem dL_law_437 : decode cL_law 437 = .ok (.ireturn, 1) := by decide +kernel
theorem dL_law_438 : decode cL_law 438 = .ok (.aload_n 1, 1) := by decide +kernel
theorem dL_law_439 : decode cL_law 439 = .ok (.invokevirtual 188, 3) := by decide +kernel
theorem dL_law_442 : decode cL_law 442 = .ok (.aload_n 2, 1) := by decide +kernel
theorem dL_law_443 : decode cL_law 443 = .ok (.invokevirtual 191, 3) := by decide +kernel
theorem dL_law_446 : decode cL_law 446 = .ok (.if_icmp .eq 3191, 3) := by decide +kernel
theorem dL_law_449 : decode cL_law 449 = .ok (.iconst 0, 1) := by decide +kernel
theorem dL_law_450 : decode cL_law 450 = .ok (.ireturn, 1) := by decide +kernel
theorem dL_law_451 : decode cL_law 451 = .ok (.aload_n 1, 1) := by decide +kernel
theorem dL_law_452 : decode cL_law 452 = .ok (.invokevirtual 192, 3) := by decide +kernel
theorem dL_law_455 : decode cL_law 455 = .ok (.aload_n 2, 1) := by decide +kernel
theorem dL_law_456 : decode cL_law 456 = .ok (.invokevirtual 195, 3) := by decide +kernel
theorem dL_law_459 : decode cL_law 459 = .ok (.if_icmp .eq 3178, 3) := by decide +kernel
theorem dL_law_462 : decode cL_law 462 = .ok (.iconst 0, 1) := by decide +kernel
theorem dL_law_463 : decode cL_law 463 = .ok (.ireturn, 1) := by decide +kernel
theorem dL_law_464 : decode cL_law 464 = .ok (.aload_n 1, 1) := by decide +kernel
theorem dL_law_465 : decode cL_law 465 = .ok (.invokevirtual 196, 3) := by decide +kernel
theorem dL_law_468 : decode cL_law 468 = .ok (.aload_n 2, 1) := by decide +kernel
theorem dL_law_469 : decode cL_law 469 = .ok (.invokevirtual 200, 3) := by decide +kernel
theorem dL_law_472 : decode cL_law 472 = .ok (.if_icmp .eq 3165, 3) := by decide +kernel
theorem dL_law_475 : decode cL_law 475 = .ok (.iconst 0, 1) := by decide +kernel
theorem dL_law_476 : decode cL_law 476 = .ok (.ireturn, 1) := by decide +kernel
theorem dL_law_477 : decode cL_law 477 = .ok (.aload_n 1, 1) := by decide +kernel
theorem dL_law_478 : decode cL_law 478 = .ok (.aload_n 0, 1) := by decide +kernel
theorem dL_law_479 : decode cL_law 479 = .ok (.iload 5, 2) := by decide +kernel
theorem dL_law_481 : decode cL_law 481 = .ok (.iconst 1, 1) := by decide +kernel
theorem dL_law_482 : decode cL_law 482 = .ok (.iadd, 1) := by decide +kernel
theorem dL_law_483 : decode cL_law 483 = .ok (.iaload, 1) := by decide +kernel
theorem dL_law_484 : decode cL_law 484 = .ok (.aload_n 3, 1) := by decide +kernel
theorem dL_law_485 : decode cL_law 485 = .ok (.invokestatic 201, 3) := by decide +kernel
theorem dL_law_488 : decode cL_law 488 = .ok (.istore 6, 2) := by decide +kernel
theorem dL_law_490 : decode cL_law 490 = .ok (.aload_n 2, 1) := by decide +kernel
theorem dL_law_491 : decode cL_law 491 = .ok (.aload_n 0, 1) := by decide +kernel
theorem dL_law_492 : decode cL_law 492 = .ok (.iload 5, 2) := by decide +kernel
theorem dL_law_494 : decode cL_law 494 = .ok (.iconst 1, 1) := by decide +kernel
theorem dL_law_495 : decode cL_law 495 = .ok (.iadd, 1) := by decide +kernel
theorem dL_law_496 : decode cL_law 496 = .ok (.iaload, 1) := by decide +kernel
theorem dL_law_497 : decode cL_law 497 = .ok (.invokevirtual 203, 3) := by decide +kernel
theorem dL_law_500 : decode cL_law 500 = .ok (.istore 7, 2) := by decide +kernel
theorem dL_law_502 : decode cL_law 502 = .ok (.aload_n 2, 1) := by decide +kernel
theorem dL_law_503 : decode cL_law 503 = .ok (.invokevirtual 181, 3) := by decide +kernel
theorem dL_law_506 : decode cL_law 506 = .ok (.iload 6, 2) := by decide +kernel
theorem dL_law_508 : decode cL_law 508 = .ok (.if_icmp .eq 5, 3) := by decide +kernel
theorem dL_law_511 : decode cL_law 511 = .ok (.iconst 0, 1) := by decide +kernel
theorem dL_law_512 : decode cL_law 512 = .ok (.ireturn, 1) := by decide +kernel
theorem dL_law_513 : decode cL_law 513 = .ok (.iload 6, 2) := by decide +kernel
theorem dL_law_515 : decode cL_law 515 = .ok (.ifCond .ne 22, 3) := by decide +kernel
theorem dL_law_518 : decode cL_law 518 = .ok (.aload_n 3, 1) := by decide +kernel
theorem dL_law_519 : decode cL_law 519 = .ok (.iconst 0, 1) := by decide +kernel
theorem dL_law_520 : decode cL_law 520 = .ok (.laload, 1) := by decide +kernel
theorem dL_law_521 : decode cL_law 521 = .ok (.iload 7, 2) := by decide +kernel
theorem dL_law_523 : decode cL_law 523 = .ok (.ifCond .eq 7, 3) := by decide +kernel
theorem dL_law_526 : decode cL_law 526 = .ok (.lconst 1, 1) := by decide +kernel
theorem dL_law_527 : decode cL_law 527 = .ok (.goto 4, 3) := by decide +kernel
theorem dL_law_530 : decode cL_law 530 = .ok (.lconst 0, 1) := by decide +kernel
theorem dL_law_531 : decode cL_law 531 = .ok (.lcmp, 1) := by decide +kernel
theorem dL_law_532 : decode cL_law 532 = .ok (.ifCond .eq 5, 3) := by decide +kernel
theorem dL_law_535 : decode cL_law 535 = .ok (.iconst 0, 1) := by decide +kernel
theorem dL_law_536 : decode cL_law 536 = .ok (.ireturn, 1) := by decide +kernel
theorem dL_law_537 : decode cL_law 537 = .ok (.goto 3100, 3) := by decide +kernel
theorem dL_law_540 : decode cL_law 540 = .ok (.aload_n 1, 1) := by decide +kernel
theorem dL_law_541 : decode cL_law 541 = .ok (.aload_n 0, 1) := by decide +kernel
theorem dL_law_542 : decode cL_law 542 = .ok (.iload 5, 2) := by decide +kernel
theorem dL_law_544 : decode cL_law 544 = .ok (.iconst 1, 1) := by decide +kernel
theorem dL_law_545 : decode cL_law 545 = .ok (.iadd, 1) := by decide +kernel
theorem dL_law_546 : decode cL_law 546 = .ok (.iaload, 1) := by decide +kernel
theorem dL_law_547 : decode cL_law 547 = .ok (.aload_n 3, 1) := by decide +kernel
theorem dL_law_548 : decode cL_law 548 = .ok (.invokestatic 204, 3) := by decide +kernel
theorem dL_law_551 : decode cL_law 551 = .ok (.istore 6, 2) := by decide +kernel
theorem dL_law_553 : decode cL_law 553 = .ok (.aload_n 2, 1) := by decide +kernel
theorem dL_law_554 : decode cL_law 554 = .ok (.aload_n 0, 1) := by decide +kernel
theorem dL_law_555 : decode cL_law 555 = .ok (.iload 5, 2) := by decide +kernel
theorem dL_law_557 : decode cL_law 557 = .ok (.iconst 1, 1) := by decide +kernel
theorem dL_law_558 : decode cL_law 558 = .ok (.iadd, 1) := by decide +kernel
theorem dL_law_559 : decode cL_law 559 = .ok (.iaload, 1) := by decide +kernel
theorem dL_law_560 : decode cL_law 560 = .ok (.invokevirtual 206, 3) := by decide +kernel
theorem dL_law_563 : decode cL_law 563 = .ok (.istore 7, 2) := by decide +kernel
theorem dL_law_565 : decode cL_law 565 = .ok (.aload_n 2, 1) := by decide +kernel
theorem dL_law_566 : decode cL_law 566 = .ok (.invokevirtual 181, 3) := by decide +kernel
theorem dL_law_569 : decode cL_law 569 = .ok (.iload 6, 2) := by decide +kernel
theorem dL_law_571 : decode cL_law 571 = .ok (.if_icmp .eq 5, 3) := by decide +kernel
theorem dL_law_574 : decode cL_law 574 = .ok (.iconst 0, 1) := by decide +kernel
theorem dL_law_575 : decode cL_law 575 = .ok (.ireturn, 1) := by decide +kernel
theorem dL_law_576 : decode cL_law 576 = .ok (.iload 6, 2) := by decide +kernel
theorem dL_law_578 : decode cL_law 578 = .ok (.ifCond .ne 15, 3) := by decide +kernel
theorem dL_law_581 : decode cL_law 581 = .ok (.aload_n 3, 1) := by decide +kernel
theorem dL_law_582 : decode cL_law 582 = .ok (.iconst 0, 1) := by decide +kernel
theorem dL_law_583 : decode cL_law 583 = .ok (.laload, 1) := by decide +kernel
theorem dL_law_584 : decode cL_law 584 = .ok (.iload 7, 2) := by decide +kernel
theorem dL_law_586 : decode cL_law 586 = .ok (.i2l, 1) := by decide +kernel
theorem dL_law_587 : decode cL_law 587 = .ok (.lcmp, 1) := by decide +kernel
theorem dL_law_588 : decode cL_law 588 = .ok (.ifCond .eq 5, 3) := by decide +kernel
theorem dL_law_591 : decode cL_law 591 = .ok (.iconst 0, 1) := by decide +kernel
theorem dL_law_592 : decode cL_law 592 = .ok (.ireturn, 1) := by decide +kernel
theorem dL_law_593 : decode cL_law 593 = .ok (.goto 3044, 3) := by decide +kernel
theorem dL_law_596 : decode cL_law 596 = .ok (.aload_n 1, 1) := by decide +kernel
theorem dL_law_597 : decode cL_law 597 = .ok (.aload_n 0, 1) := by decide +kernel
theorem dL_law_598 : decode cL_law 598 = .ok (.iload 5, 2) := by decide +kernel
theorem dL_law_600 : decode cL_law 600 = .ok (.iconst 1, 1) := by decide +kernel
theorem dL_law_601 : decode cL_law 601 = .ok (.iadd, 1) := by decide +kernel
theorem dL_law_602 : decode cL_law 602 = .ok (.iaload, 1) := by decide +kernel
theorem dL_law_603 : decode cL_law 603 = .ok (.aload_n 0, 1) := by decide +kernel
theorem dL_law_604 : decode cL_law 604 = .ok (.iload 5, 2) := by decide +kernel
theorem dL_law_606 : decode cL_law 606 = .ok (.iconst 2, 1) := by decide +kernel
theorem dL_law_607 : decode cL_law 607 = .ok (.iadd, 1) := by decide +kernel
theorem dL_law_608 : decode cL_law 608 = .ok (.iaload, 1) := by decide +kernel
theorem dL_law_609 : decode cL_law 609 = .ok (.aload_n 3, 1) := by decide +kernel
theorem dL_law_610 : decode cL_law 610 = .ok (.invokestatic 207, 3) := by decide +kernel
theorem dL_law_613 : decode cL_law 613 = .ok (.istore 6, 2) := by decide +kernel
theorem dL_law_615 : decode cL_law 615 = .ok (.aload_n 2, 1) := by decide +kernel
theorem dL_law_616 : decode cL_law 616 = .ok (.aload_n 0, 1) := by decide +kernel
theorem dL_law_617 : decode cL_law 617 = .ok (.iload 5, 2) := by decide +kernel
theorem dL_law_619 : decode cL_law 619 = .ok (.iconst 1, 1) := by decide +kernel
theorem dL_law_620 : decode cL_law 620 = .ok (.iadd, 1) := by decide +kernel
theorem dL_law_621 : decode cL_law 621 = .ok (.iaload, 1) := by decide +kernel
theorem dL_law_622 : decode cL_law 622 = .ok (.aload_n 0, 1) := by decide +kernel
theorem dL_law_623 : decode cL_law 623 = .ok (.iload 5, 2) := by decide +kernel
theorem dL_law_625 : decode cL_law 625 = .ok (.iconst 2, 1) := by decide +kernel
theorem dL_law_626 : decode cL_law 626 = .ok (.iadd, 1) := by decide +kernel
theorem dL_law_627 : decode cL_law 627 = .ok (.iaload, 1) := by decide +kernel
theorem dL_law_628 : decode cL_law 628 = .ok (.invokevirtual 210, 3) := by decide +kernel
theorem dL_law_631 : decode cL_law 631 = .ok (.istore 7, 2) := by decide +kernel
theorem dL_law_633 : decode cL_law 633 = .ok (.aload_n 2, 1) := by decide +kernel
theorem dL_law_634 : decode cL_law 634 = .ok (.invokevirtual 181, 3) := by decide +kernel
theorem dL_law_637 : decode cL_law 637 = .ok (.iload 6, 2) := by decide +kernel
theorem dL_law_639 : decode cL_law 639 = .ok (.if_icmp .eq 5, 3) := by decide +kernel
theorem dL_law_642 : decode cL_law 642 = .ok (.iconst 0, 1) := by decide +kernel
theorem dL_law_643 : decode cL_law 643 = .ok (.ireturn, 1) := by decide +kernel
theorem dL_law_644 : decode cL_law 644 = .ok (.iload 6, 2) := by decide +kernel
theorem dL_law_646 : decode cL_law 646 = .ok (.ifCond .ne 15, 3) := by decide +kernel
theorem dL_law_649 : decode cL_law 649 = .ok (.aload_n 3, 1) := by decide +kernel
theorem dL_law_650 : decode cL_law 650 = .ok (.iconst 0, 1) := by decide +kernel
theorem dL_law_651 : decode cL_law 651 = .ok (.laload, 1) := by decide +kernel
theorem dL_law_652 : decode cL_law 652 = .ok (.iload 7, 2) := by decide +kernel
theorem dL_law_654 : decode cL_law 654 = .ok (.i2l, 1) := by decide +kernel
theorem dL_law_655 : decode cL_law 655 = .ok (.lcmp, 1) := by decide +kernel
theorem dL_law_656 : decode cL_law 656 = .ok (.ifCond .eq 5, 3) := by decide +kernel
theorem dL_law_659 : decode cL_law 659 = .ok (.iconst 0, 1) := by decide +kernel
theorem dL_law_660 : decode cL_law 660 = .ok (.ireturn, 1) := by decide +kernel
theorem dL_law_661 : decode cL_law 661 = .ok (.goto 2976, 3) := by decide +kernel
theorem dL_law_664 : decode cL_law 664 = .ok (.aload_n 1, 1) := by decide +kernel
theorem dL_law_665 : decode cL_law 665 = .ok (.aload_n 0, 1) := by decide +kernel
theorem dL_law_666 : decode cL_law 666 = .ok (.iload 5, 2) := by decide +kernel
theorem dL_law_668 : decode cL_law 668 = .ok (.iconst 1, 1) := by decide +kernel
theorem dL_law_669 : decode cL_law 669 = .ok (.iadd, 1) := by decide +kernel
theorem dL_law_670 : decode cL_law 670 = .ok (.iaload, 1) := by decide +kernel
theorem dL_law_671 : decode cL_law 671 = .ok (.aload_n 0, 1) := by decide +kernel
theorem dL_law_672 : decode cL_law 672 = .ok (.iload 5, 2) := by decide +kernel
theorem dL_law_674 : decode cL_law 674 = .ok (.iconst 2, 1) := by decide +kernel
theorem dL_law_675 : decode cL_law 675 = .ok (.iadd, 1) := by decide +kernel
theorem dL_law_676 : decode cL_law 676 = .ok (.iaload, 1) := by decide +kernel
theorem dL_law_677 : decode cL_law 677 = .ok (.aload_n 3, 1) := by decide +kernel
theorem dL_law_678 : decode cL_law 678 = .ok (.invokestatic 211, 3) := by decide +kernel
theorem dL_law_681 : decode cL_law 681 = .ok (.istore 6, 2) := by decide +kernel
theorem dL_law_683 : decode cL_law 683 = .ok (.aload_n 2, 1) := by decide +kernel
theorem dL_law_684 : decode cL_law 684 = .ok (.aload_n 0, 1) := by decide +kernel
theorem dL_law_685 : decode cL_law 685 = .ok (.iload 5, 2) := by decide +kernel
theorem dL_law_687 : decode cL_law 687 = .ok (.iconst 1, 1) := by decide +kernel
theorem dL_law_688 : decode cL_law 688 = .ok (.iadd, 1) := by decide +kernel
theorem dL_law_689 : decode cL_law 689 = .ok (.iaload, 1) := by decide +kernel
theorem dL_law_690 : decode cL_law 690 = .ok (.aload_n 0, 1) := by decide +kernel
theorem dL_law_691 : decode cL_law 691 = .ok (.iload 5, 2) := by decide +kernel
theorem dL_law_693 : decode cL_law 693 = .ok (.iconst 2, 1) := by decide +kernel
theorem dL_law_694 : decode cL_law 694 = .ok (.iadd, 1) := by decide +kernel
theorem dL_law_695 : decode cL_law 695 = .ok (.iaload, 1) := by decide +kernel
theorem dL_law_696 : decode cL_law 696 = .ok (.invokevirtual 213, 3) := by decide +kernel
theorem dL_law_699 : decode cL_law 699 = .ok (.istore 7, 2) := by decide +kernel
theorem dL_law_701 : decode cL_law 701 = .ok (.aload_n 2, 1) := by decide +kernel
theorem dL_law_702 : decode cL_law 702 = .ok (.invokevirtual 181, 3) := by decide +kernel
theorem dL_law_705 : decode cL_law 705 = .ok (.iload 6, 2) := by decide +kernel
theorem dL_law_707 : decode cL_law 707 = .ok (.if_icmp .eq 5, 3) := by decide +kernel
theorem dL_law_710 : decode cL_law 710 = .ok (.iconst 0, 1) := by decide +kernel
theorem dL_law_711 : decode cL_law 711 = .ok (.ireturn, 1) := by decide +kernel
theorem dL_law_712 : decode cL_law 712 = .ok (.iload 6, 2) := by decide +kernel
theorem dL_law_714 : decode cL_law 714 = .ok (.ifCond .ne 15, 3) := by decide +kernel
theorem dL_law_717 : decode cL_law 717 = .ok (.aload_n 3, 1) := by decide +kernel
theorem dL_law_718 : decode cL_law 718 = .ok (.iconst 0, 1) := by decide +kernel
theorem dL_law_719 : decode cL_law 719 = .ok (.laload, 1) := by decide +kernel
theorem dL_law_720 : decode cL_law 720 = .ok (.iload 7, 2) := by decide +kernel
theorem dL_law_722 : decode cL_law 722 = .ok (.i2l, 1) := by decide +kernel
theorem dL_law_723 : decode cL_law 723 = .ok (.lcmp, 1) := by decide +kernel
theorem dL_law_724 : decode cL_law 724 = .ok (.ifCond .eq 5, 3) := by decide +kernel
theorem dL_law_727 : decode cL_law 727 = .ok (.iconst 0, 1) := by decide +kernel
theorem dL_law_728 : decode cL_law 728 = .ok (.ireturn, 1) := by decide +kernel
theorem dL_law_729 : decode cL_law 729 = .ok (.goto 2908, 3) := by decide +kernel
theorem dL_law_732 : decode cL_law 732 = .ok (.aload_n 1, 1) := by decide +kernel
theorem dL_law_733 : decode cL_law 733 = .ok (.aload_n 0, 1) := by decide +kernel
theorem dL_law_734 : decode cL_law 734 = .ok (.iload 5, 2) := by decide +kernel
theorem dL_law_736 : decode cL_law 736 = .ok (.iconst 1, 1) := by decide +kernel
theorem dL_law_737 : decode cL_law 737 = .ok (.iadd, 1) := by decide +kernel
theorem dL_law_738 : decode cL_law 738 = .ok (.iaload, 1) := by decide +kernel
theorem dL_law_739 : decode cL_law 739 = .ok (.aload_n 0, 1) := by decide +kernel
theorem dL_law_740 : decode cL_law 740 = .ok (.iload 5, 2) := by decide +kernel
theorem dL_law_742 : decode cL_law 742 = .ok (.iconst 2, 1) := by decide +kernel
theorem dL_law_743 : decode cL_law 743 = .ok (.iadd, 1) := by decide +kernel
theorem dL_law_744 : decode cL_law 744 = .ok (.iaload, 1) := by decide +kernel
theorem dL_law_745 : decode cL_law 745 = .ok (.aload_n 0, 1) := by decide +kernel
theorem dL_law_746 : decode cL_law 746 = .ok (.iload 5, 2) := by decide +kernel
theorem dL_law_748 : decode cL_law 748 = .ok (.iconst 3, 1) := by decide +kernel
theorem dL_law_749 : decode cL_law 749 = .ok (.iadd, 1) := by decide +kernel
theorem dL_law_750 : decode cL_law 750 = .ok (.iaload, 1) := by decide +kernel
theorem dL_law_751 : decode cL_law 751 = .ok (.aload_n 3, 1) := by decide +kernel
theorem dL_law_752 : decode cL_law 752 = .ok (.invokestatic 214, 3) := by decide +kernel
theorem dL_law_755 : decode cL_law 755 = .ok (.istore 6, 2) := by decide +kernel
theorem dL_law_757 : decode cL_law 757 = .ok (.aload_n 2, 1) := by decide +kernel
theorem dL_law_758 : decode cL_law 758 = .ok (.aload_n 0, 1) := by decide +kernel
theorem dL_law_759 : decode cL_law 759 = .ok (.iload 5, 2) := by decide +kernel
theorem dL_law_761 : decode cL_law 761 = .ok (.iconst 1, 1) := by decide +kernel
theorem dL_law_762 : decode cL_law 762 = .ok (.iadd, 1) := by decide +kernel
theorem dL_law_763 : decode cL_law 763 = .ok (.iaload, 1) := by decide +kernel
theorem dL_law_764 : decode cL_law 764 = .ok (.aload_n 0, 1) := by decide +kernel
theorem dL_law_765 : decode cL_law 765 = .ok (.iload 5, 2) := by decide +kernel
theorem dL_law_767 : decode cL_law 767 = .ok (.iconst 2, 1) := by decide +kernel
theorem dL_law_768 : decode cL_law 768 = .ok (.iadd, 1) := by decide +kernel
theorem dL_law_769 : decode cL_law 769 = .ok (.iaload, 1) := by decide +kernel
theorem dL_law_770 : decode cL_law 770 = .ok (.aload_n 0, 1) := by decide +kernel
theorem dL_law_771 : decode cL_law 771 = .ok (.iload 5, 2) := by decide +kernel
theorem dL_law_773 : decode cL_law 773 = .ok (.iconst 3, 1) := by decide +kernel
theorem dL_law_774 : decode cL_law 774 = .ok (.iadd, 1) := by decide +kernel
theorem dL_law_775 : decode cL_law 775 = .ok (.iaload, 1) := by decide +kernel
theorem dL_law_776 : decode cL_law 776 = .ok (.invokevirtual 217, 3) := by decide +kernel
theorem dL_law_779 : decode cL_law 779 = .ok (.istore 7, 2) := by decide +kernel
theorem dL_law_781 : decode cL_law 781 = .ok (.aload_n 2, 1) := by decide +kernel
theorem dL_law_782 : decode cL_law 782 = .ok (.invokevirtual 181, 3) := by decide +kernel
theorem dL_law_785 : decode cL_law 785 = .ok (.iload 6, 2) := by decide +kernel
theorem dL_law_787 : decode cL_law 787 = .ok (.if_icmp .eq 5, 3) := by decide +kernel
theorem dL_law_790 : decode cL_law 790 = .ok (.iconst 0, 1) := by decide +kernel
theorem dL_law_791 : decode cL_law 791 = .ok (.ireturn, 1) := by decide +kernel
theorem dL_law_792 : decode cL_law 792 = .ok (.iload 6, 2) := by decide +kernel
theorem dL_law_794 : decode cL_law 794 = .ok (.ifCond .ne 15, 3) := by decide +kernel
theorem dL_law_797 : decode cL_law 797 = .ok (.aload_n 3, 1) := by decide +kernel
theorem dL_law_798 : decode cL_law 798 = .ok (.iconst 0, 1) := by decide +kernel
theorem dL_law_799 : decode cL_law 799 = .ok (.laload, 1) := by decide +kernel
theorem dL_law_800 : decode cL_law 800 = .ok (.iload 7, 2) := by decide +kernel
theorem dL_law_802 : decode cL_law 802 = .ok (.i2l, 1) := by decide +kernel
theorem dL_law_803 : decode cL_law 803 = .ok (.lcmp, 1) := by decide +kernel
theorem dL_law_804 : decode cL_law 804 = .ok (.ifCond .eq 5, 3) := by decide +kernel
theorem dL_law_807 : decode cL_law 807 = .ok (.iconst 0, 1) := by decide +kernel
theorem dL_law_808 : decode cL_law 808 = .ok (.ireturn, 1) := by decide +kernel
theorem dL_law_809 : decode cL_law 809 = .ok (.goto 2828, 3) := by decide +kernel
theorem dL_law_812 : decode cL_law 812 = .ok (.aload_n 1, 1) := by decide +kernel
theorem dL_law_813 : decode cL_law 813 = .ok (.aload_n 0, 1) := by decide +kernel
theorem dL_law_814 : decode cL_law 814 = .ok (.iload 5, 2) := by decide +kernel
theorem dL_law_816 : decode cL_law 816 = .ok (.iconst 1, 1) := by decide +kernel
theorem dL_law_817 : decode cL_law 817 = .ok (.iadd, 1) := by decide +kernel
theorem dL_law_818 : decode cL_law 818 = .ok (.iaload, 1) := by decide +kernel
theorem dL_law_819 : decode cL_law 819 = .ok (.aload_n 0, 1) := by decide +kernel
theorem dL_law_820 : decode cL_law 820 = .ok (.iload 5, 2) := by decide +kernel
theorem dL_law_822 : decode cL_law 822 = .ok (.iconst 2, 1) := by decide +kernel
theorem dL_law_823 : decode cL_law 823 = .ok (.iadd, 1) := by decide +kernel
theorem dL_law_824 : decode cL_law 824 = .ok (.iaload, 1) := by decide +kernel
theorem dL_law_825 : decode cL_law 825 = .ok (.aload_n 0, 1) := by decide +kernel
theorem dL_law_826 : decode cL_law 826 = .ok (.iload 5, 2) := by decide +kernel
theorem dL_law_828 : decode cL_law 828 = .ok (.iconst 3, 1) := by decide +kernel
theorem dL_law_829 : decode cL_law 829 = .ok (.iadd, 1) := by decide +kernel
theorem dL_law_830 : decode cL_law 830 = .ok (.iaload, 1) := by decide +kernel
theorem dL_law_831 : decode cL_law 831 = .ok (.aload_n 3, 1) := by decide +kernel
theorem dL_law_832 : decode cL_law 832 = .ok (.invokestatic 218, 3) := by decide +kernel
theorem dL_law_835 : decode cL_law 835 = .ok (.istore 6, 2) := by decide +kernel
theorem dL_law_837 : decode cL_law 837 = .ok (.aload_n 2, 1) := by decide +kernel
theorem dL_law_838 : decode cL_law 838 = .ok (.aload_n 0, 1) := by decide +kernel
theorem dL_law_839 : decode cL_law 839 = .ok (.iload 5, 2) := by decide +kernel
theorem dL_law_841 : decode cL_law 841 = .ok (.iconst 1, 1) := by decide +kernel
theorem dL_law_842 : decode cL_law 842 = .ok (.iadd, 1) := by decide +kernel
theorem dL_law_843 : decode cL_law 843 = .ok (.iaload, 1) := by decide +kernel
theorem dL_law_844 : decode cL_law 844 = .ok (.aload_n 0, 1) := by decide +kernel
theorem dL_law_845 : decode cL_law 845 = .ok (.iload 5, 2) := by decide +kernel
theorem dL_law_847 : decode cL_law 847 = .ok (.iconst 2, 1) := by decide +kernel
theorem dL_law_848 : decode cL_law 848 = .ok (.iadd, 1) := by decide +kernel
theorem dL_law_849 : decode cL_law 849 = .ok (.iaload, 1) := by decide +kernel
theorem dL_law_850 : decode cL_law 850 = .ok (.aload_n 0, 1) := by decide +kernel
theorem dL_law_851 : decode cL_law 851 = .ok (.iload 5, 2) := by decide +kernel
theorem dL_law_853 : decode cL_law 853 = .ok (.iconst 3, 1) := by decide +kernel
theorem dL_law_854 : decode cL_law 854 = .ok (.iadd, 1) := by decide +kernel
theorem dL_law_855 : decode cL_law 855 = .ok (.iaload, 1) := by decide +kernel
theorem dL_law_856 : decode cL_law 856 = .ok (.invokevirtual 220, 3) := by decide +kernel
theorem dL_law_859 : decode cL_law 859 = .ok (.istore 7, 2) := by decide +kernel
theorem dL_law_861 : decode cL_law 861 = .ok (.aload_n 2, 1) := by decide +kernel
theorem dL_law_862 : decode cL_law 862 = .ok (.invokevirtual 181, 3) := by decide +kernel
theorem dL_law_865 : decode cL_law 865 = .ok (.iload 6, 2) := by decide +kernel
theorem dL_law_867 : decode cL_law 867 = .ok (.if_icmp .eq 5, 3) := by decide +kernel
theorem dL_law_870 : decode cL_law 870 = .ok (.iconst 0, 1) := by decide +kernel
theorem dL_law_871 : decode cL_law 871 = .ok (.ireturn, 1) := by decide +kernel
theorem dL_law_872 : decode cL_law 872 = .ok (.iload 6, 2) := by decide +kernel
theorem dL_law_874 : decode cL_law 874 = .ok (.ifCond .ne 15, 3) := by decide +kernel
theorem dL_law_877 : decode cL_law 877 = .ok (.aload_n 3, 1) := by decide +kernel
theorem dL_law_878 : decode cL_law 878 = .ok (.iconst 0, 1) := by decide +kernel
theorem dL_law_879 : decode cL_law 879 = .ok (.laload, 1) := by decide +kernel
theorem dL_law_880 : decode cL_law 880 = .ok (.iload 7, 2) := by decide +kernel
theorem dL_law_882 : decode cL_law 882 = .ok (.i2l, 1) := by decide +kernel
theorem dL_law_883 : decode cL_law 883 = .ok (.lcmp, 1) := by decide +kernel
theorem dL_law_884 : decode cL_law 884 = .ok (.ifCond .eq 5, 3) := by decide +kernel
theorem dL_law_887 : decode cL_law 887 = .ok (.iconst 0, 1) := by decide +kernel
theorem dL_law_888 : decode cL_law 888 = .ok (.ireturn, 1) := by decide +kernel
theorem dL_law_889 : decode cL_law 889 = .ok (.goto 2748, 3) := by decide +kernel
theorem dL_law_892 : decode cL_law 892 = .ok (.aload_n 1, 1) := by decide +kernel
theorem dL_law_893 : decode cL_law 893 = .ok (.aload_n 0, 1) := by decide +kernel
theorem dL_law_894 : decode cL_law 894 = .ok (.iload 5, 2) := by decide +kernel
theorem dL_law_896 : decode cL_law 896 = .ok (.iconst 1, 1) := by decide +kernel
theorem dL_law_897 : decode cL_law 897 = .ok (.iadd, 1) := by decide +kernel
theorem dL_law_898 : decode cL_law 898 = .ok (.iaload, 1) := by decide +kernel
theorem dL_law_899 : decode cL_law 899 = .ok (.aload_n 0, 1) := by decide +kernel
theorem dL_law_900 : decode cL_law 900 = .ok (.iload 5, 2) := by decide +kernel
theorem dL_law_902 : decode cL_law 902 = .ok (.iconst 2, 1) := by decide +kernel
theorem dL_law_903 : decode cL_law 903 = .ok (.iadd, 1) := by decide +kernel
theorem dL_law_904 : decode cL_law 904 = .ok (.iaload, 1) := by decide +kernel
theorem dL_law_905 : decode cL_law 905 = .ok (.aload_n 3, 1) := by decide +kernel
theorem dL_law_906 : decode cL_law 906 = .ok (.invokestatic 221, 3) := by decide +kernel
theorem dL_law_909 : decode cL_law 909 = .ok (.istore 6, 2) := by decide +kernel
theorem dL_law_911 : decode cL_law 911 = .ok (.aload_n 2, 1) := by decide +kernel
theorem dL_law_912 : decode cL_law 912 = .ok (.aload_n 0, 1) := by decide +kernel
theorem dL_law_913 : decode cL_law 913 = .ok (.iload 5, 2) := by decide +kernel
theorem dL_law_915 : decode cL_law 915 = .ok (.iconst 1, 1) := by decide +kernel
theorem dL_law_916 : decode cL_law 916 = .ok (.iadd, 1) := by decide +kernel
theorem dL_law_917 : decode cL_law 917 = .ok (.iaload, 1) := by decide +kernel
theorem dL_law_918 : decode cL_law 918 = .ok (.aload_n 0, 1) := by decide +kernel
theorem dL_law_919 : decode cL_law 919 = .ok (.iload 5, 2) := by decide +kernel
theorem dL_law_921 : decode cL_law 921 = .ok (.iconst 2, 1) := by decide +kernel
theorem dL_law_922 : decode cL_law 922 = .ok (.iadd, 1) := by decide +kernel
theorem dL_law_923 : decode cL_law 923 = .ok (.iaload, 1) := by decide +kernel
theorem dL_law_924 : decode cL_law 924 = .ok (.invokevirtual 223, 3) := by decide +kernel
theorem dL_law_927 : decode cL_law 927 = .ok (.istore 7, 2) := by decide +kernel
theorem dL_law_929 : decode cL_law 929 = .ok (.aload_n 2, 1) := by decide +kernel
theorem dL_law_930 : decode cL_law 930 = .ok (.invokevirtual 181, 3) := by decide +kernel
theorem dL_law_933 : decode cL_law 933 = .ok (.iload 6, 2) := by decide +kernel
theorem dL_law_935 : decode cL_law 935 = .ok (.if_icmp .eq 5, 3) := by decide +kernel
theorem dL_law_938 : decode cL_law 938 = .ok (.iconst 0, 1) := by decide +kernel
theorem dL_law_939 : decode cL_law 939 = .ok (.ireturn, 1) := by decide +kernel
theorem dL_law_940 : decode cL_law 940 = .ok (.iload 6, 2) := by decide +kernel
theorem dL_law_942 : decode cL_law 942 = .ok (.ifCond .ne 15, 3) := by decide +kernel
theorem dL_law_945 : decode cL_law 945 = .ok (.aload_n 3, 1) := by decide +kernel
theorem dL_law_946 : decode cL_law 946 = .ok (.iconst 0, 1) := by decide +kernel
theorem dL_law_947 : decode cL_law 947 = .ok (.laload, 1) := by decide +kernel
theorem dL_law_948 : decode cL_law 948 = .ok (.iload 7, 2) := by decide +kernel
theorem dL_law_950 : decode cL_law 950 = .ok (.i2l, 1) := by decide +kernel
theorem dL_law_951 : decode cL_law 951 = .ok (.lcmp, 1) := by decide +kernel
theorem dL_law_952 : decode cL_law 952 = .ok (.ifCond .eq 5, 3) := by decide +kernel
theorem dL_law_955 : decode cL_law 955 = .ok (.iconst 0, 1) := by decide +kernel
theorem dL_law_956 : decode cL_law 956 = .ok (.ireturn, 1) := by decide +kernel
theorem dL_law_957 : decode cL_law 957 = .ok (.goto 2680, 3) := by decide +kernel
theorem dL_law_960 : decode cL_law 960 = .ok (.aload_n 1, 1) := by decide +kernel
theorem dL_law_961 : decode cL_law 961 = .ok (.aload_n 0, 1) := by decide +kernel
theorem dL_law_962 : decode cL_law 962 = .ok (.iload 5, 2) := by decide +kernel
theorem dL_law_964 : decode cL_law 964 = .ok (.iconst 1, 1) := by decide +kernel
theorem dL_law_965 : decode cL_law 965 = .ok (.iadd, 1) := by decide +kernel
theorem dL_law_966 : decode cL_law 966 = .ok (.iaload, 1) := by decide +kernel
theorem dL_law_967 : decode cL_law 967 = .ok (.aload_n 0, 1) := by decide +kernel
theorem dL_law_968 : decode cL_law 968 = .ok (.iload 5, 2) := by decide +kernel
theorem dL_law_970 : decode cL_law 970 = .ok (.iconst 2, 1) := by decide +kernel
theorem dL_law_971 : decode cL_law 971 = .ok (.iadd, 1) := by decide +kernel
theorem dL_law_972 : decode cL_law 972 = .ok (.iaload, 1) := by decide +kernel
theorem dL_law_973 : decode cL_law 973 = .ok (.aload_n 3, 1) := by decide +kernel
theorem dL_law_974 : decode cL_law 974 = .ok (.invokestatic 224, 3) := by decide +kernel
theorem dL_law_977 : decode cL_law 977 = .ok (.istore 6, 2) := by decide +kernel
theorem dL_law_979 : decode cL_law 979 = .ok (.aload_n 2, 1) := by decide +kernel
theorem dL_law_980 : decode cL_law 980 = .ok (.aload_n 0, 1) := by decide +kernel
theorem dL_law_981 : decode cL_law 981 = .ok (.iload 5, 2) := by decide +kernel
theorem dL_law_983 : decode cL_law 983 = .ok (.iconst 1, 1) := by decide +kernel
theorem dL_law_984 : decode cL_law 984 = .ok (.iadd, 1) := by decide +kernel
theorem dL_law_985 : decode cL_law 985 = .ok (.iaload, 1) := by decide +kernel
theorem dL_law_986 : decode cL_law 986 = .ok (.aload_n 0, 1) := by decide +kernel
theorem dL_law_987 : decode cL_law 987 = .ok (.iload 5, 2) := by decide +kernel
theorem dL_law_989 : decode cL_law 989 = .ok (.iconst 2, 1) := by decide +kernel
theorem dL_law_990 : decode cL_law 990 = .ok (.iadd, 1) := by decide +kernel
theorem dL_law_991 : decode cL_law 991 = .ok (.iaload, 1) := by decide +kernel
theorem dL_law_992 : decode cL_law 992 = .ok (.invokevirtual 226, 3) := by decide +kernel
theorem dL_law_995 : decode cL_law 995 = .ok (.istore 7, 2) := by decide +kernel
theorem dL_law_997 : decode cL_law 997 = .ok (.aload_n 2, 1) := by decide +kernel
theorem dL_law_998 : decode cL_law 998 = .ok (.invokevirtual 181, 3) := by decide +kernel
theorem dL_law_1001 : decode cL_law 1001 = .ok (.iload 6, 2) := by decide +kernel
theorem dL_law_1003 : decode cL_law 1003 = .ok (.if_icmp .eq 5, 3) := by decide +kernel
theorem dL_law_1006 : decode cL_law 1006 = .ok (.iconst 0, 1) := by decide +kernel
theorem dL_law_1007 : decode cL_law 1007 = .ok (.ireturn, 1) := by decide +kernel
theorem dL_law_1008 : decode cL_law 1008 = .ok (.iload 6, 2) := by decide +kernel
theorem dL_law_1010 : decode cL_law 1010 = .ok (.ifCond .ne 15, 3) := by decide +kernel
theorem dL_law_1013 : decode cL_law 1013 = .ok (.aload_n 3, 1) := by decide +kernel
theorem dL_law_1014 : decode cL_law 1014 = .ok (.iconst 0, 1) := by decide +kernel
theorem dL_law_1015 : decode cL_law 1015 = .ok (.laload, 1) := by decide +kernel
theorem dL_law_1016 : decode cL_law 1016 = .ok (.iload 7, 2) := by decide +kernel
theorem dL_law_1018 : decode cL_law 1018 = .ok (.i2l, 1) := by decide +kernel
theorem dL_law_1019 : decode cL_law 1019 = .ok (.lcmp, 1) := by decide +kernel
theorem dL_law_1020 : decode cL_law 1020 = .ok (.ifCond .eq 5, 3) := by decide +kernel
theorem dL_law_1023 : decode cL_law 1023 = .ok (.iconst 0, 1) := by decide +kernel
theorem dL_law_1024 : decode cL_law 1024 = .ok (.ireturn, 1) := by decide +kernel
theorem dL_law_1025 : decode cL_law 1025 = .ok (.goto 2612, 3) := by decide +kernel
theorem dL_law_1028 : decode cL_law 1028 = .ok (.aload_n 1, 1) := by decide +kernel
theorem dL_law_1029 : decode cL_law 1029 = .ok (.aload_n 0, 1) := by decide +kernel
theorem dL_law_1030 : decode cL_law 1030 = .ok (.iload 5, 2) := by decide +kernel
theorem dL_law_1032 : decode cL_law 1032 = .ok (.iconst 1, 1) := by decide +kernel
theorem dL_law_1033 : decode cL_law 1033 = .ok (.iadd, 1) := by decide +kernel
theorem dL_law_1034 : decode cL_law 1034 = .ok (.iaload, 1) := by decide +kernel
theorem dL_law_1035 : decode cL_law 1035 = .ok (.aload_n 0, 1) := by decide +kernel
theorem dL_law_1036 : decode cL_law 1036 = .ok (.iload 5, 2) := by decide +kernel
theorem dL_law_1038 : decode cL_law 1038 = .ok (.iconst 2, 1) := by decide +kernel
theorem dL_law_1039 : decode cL_law 1039 = .ok (.iadd, 1) := by decide +kernel
theorem dL_law_1040 : decode cL_law 1040 = .ok (.iaload, 1) := by decide +kernel
theorem dL_law_1041 : decode cL_law 1041 = .ok (.aload_n 0, 1) := by decide +kernel
theorem dL_law_1042 : decode cL_law 1042 = .ok (.iload 5, 2) := by decide +kernel
theorem dL_law_1044 : decode cL_law 1044 = .ok (.iconst 3, 1) := by decide +kernel
theorem dL_law_1045 : decode cL_law 1045 = .ok (.iadd, 1) := by decide +kernel
theorem dL_law_1046 : decode cL_law 1046 = .ok (.iaload, 1) := by decide +kernel
theorem dL_law_1047 : decode cL_law 1047 = .ok (.aload_n 3, 1) := by decide +kernel
theorem dL_law_1048 : decode cL_law 1048 = .ok (.invokestatic 227, 3) := by decide +kernel
theorem dL_law_1051 : decode cL_law 1051 = .ok (.istore 6, 2) := by decide +kernel
theorem dL_law_1053 : decode cL_law 1053 = .ok (.aload_n 2, 1) := by decide +kernel
theorem dL_law_1054 : decode cL_law 1054 = .ok (.aload_n 0, 1) := by decide +kernel
theorem dL_law_1055 : decode cL_law 1055 = .ok (.iload 5, 2) := by decide +kernel
theorem dL_law_1057 : decode cL_law 1057 = .ok (.iconst 1, 1) := by decide +kernel
theorem dL_law_1058 : decode cL_law 1058 = .ok (.iadd, 1) := by decide +kernel
theorem dL_law_1059 : decode cL_law 1059 = .ok (.iaload, 1) := by decide +kernel
theorem dL_law_1060 : decode cL_law 1060 = .ok (.aload_n 0, 1) := by decide +kernel
theorem dL_law_1061 : decode cL_law 1061 = .ok (.iload 5, 2) := by decide +kernel
theorem dL_law_1063 : decode cL_law 1063 = .ok (.iconst 2, 1) := by decide +kernel
theorem dL_law_1064 : decode cL_law 1064 = .ok (.iadd, 1) := by decide +kernel
theorem dL_law_1065 : decode cL_law 1065 = .ok (.iaload, 1) := by decide +kernel
theorem dL_law_1066 : decode cL_law 1066 = .ok (.aload_n 0, 1) := by decide +kernel
theorem dL_law_1067 : decode cL_law 1067 = .ok (.iload 5, 2) := by decide +kernel
theorem dL_law_1069 : decode cL_law 1069 = .ok (.iconst 3, 1) := by decide +kernel
theorem dL_law_1070 : decode cL_law 1070 = .ok (.iadd, 1) := by decide +kernel
theorem dL_law_1071 : decode cL_law 1071 = .ok (.iaload, 1) := by decide +kernel
theorem dL_law_1072 : decode cL_law 1072 = .ok (.invokevirtual 229, 3) := by decide +kernel
theorem dL_law_1075 : decode cL_law 1075 = .ok (.istore 7, 2) := by decide +kernel
theorem dL_law_1077 : decode cL_law 1077 = .ok (.aload_n 2, 1) := by decide +kernel
theorem dL_law_1078 : decode cL_law 1078 = .ok (.invokevirtual 181, 3) := by decide +kernel
theorem dL_law_1081 : decode cL_law 1081 = .ok (.iload 6, 2) := by decide +kernel
theorem dL_law_1083 : decode cL_law 1083 = .ok (.if_icmp .eq 5, 3) := by decide +kernel
theorem dL_law_1086 : decode cL_law 1086 = .ok (.iconst 0, 1) := by decide +kernel
theorem dL_law_1087 : decode cL_law 1087 = .ok (.ireturn, 1) := by decide +kernel
theorem dL_law_1088 : decode cL_law 1088 = .ok (.iload 6, 2) := by decide +kernel
theorem dL_law_1090 : decode cL_law 1090 = .ok (.ifCond .ne 15, 3) := by decide +kernel
theorem dL_law_1093 : decode cL_law 1093 = .ok (.aload_n 3, 1) := by decide +kernel
theorem dL_law_1094 : decode cL_law 1094 = .ok (.iconst 0, 1) := by decide +kernel
theorem dL_law_1095 : decode cL_law 1095 = .ok (.laload, 1) := by decide +kernel
theorem dL_law_1096 : decode cL_law 1096 = .ok (.iload 7, 2) := by decide +kernel
theorem dL_law_1098 : decode cL_law 1098 = .ok (.i2l, 1) := by decide +kernel
theorem dL_law_1099 : decode cL_law 1099 = .ok (.lcmp, 1) := by decide +kernel
theorem dL_law_1100 : decode cL_law 1100 = .ok (.ifCond .eq 5, 3) := by decide +kernel
theorem dL_law_1103 : decode cL_law 1103 = .ok (.iconst 0, 1) := by decide +kernel
theorem dL_law_1104 : decode cL_law 1104 = .ok (.ireturn, 1) := by decide +kernel
theorem dL_law_1105 : decode cL_law 1105 = .ok (.goto 2532, 3) := by decide +kernel
theorem dL_law_1108 : decode cL_law 1108 = .ok (.aload_n 1, 1) := by decide +kernel
theorem dL_law_1109 : decode cL_law 1109 = .ok (.aload_n 0, 1) := by decide +kernel
theorem dL_law_1110 : decode cL_law 1110 = .ok (.iload 5, 2) := by decide +kernel
theorem dL_law_1112 : decode cL_law 1112 = .ok (.iconst 1, 1) := by decide +kernel
theorem dL_law_1113 : decode cL_law 1113 = .ok (.iadd, 1) := by decide +kernel
theorem dL_law_1114 : decode cL_law 1114 = .ok (.iaload, 1) := by decide +kernel
theorem dL_law_1115 : decode cL_law 1115 = .ok (.aload_n 0, 1) := by decide +kernel
theorem dL_law_1116 : decode cL_law 1116 = .ok (.iload 5, 2) := by decide +kernel
theorem dL_law_1118 : decode cL_law 1118 = .ok (.iconst 2, 1) := by decide +kernel
theorem dL_law_1119 : decode cL_law 1119 = .ok (.iadd, 1) := by decide +kernel
theorem dL_law_1120 : decode cL_law 1120 = .ok (.iaload, 1) := by decide +kernel
theorem dL_law_1121 : decode cL_law 1121 = .ok (.aload_n 0, 1) := by decide +kernel
theorem dL_law_1122 : decode cL_law 1122 = .ok (.iload 5, 2) := by decide +kernel
theorem dL_law_1124 : decode cL_law 1124 = .ok (.iconst 3, 1) := by decide +kernel
theorem dL_law_1125 : decode cL_law 1125 = .ok (.iadd, 1) := by decide +kernel
theorem dL_law_1126 : decode cL_law 1126 = .ok (.iaload, 1) := by decide +kernel
theorem dL_law_1127 : decode cL_law 1127 = .ok (.aload_n 3, 1) := by decide +kernel
theorem dL_law_1128 : decode cL_law 1128 = .ok (.invokestatic 230, 3) := by decide +kernel
theorem dL_law_1131 : decode cL_law 1131 = .ok (.istore 6, 2) := by decide +kernel
theorem dL_law_1133 : decode cL_law 1133 = .ok (.aload_n 2, 1) := by decide +kernel
theorem dL_law_1134 : decode cL_law 1134 = .ok (.aload_n 0, 1) := by decide +kernel
theorem dL_law_1135 : decode cL_law 1135 = .ok (.iload 5, 2) := by decide +kernel
theorem dL_law_1137 : decode cL_law 1137 = .ok (.iconst 1, 1) := by decide +kernel
theorem dL_law_1138 : decode cL_law 1138 = .ok (.iadd, 1) := by decide +kernel
theorem dL_law_1139 : decode cL_law 1139 = .ok (.iaload, 1) := by decide +kernel
theorem dL_law_1140 : decode cL_law 1140 = .ok (.aload_n 0, 1) := by decide +kernel
theorem dL_law_1141 : decode cL_law 1141 = .ok (.iload 5, 2) := by decide +kernel
theorem dL_law_1143 : decode cL_law 1143 = .ok (.iconst 2, 1) := by decide +kernel
theorem dL_law_1144 : decode cL_law 1144 = .ok (.iadd, 1) := by decide +kernel
theorem dL_law_1145 : decode cL_law 1145 = .ok (.iaload, 1) := by decide +kernel
theorem dL_law_1146 : decode cL_law 1146 = .ok (.aload_n 0, 1) := by decide +kernel
theorem dL_law_1147 : decode cL_law 1147 = .ok (.iload 5, 2) := by decide +kernel
theorem dL_law_1149 : decode cL_law 1149 = .ok (.iconst 3, 1) := by decide +kernel
theorem dL_law_1150 : decode cL_law 1150 = .ok (.iadd, 1) := by decide +kernel
theorem dL_law_1151 : decode cL_law 1151 = .ok (.iaload, 1) := by decide +kernel
theorem dL_law_1152 : decode cL_law 1152 = .ok (.invokevirtual 232, 3) := by decide +kernel
theorem dL_law_1155 : decode cL_law 1155 = .ok (.istore 7, 2) := by decide +kernel
theorem dL_law_1157 : decode cL_law 1157 = .ok (.aload_n 2, 1) := by decide +kernel
theorem dL_law_1158 : decode cL_law 1158 = .ok (.invokevirtual 181, 3) := by decide +kernel
theorem dL_law_1161 : decode cL_law 1161 = .ok (.iload 6, 2) := by decide +kernel
theorem dL_law_1163 : decode cL_law 1163 = .ok (.if_icmp .eq 5, 3) := by decide +kernel
theorem dL_law_1166 : decode cL_law 1166 = .ok (.iconst 0, 1) := by decide +kernel
theorem dL_law_1167 : decode cL_law 1167 = .ok (.ireturn, 1) := by decide +kernel
theorem dL_law_1168 : decode cL_law 1168 = .ok (.iload 6, 2) := by decide +kernel
theorem dL_law_1170 : decode cL_law 1170 = .ok (.ifCond .ne 15, 3) := by decide +kernel
theorem dL_law_1173 : decode cL_law 1173 = .ok (.aload_n 3, 1) := by decide +kernel
theorem dL_law_1174 : decode cL_law 1174 = .ok (.iconst 0, 1) := by decide +kernel
theorem dL_law_1175 : decode cL_law 1175 = .ok (.laload, 1) := by decide +kernel
theorem dL_law_1176 : decode cL_law 1176 = .ok (.iload 7, 2) := by decide +kernel
theorem dL_law_1178 : decode cL_law 1178 = .ok (.i2l, 1) := by decide +kernel
theorem dL_law_1179 : decode cL_law 1179 = .ok (.lcmp, 1) := by decide +kernel
theorem dL_law_1180 : decode cL_law 1180 = .ok (.ifCond .eq 5, 3) := by decide +kernel
theorem dL_law_1183 : decode cL_law 1183 = .ok (.iconst 0, 1) := by decide +kernel
theorem dL_law_1184 : decode cL_law 1184 = .ok (.ireturn, 1) := by decide +kernel
theorem dL_law_1185 : decode cL_law 1185 = .ok (.goto 2452, 3) := by decide +kernel
theorem dL_law_1188 : decode cL_law 1188 = .ok (.aload_n 1, 1) := by decide +kernel
theorem dL_law_1189 : decode cL_law 1189 = .ok (.aload_n 0, 1) := by decide +kernel
theorem dL_law_1190 : decode cL_law 1190 = .ok (.iload 5, 2) := by decide +kernel
theorem dL_law_1192 : decode cL_law 1192 = .ok (.iconst 1, 1) := by decide +kernel
theorem dL_law_1193 : decode cL_law 1193 = .ok (.iadd, 1) := by decide +kernel
theorem dL_law_1194 : decode cL_law 1194 = .ok (.iaload, 1) := by decide +kernel
theorem dL_law_1195 : decode cL_law 1195 = .ok (.aload_n 0, 1) := by decide +kernel
theorem dL_law_1196 : decode cL_law 1196 = .ok (.iload 5, 2) := by decide +kernel
theorem dL_law_1198 : decode cL_law 1198 = .ok (.iconst 2, 1) := by decide +kernel
theorem dL_law_1199 : decode cL_law 1199 = .ok (.iadd, 1) := by decide +kernel
theorem dL_law_1200 : decode cL_law 1200 = .ok (.iaload, 1) := by decide +kernel
theorem dL_law_1201 : decode cL_law 1201 = .ok (.aload_n 3, 1) := by decide +kernel
theorem dL_law_1202 : decode cL_law 1202 = .ok (.invokestatic 233, 3) := by decide +kernel
theorem dL_law_1205 : decode cL_law 1205 = .ok (.istore 6, 2) := by decide +kernel
theorem dL_law_1207 : decode cL_law 1207 = .ok (.aload_n 2, 1) := by decide +kernel
theorem dL_law_1208 : decode cL_law 1208 = .ok (.aload_n 0, 1) := by decide +kernel
theorem dL_law_1209 : decode cL_law 1209 = .ok (.iload 5, 2) := by decide +kernel
theorem dL_law_1211 : decode cL_law 1211 = .ok (.iconst 1, 1) := by decide +kernel
theorem dL_law_1212 : decode cL_law 1212 = .ok (.iadd, 1) := by decide +kernel
theorem dL_law_1213 : decode cL_law 1213 = .ok (.iaload, 1) := by decide +kernel
theorem dL_law_1214 : decode cL_law 1214 = .ok (.aload_n 0, 1) := by decide +kernel
theorem dL_law_1215 : decode cL_law 1215 = .ok (.iload 5, 2) := by decide +kernel
theorem dL_law_1217 : decode cL_law 1217 = .ok (.iconst 2, 1) := by decide +kernel
theorem dL_law_1218 : decode cL_law 1218 = .ok (.iadd, 1) := by decide +kernel
theorem dL_law_1219 : decode cL_law 1219 = .ok (.iaload, 1) := by decide +kernel
theorem dL_law_1220 : decode cL_law 1220 = .ok (.invokevirtual 235, 3) := by decide +kernel
theorem dL_law_1223 : decode cL_law 1223 = .ok (.istore 7, 2) := by decide +kernel
theorem dL_law_1225 : decode cL_law 1225 = .ok (.aload_n 2, 1) := by decide +kernel
theorem dL_law_1226 : decode cL_law 1226 = .ok (.invokevirtual 181, 3) := by decide +kernel
theorem dL_law_1229 : decode cL_law 1229 = .ok (.iload 6, 2) := by decide +kernel
theorem dL_law_1231 : decode cL_law 1231 = .ok (.if_icmp .eq 5, 3) := by decide +kernel
theorem dL_law_1234 : decode cL_law 1234 = .ok (.iconst 0, 1) := by decide +kernel
theorem dL_law_1235 : decode cL_law 1235 = .ok (.ireturn, 1) := by decide +kernel
theorem dL_law_1236 : decode cL_law 1236 = .ok (.iload 6, 2) := by decide +kernel
theorem dL_law_1238 : decode cL_law 1238 = .ok (.ifCond .ne 15, 3) := by decide +kernel
theorem dL_law_1241 : decode cL_law 1241 = .ok (.aload_n 3, 1) := by decide +kernel
theorem dL_law_1242 : decode cL_law 1242 = .ok (.iconst 0, 1) := by decide +kernel
theorem dL_law_1243 : decode cL_law 1243 = .ok (.laload, 1) := by decide +kernel
theorem dL_law_1244 : decode cL_law 1244 = .ok (.iload 7, 2) := by decide +kernel
theorem dL_law_1246 : decode cL_law 1246 = .ok (.i2l, 1) := by decide +kernel
theorem dL_law_1247 : decode cL_law 1247 = .ok (.lcmp, 1) := by decide +kernel
theorem dL_law_1248 : decode cL_law 1248 = .ok (.ifCond .eq 5, 3) := by decide +kernel
theorem dL_law_1251 : decode cL_law 1251 = .ok (.iconst 0, 1) := by decide +kernel
theorem dL_law_1252 : decode cL_law 1252 = .ok (.ireturn, 1) := by decide +kernel
theorem dL_law_1253 : decode cL_law 1253 = .ok (.goto 2384, 3) := by decide +kernel
theorem dL_law_1256 : decode cL_law 1256 = .ok (.aload_n 1, 1) := by decide +kernel
theorem dL_law_1257 : decode cL_law 1257 = .ok (.aload_n 0, 1) := by decide +kernel
theorem dL_law_1258 : decode cL_law 1258 = .ok (.iload 5, 2) := by decide +kernel
theorem dL_law_1260 : decode cL_law 1260 = .ok (.iconst 1, 1) := by decide +kernel
theorem dL_law_1261 : decode cL_law 1261 = .ok (.iadd, 1) := by decide +kernel
theorem dL_law_1262 : decode cL_law 1262 = .ok (.iaload, 1) := by decide +kernel
theorem dL_law_1263 : decode cL_law 1263 = .ok (.aload_n 0, 1) := by decide +kernel
theorem dL_law_1264 : decode cL_law 1264 = .ok (.iload 5, 2) := by decide +kernel
theorem dL_law_1266 : decode cL_law 1266 = .ok (.iconst 2, 1) := by decide +kernel
theorem dL_law_1267 : decode cL_law 1267 = .ok (.iadd, 1) := by decide +kernel
theorem dL_law_1268 : decode cL_law 1268 = .ok (.iaload, 1) := by decide +kernel
theorem dL_law_1269 : decode cL_law 1269 = .ok (.aload_n 3, 1) := by decide +kernel
theorem dL_law_1270 : decode cL_law 1270 = .ok (.invokestatic 236, 3) := by decide +kernel
theorem dL_law_1273 : decode cL_law 1273 = .ok (.istore 6, 2) := by decide +kernel
theorem dL_law_1275 : decode cL_law 1275 = .ok (.aload_n 2, 1) := by decide +kernel
theorem dL_law_1276 : decode cL_law 1276 = .ok (.aload_n 0, 1) := by decide +kernel
theorem dL_law_1277 : decode cL_law 1277 = .ok (.iload 5, 2) := by decide +kernel
theorem dL_law_1279 : decode cL_law 1279 = .ok (.iconst 1, 1) := by decide +kernel
theorem dL_law_1280 : decode cL_law 1280 = .ok (.iadd, 1) := by decide +kernel
theorem dL_law_1281 : decode cL_law 1281 = .ok (.iaload, 1) := by decide +kernel
theorem dL_law_1282 : decode cL_law 1282 = .ok (.aload_n 0, 1) := by decide +kernel
theorem dL_law_1283 : decode cL_law 1283 = .ok (.iload 5, 2) := by decide +kernel
theorem dL_law_1285 : decode cL_law 1285 = .ok (.iconst 2, 1) := by decide +kernel
theorem dL_law_1286 : decode cL_law 1286 = .ok (.iadd, 1) := by decide +kernel
theorem dL_law_1287 : decode cL_law 1287 = .ok (.iaload, 1) := by decide +kernel
theorem dL_law_1288 : decode cL_law 1288 = .ok (.invokevirtual 238, 3) := by decide +kernel
theorem dL_law_1291 : decode cL_law 1291 = .ok (.istore 7, 2) := by decide +kernel
theorem dL_law_1293 : decode cL_law 1293 = .ok (.aload_n 2, 1) := by decide +kernel
theorem dL_law_1294 : decode cL_law 1294 = .ok (.invokevirtual 181, 3) := by decide +kernel
theorem dL_law_1297 : decode cL_law 1297 = .ok (.iload 6, 2) := by decide +kernel
theorem dL_law_1299 : decode cL_law 1299 = .ok (.if_icmp .eq 5, 3) := by decide +kernel
theorem dL_law_1302 : decode cL_law 1302 = .ok (.iconst 0, 1) := by decide +kernel
theorem dL_law_1303 : decode cL_law 1303 = .ok (.ireturn, 1) := by decide +kernel
theorem dL_law_1304 : decode cL_law 1304 = .ok (.iload 6, 2) := by decide +kernel
theorem dL_law_1306 : decode cL_law 1306 = .ok (.ifCond .ne 15, 3) := by decide +kernel
theorem dL_law_1309 : decode cL_law 1309 = .ok (.aload_n 3, 1) := by decide +kernel
theorem dL_law_1310 : decode cL_law 1310 = .ok (.iconst 0, 1) := by decide +kernel
theorem dL_law_1311 : decode cL_law 1311 = .ok (.laload, 1) := by decide +kernel
theorem dL_law_1312 : decode cL_law 1312 = .ok (.iload 7, 2) := by decide +kernel
theorem dL_law_1314 : decode cL_law 1314 = .ok (.i2l, 1) := by decide +kernel
theorem dL_law_1315 : decode cL_law 1315 = .ok (.lcmp, 1) := by decide +kernel
theorem dL_law_1316 : decode cL_law 1316 = .ok (.ifCond .eq 5, 3) := by decide +kernel
theorem dL_law_1319 : decode cL_law 1319 = .ok (.iconst 0, 1) := by decide +kernel
theorem dL_law_1320 : decode cL_law 1320 = .ok (.ireturn, 1) := by decide +kernel
theorem dL_law_1321 : decode cL_law 1321 = .ok (.goto 2316, 3) := by decide +kernel
theorem dL_law_1324 : decode cL_law 1324 = .ok (.aload_n 1, 1) := by decide +kernel
theorem dL_law_1325 : decode cL_law 1325 = .ok (.aload_n 0, 1) := by decide +kernel
theorem dL_law_1326 : decode cL_law 1326 = .ok (.iload 5, 2) := by decide +kernel
theorem dL_law_1328 : decode cL_law 1328 = .ok (.iconst 1, 1) := by decide +kernel
theorem dL_law_1329 : decode cL_law 1329 = .ok (.iadd, 1) := by decide +kernel
theorem dL_law_1330 : decode cL_law 1330 = .ok (.iaload, 1) := by decide +kernel
theorem dL_law_1331 : decode cL_law 1331 = .ok (.aload_n 3, 1) := by decide +kernel
theorem dL_law_1332 : decode cL_law 1332 = .ok (.invokestatic 239, 3) := by decide +kernel
theorem dL_law_1335 : decode cL_law 1335 = .ok (.istore 6, 2) := by decide +kernel
theorem dL_law_1337 : decode cL_law 1337 = .ok (.aload_n 2, 1) := by decide +kernel
theorem dL_law_1338 : decode cL_law 1338 = .ok (.aload_n 0, 1) := by decide +kernel
theorem dL_law_1339 : decode cL_law 1339 = .ok (.iload 5, 2) := by decide +kernel
theorem dL_law_1341 : decode cL_law 1341 = .ok (.iconst 1, 1) := by decide +kernel
theorem dL_law_1342 : decode cL_law 1342 = .ok (.iadd, 1) := by decide +kernel
theorem dL_law_1343 : decode cL_law 1343 = .ok (.iaload, 1) := by decide +kernel
theorem dL_law_1344 : decode cL_law 1344 = .ok (.invokevirtual 241, 3) := by decide +kernel
theorem dL_law_1347 : decode cL_law 1347 = .ok (.istore 7, 2) := by decide +kernel
theorem dL_law_1349 : decode cL_law 1349 = .ok (.aload_n 2, 1) := by decide +kernel
theorem dL_law_1350 : decode cL_law 1350 = .ok (.invokevirtual 181, 3) := by decide +kernel
theorem dL_law_1353 : decode cL_law 1353 = .ok (.iload 6, 2) := by decide +kernel
theorem dL_law_1355 : decode cL_law 1355 = .ok (.if_icmp .eq 5, 3) := by decide +kernel
theorem dL_law_1358 : decode cL_law 1358 = .ok (.iconst 0, 1) := by decide +kernel
theorem dL_law_1359 : decode cL_law 1359 = .ok (.ireturn, 1) := by decide +kernel
theorem dL_law_1360 : decode cL_law 1360 = .ok (.iload 6, 2) := by decide +kernel
theorem dL_law_1362 : decode cL_law 1362 = .ok (.ifCond .ne 15, 3) := by decide +kernel
theorem dL_law_1365 : decode cL_law 1365 = .ok (.aload_n 3, 1) := by decide +kernel
theorem dL_law_1366 : decode cL_law 1366 = .ok (.iconst 0, 1) := by decide +kernel
theorem dL_law_1367 : decode cL_law 1367 = .ok (.laload, 1) := by decide +kernel
theorem dL_law_1368 : decode cL_law 1368 = .ok (.iload 7, 2) := by decide +kernel
theorem dL_law_1370 : decode cL_law 1370 = .ok (.i2l, 1) := by decide +kernel
theorem dL_law_1371 : decode cL_law 1371 = .ok (.lcmp, 1) := by decide +kernel
theorem dL_law_1372 : decode cL_law 1372 = .ok (.ifCond .eq 5, 3) := by decide +kernel
theorem dL_law_1375 : decode cL_law 1375 = .ok (.iconst 0, 1) := by decide +kernel
theorem dL_law_1376 : decode cL_law 1376 = .ok (.ireturn, 1) := by decide +kernel
theorem dL_law_1377 : decode cL_law 1377 = .ok (.goto 2260, 3) := by decide +kernel
theorem dL_law_1380 : decode cL_law 1380 = .ok (.aload_n 1, 1) := by decide +kernel
theorem dL_law_1381 : decode cL_law 1381 = .ok (.aload_n 0, 1) := by decide +kernel
theorem dL_law_1382 : decode cL_law 1382 = .ok (.iload 5, 2) := by decide +kernel
theorem dL_law_1384 : decode cL_law 1384 = .ok (.iconst 1, 1) := by decide +kernel
theorem dL_law_1385 : decode cL_law 1385 = .ok (.iadd, 1) := by decide +kernel
theorem dL_law_1386 : decode cL_law 1386 = .ok (.iaload, 1) := by decide +kernel
theorem dL_law_1387 : decode cL_law 1387 = .ok (.aload_n 0, 1) := by decide +kernel
theorem dL_law_1388 : decode cL_law 1388 = .ok (.iload 5, 2) := by decide +kernel
theorem dL_law_1390 : decode cL_law 1390 = .ok (.iconst 2, 1) := by decide +kernel
theorem dL_law_1391 : decode cL_law 1391 = .ok (.iadd, 1) := by decide +kernel
theorem dL_law_1392 : decode cL_law 1392 = .ok (.iaload, 1) := by decide +kernel
theorem dL_law_1393 : decode cL_law 1393 = .ok (.aload_n 3, 1) := by decide +kernel
theorem dL_law_1394 : decode cL_law 1394 = .ok (.invokestatic 242, 3) := by decide +kernel
theorem dL_law_1397 : decode cL_law 1397 = .ok (.istore 6, 2) := by decide +kernel
theorem dL_law_1399 : decode cL_law 1399 = .ok (.aload_n 2, 1) := by decide +kernel
theorem dL_law_1400 : decode cL_law 1400 = .ok (.aload_n 0, 1) := by decide +kernel
theorem dL_law_1401 : decode cL_law 1401 = .ok (.iload 5, 2) := by decide +kernel
theorem dL_law_1403 : decode cL_law 1403 = .ok (.iconst 1, 1) := by decide +kernel
theorem dL_law_1404 : decode cL_law 1404 = .ok (.iadd, 1) := by decide +kernel
theorem dL_law_1405 : decode cL_law 1405 = .ok (.iaload, 1) := by decide +kernel
theorem dL_law_1406 : decode cL_law 1406 = .ok (.aload_n 0, 1) := by decide +kernel
theorem dL_law_1407 : decode cL_law 1407 = .ok (.iload 5, 2) := by decide +kernel
theorem dL_law_1409 : decode cL_law 1409 = .ok (.iconst 2, 1) := by decide +kernel
theorem dL_law_1410 : decode cL_law 1410 = .ok (.iadd, 1) := by decide +kernel
theorem dL_law_1411 : decode cL_law 1411 = .ok (.iaload, 1) := by decide +kernel
theorem dL_law_1412 : decode cL_law 1412 = .ok (.invokevirtual 244, 3) := by decide +kernel
theorem dL_law_1415 : decode cL_law 1415 = .ok (.istore 7, 2) := by decide +kernel
theorem dL_law_1417 : decode cL_law 1417 = .ok (.aload_n 2, 1) := by decide +kernel
theorem dL_law_1418 : decode cL_law 1418 = .ok (.invokevirtual 181, 3) := by decide +kernel
theorem dL_law_1421 : decode cL_law 1421 = .ok (.iload 6, 2) := by decide +kernel
theorem dL_law_1423 : decode cL_law 1423 = .ok (.if_icmp .eq 5, 3) := by decide +kernel
theorem dL_law_1426 : decode cL_law 1426 = .ok (.iconst 0, 1) := by decide +kernel
theorem dL_law_1427 : decode cL_law 1427 = .ok (.ireturn, 1) := by decide +kernel
theorem dL_law_1428 : decode cL_law 1428 = .ok (.iload 6, 2) := by decide +kernel
theorem dL_law_1430 : decode cL_law 1430 = .ok (.ifCond .ne 15, 3) := by decide +kernel
theorem dL_law_1433 : decode cL_law 1433 = .ok (.aload_n 3, 1) := by decide +kernel
theorem dL_law_1434 : decode cL_law 1434 = .ok (.iconst 0, 1) := by decide +kernel
theorem dL_law_1435 : decode cL_law 1435 = .ok (.laload, 1) := by decide +kernel
theorem dL_law_1436 : decode cL_law 1436 = .ok (.iload 7, 2) := by decide +kernel
theorem dL_law_1438 : decode cL_law 1438 = .ok (.i2l, 1) := by decide +kernel
theorem dL_law_1439 : decode cL_law 1439 = .ok (.lcmp, 1) := by decide +kernel
theorem dL_law_1440 : decode cL_law 1440 = .ok (.ifCond .eq 5, 3) := by decide +kernel
theorem dL_law_1443 : decode cL_law 1443 = .ok (.iconst 0, 1) := by decide +kernel
theorem dL_law_1444 : decode cL_law 1444 = .ok (.ireturn, 1) := by decide +kernel
theorem dL_law_1445 : decode cL_law 1445 = .ok (.goto 2192, 3) := by decide +kernel
theorem dL_law_1448 : decode cL_law 1448 = .ok (.aload_n 1, 1) := by decide +kernel
theorem dL_law_1449 : decode cL_law 1449 = .ok (.aload_n 0, 1) := by decide +kernel
theorem dL_law_1450 : decode cL_law 1450 = .ok (.iload 5, 2) := by decide +kernel
theorem dL_law_1452 : decode cL_law 1452 = .ok (.iconst 1, 1) := by decide +kernel
theorem dL_law_1453 : decode cL_law 1453 = .ok (.iadd, 1) := by decide +kernel
theorem dL_law_1454 : decode cL_law 1454 = .ok (.iaload, 1) := by decide +kernel
theorem dL_law_1455 : decode cL_law 1455 = .ok (.aload_n 3, 1) := by decide +kernel
theorem dL_law_1456 : decode cL_law 1456 = .ok (.invokestatic 245, 3) := by decide +kernel
theorem dL_law_1459 : decode cL_law 1459 = .ok (.istore 6, 2) := by decide +kernel
theorem dL_law_1461 : decode cL_law 1461 = .ok (.aload_n 2, 1) := by decide +kernel
theorem dL_law_1462 : decode cL_law 1462 = .ok (.aload_n 0, 1) := by decide +kernel
theorem dL_law_1463 : decode cL_law 1463 = .ok (.iload 5, 2) := by decide +kernel
theorem dL_law_1465 : decode cL_law 1465 = .ok (.iconst 1, 1) := by decide +kernel
theorem dL_law_1466 : decode cL_law 1466 = .ok (.iadd, 1) := by decide +kernel
theorem dL_law_1467 : decode cL_law 1467 = .ok (.iaload, 1) := by decide +kernel
theorem dL_law_1468 : decode cL_law 1468 = .ok (.invokevirtual 247, 3) := by decide +kernel
theorem dL_law_1471 : decode cL_law 1471 = .ok (.istore 7, 2) := by decide +kernel
theorem dL_law_1473 : decode cL_law 1473 = .ok (.aload_n 2, 1) := by decide +kernel
theorem dL_law_1474 : decode cL_law 1474 = .ok (.invokevirtual 181, 3) := by decide +kernel
theorem dL_law_1477 : decode cL_law 1477 = .ok (.iload 6, 2) := by decide +kernel
theorem dL_law_1479 : decode cL_law 1479 = .ok (.if_icmp .eq 5, 3) := by decide +kernel
theorem dL_law_1482 : decode cL_law 1482 = .ok (.iconst 0, 1) := by decide +kernel
theorem dL_law_1483 : decode cL_law 1483 = .ok (.ireturn, 1) := by decide +kernel
theorem dL_law_1484 : decode cL_law 1484 = .ok (.iload 6, 2) := by decide +kernel
theorem dL_law_1486 : decode cL_law 1486 = .ok (.ifCond .ne 15, 3) := by decide +kernel
theorem dL_law_1489 : decode cL_law 1489 = .ok (.aload_n 3, 1) := by decide +kernel
theorem dL_law_1490 : decode cL_law 1490 = .ok (.iconst 0, 1) := by decide +kernel
theorem dL_law_1491 : decode cL_law 1491 = .ok (.laload, 1) := by decide +kernel
theorem dL_law_1492 : decode cL_law 1492 = .ok (.iload 7, 2) := by decide +kernel
theorem dL_law_1494 : decode cL_law 1494 = .ok (.i2l, 1) := by decide +kernel
theorem dL_law_1495 : decode cL_law 1495 = .ok (.lcmp, 1) := by decide +kernel
theorem dL_law_1496 : decode cL_law 1496 = .ok (.ifCond .eq 5, 3) := by decide +kernel
theorem dL_law_1499 : decode cL_law 1499 = .ok (.iconst 0, 1) := by decide +kernel
theorem dL_law_1500 : decode cL_law 1500 = .ok (.ireturn, 1) := by decide +kernel
theorem dL_law_1501 : decode cL_law 1501 = .ok (.goto 2136, 3) := by decide +kernel
theorem dL_law_1504 : decode cL_law 1504 = .ok (.aload_n 1, 1) := by decide +kernel
theorem dL_law_1505 : decode cL_law 1505 = .ok (.aload_n 0, 1) := by decide +kernel
theorem dL_law_1506 : decode cL_law 1506 = .ok (.iload 5, 2) := by decide +kernel
theorem dL_law_1508 : decode cL_law 1508 = .ok (.iconst 1, 1) := by decide +kernel
theorem dL_law_1509 : decode cL_law 1509 = .ok (.iadd, 1) := by decide +kernel
theorem dL_law_1510 : decode cL_law 1510 = .ok (.iaload, 1) := by decide +kernel
theorem dL_law_1511 : decode cL_law 1511 = .ok (.aload_n 3, 1) := by decide +kernel
theorem dL_law_1512 : decode cL_law 1512 = .ok (.invokestatic 248, 3) := by decide +kernel
theorem dL_law_1515 : decode cL_law 1515 = .ok (.istore 6, 2) := by decide +kernel
theorem dL_law_1517 : decode cL_law 1517 = .ok (.aload_n 2, 1) := by decide +kernel
theorem dL_law_1518 : decode cL_law 1518 = .ok (.aload_n 0, 1) := by decide +kernel
theorem dL_law_1519 : decode cL_law 1519 = .ok (.iload 5, 2) := by decide +kernel
theorem dL_law_1521 : decode cL_law 1521 = .ok (.iconst 1, 1) := by decide +kernel
theorem dL_law_1522 : decode cL_law 1522 = .ok (.iadd, 1) := by decide +kernel
theorem dL_law_1523 : decode cL_law 1523 = .ok (.iaload, 1) := by decide +kernel
theorem dL_law_1524 : decode cL_law 1524 = .ok (.invokevirtual 250, 3) := by decide +kernel
theorem dL_law_1527 : decode cL_law 1527 = .ok (.istore 7, 2) := by decide +kernel
theorem dL_law_1529 : decode cL_law 1529 = .ok (.aload_n 2, 1) := by decide +kernel
theorem dL_law_1530 : decode cL_law 1530 = .ok (.invokevirtual 181, 3) := by decide +kernel
theorem dL_law_1533 : decode cL_law 1533 = .ok (.iload 6, 2) := by decide +kernel
theorem dL_law_1535 : decode cL_law 1535 = .ok (.if_icmp .eq 5, 3) := by decide +kernel
theorem dL_law_1538 : decode cL_law 1538 = .ok (.iconst 0, 1) := by decide +kernel
theorem dL_law_1539 : decode cL_law 1539 = .ok (.ireturn, 1) := by decide +kernel
theorem dL_law_1540 : decode cL_law 1540 = .ok (.iload 6, 2) := by decide +kernel
theorem dL_law_1542 : decode cL_law 1542 = .ok (.ifCond .ne 15, 3) := by decide +kernel
theorem dL_law_1545 : decode cL_law 1545 = .ok (.aload_n 3, 1) := by decide +kernel
theorem dL_law_1546 : decode cL_law 1546 = .ok (.iconst 0, 1) := by decide +kernel
theorem dL_law_1547 : decode cL_law 1547 = .ok (.laload, 1) := by decide +kernel
theorem dL_law_1548 : decode cL_law 1548 = .ok (.iload 7, 2) := by decide +kernel
theorem dL_law_1550 : decode cL_law 1550 = .ok (.i2l, 1) := by decide +kernel
theorem dL_law_1551 : decode cL_law 1551 = .ok (.lcmp, 1) := by decide +kernel
theorem dL_law_1552 : decode cL_law 1552 = .ok (.ifCond .eq 5, 3) := by decide +kernel
theorem dL_law_1555 : decode cL_law 1555 = .ok (.iconst 0, 1) := by decide +kernel
theorem dL_law_1556 : decode cL_law 1556 = .ok (.ireturn, 1) := by decide +kernel
theorem dL_law_1557 : decode cL_law 1557 = .ok (.goto 2080, 3) := by decide +kernel
theorem dL_law_1560 : decode cL_law 1560 = .ok (.aload_n 1, 1) := by decide +kernel
theorem dL_law_1561 : decode cL_law 1561 = .ok (.aload_n 0, 1) := by decide +kernel
theorem dL_law_1562 : decode cL_law 1562 = .ok (.iload 5, 2) := by decide +kernel
theorem dL_law_1564 : decode cL_law 1564 = .ok (.iconst 1, 1) := by decide +kernel
theorem dL_law_1565 : decode cL_law 1565 = .ok (.iadd, 1) := by decide +kernel
theorem dL_law_1566 : decode cL_law 1566 = .ok (.iaload, 1) := by decide +kernel
theorem dL_law_1567 : decode cL_law 1567 = .ok (.aload_n 3, 1) := by decide +kernel
theorem dL_law_1568 : decode cL_law 1568 = .ok (.invokestatic 251, 3) := by decide +kernel
theorem dL_law_1571 : decode cL_law 1571 = .ok (.istore 6, 2) := by decide +kernel
theorem dL_law_1573 : decode cL_law 1573 = .ok (.aload_n 2, 1) := by decide +kernel
theorem dL_law_1574 : decode cL_law 1574 = .ok (.aload_n 0, 1) := by decide +kernel
theorem dL_law_1575 : decode cL_law 1575 = .ok (.iload 5, 2) := by decide +kernel
theorem dL_law_1577 : decode cL_law 1577 = .ok (.iconst 1, 1) := by decide +kernel
theorem dL_law_1578 : decode cL_law 1578 = .ok (.iadd, 1) := by decide +kernel
theorem dL_law_1579 : decode cL_law 1579 = .ok (.iaload, 1) := by decide +kernel
theorem dL_law_1580 : decode cL_law 1580 = .ok (.invokevirtual 253, 3) := by decide +kernel
theorem dL_law_1583 : decode cL_law 1583 = .ok (.istore 7, 2) := by decide +kernel
theorem dL_law_1585 : decode cL_law 1585 = .ok (.aload_n 2, 1) := by decide +kernel
theorem dL_law_1586 : decode cL_law 1586 = .ok (.invokevirtual 181, 3) := by decide +kernel
theorem dL_law_1589 : decode cL_law 1589 = .ok (.iload 6, 2) := by decide +kernel
theorem dL_law_1591 : decode cL_law 1591 = .ok (.if_icmp .eq 5, 3) := by decide +kernel
theorem dL_law_1594 : decode cL_law 1594 = .ok (.iconst 0, 1) := by decide +kernel
theorem dL_law_1595 : decode cL_law 1595 = .ok (.ireturn, 1) := by decide +kernel
theorem dL_law_1596 : decode cL_law 1596 = .ok (.iload 6, 2) := by decide +kernel
theorem dL_law_1598 : decode cL_law 1598 = .ok (.ifCond .ne 15, 3) := by decide +kernel
theorem dL_law_1601 : decode cL_law 1601 = .ok (.aload_n 3, 1) := by decide +kernel
theorem dL_law_1602 : decode cL_law 1602 = .ok (.iconst 0, 1) := by decide +kernel
theorem dL_law_1603 : decode cL_law 1603 = .ok (.laload, 1) := by decide +kernel
theorem dL_law_1604 : decode cL_law 1604 = .ok (.iload 7, 2) := by decide +kernel
theorem dL_law_1606 : decode cL_law 1606 = .ok (.i2l, 1) := by decide +kernel
theorem dL_law_1607 : decode cL_law 1607 = .ok (.lcmp, 1) := by decide +kernel
theorem dL_law_1608 : decode cL_law 1608 = .ok (.ifCond .eq 5, 3) := by decide +kernel
theorem dL_law_1611 : decode cL_law 1611 = .ok (.iconst 0, 1) := by decide +kernel
theorem dL_law_1612 : decode cL_law 1612 = .ok (.ireturn, 1) := by decide +kernel
theorem dL_law_1613 : decode cL_law 1613 = .ok (.goto 2024, 3) := by decide +kernel
theorem dL_law_1616 : decode cL_law 1616 = .ok (.aload_n 1, 1) := by decide +kernel
theorem dL_law_1617 : decode cL_law 1617 = .ok (.aload_n 0, 1) := by decide +kernel
theorem dL_law_1618 : decode cL_law 1618 = .ok (.iload 5, 2) := by decide +kernel
theorem dL_law_1620 : decode cL_law 1620 = .ok (.iconst 1, 1) := by decide +kernel
theorem dL_law_1621 : decode cL_law 1621 = .ok (.iadd, 1) := by decide +kernel
theorem dL_law_1622 : decode cL_law 1622 = .ok (.iaload, 1) := by decide +kernel
theorem dL_law_1623 : decode cL_law 1623 = .ok (.aload_n 0, 1) := by decide +kernel
theorem dL_law_1624 : decode cL_law 1624 = .ok (.iload 5, 2) := by decide +kernel
theorem dL_law_1626 : decode cL_law 1626 = .ok (.iconst 2, 1) := by decide +kernel
theorem dL_law_1627 : decode cL_law 1627 = .ok (.iadd, 1) := by decide +kernel
theorem dL_law_1628 : decode cL_law 1628 = .ok (.iaload, 1) := by decide +kernel
theorem dL_law_1629 : decode cL_law 1629 = .ok (.aload 4, 2) := by decide +kernel
theorem dL_law_1631 : decode cL_law 1631 = .ok (.invokestatic 254, 3) := by decide +kernel
theorem dL_law_1634 : decode cL_law 1634 = .ok (.istore 6, 2) := by decide +kernel
theorem dL_law_1636 : decode cL_law 1636 = .ok (.aload_n 2, 1) := by decide +kernel
theorem dL_law_1637 : decode cL_law 1637 = .ok (.aload_n 0, 1) := by decide +kernel
theorem dL_law_1638 : decode cL_law 1638 = .ok (.iload 5, 2) := by decide +kernel
theorem dL_law_1640 : decode cL_law 1640 = .ok (.iconst 1, 1) := by decide +kernel
theorem dL_law_1641 : decode cL_law 1641 = .ok (.iadd, 1) := by decide +kernel
theorem dL_law_1642 : decode cL_law 1642 = .ok (.iaload, 1) := by decide +kernel
theorem dL_law_1643 : decode cL_law 1643 = .ok (.aload_n 0, 1) := by decide +kernel
theorem dL_law_1644 : decode cL_law 1644 = .ok (.iload 5, 2) := by decide +kernel
theorem dL_law_1646 : decode cL_law 1646 = .ok (.iconst 2, 1) := by decide +kernel
theorem dL_law_1647 : decode cL_law 1647 = .ok (.iadd, 1) := by decide +kernel
theorem dL_law_1648 : decode cL_law 1648 = .ok (.iaload, 1) := by decide +kernel
theorem dL_law_1649 : decode cL_law 1649 = .ok (.invokevirtual 257, 3) := by decide +kernel
theorem dL_law_1652 : decode cL_law 1652 = .ok (.dstore 7, 2) := by decide +kernel
theorem dL_law_1654 : decode cL_law 1654 = .ok (.aload_n 2, 1) := by decide +kernel
theorem dL_law_1655 : decode cL_law 1655 = .ok (.invokevirtual 181, 3) := by decide +kernel
theorem dL_law_1658 : decode cL_law 1658 = .ok (.iload 6, 2) := by decide +kernel
theorem dL_law_1660 : decode cL_law 1660 = .ok (.if_icmp .eq 5, 3) := by decide +kernel
theorem dL_law_1663 : decode cL_law 1663 = .ok (.iconst 0, 1) := by decide +kernel
theorem dL_law_1664 : decode cL_law 1664 = .ok (.ireturn, 1) := by decide +kernel
theorem dL_law_1665 : decode cL_law 1665 = .ok (.iload 6, 2) := by decide +kernel
theorem dL_law_1667 : decode cL_law 1667 = .ok (.ifCond .ne 35, 3) := by decide +kernel
theorem dL_law_1670 : decode cL_law 1670 = .ok (.aload 4, 2) := by decide +kernel
theorem dL_law_1672 : decode cL_law 1672 = .ok (.iconst 0, 1) := by decide +kernel
theorem dL_law_1673 : decode cL_law 1673 = .ok (.daload, 1) := by decide +kernel
theorem dL_law_1674 : decode cL_law 1674 = .ok (.dload 7, 2) := by decide +kernel
theorem dL_law_1676 : decode cL_law 1676 = .ok (.dcmp .l, 1) := by decide +kernel
theorem dL_law_1677 : decode cL_law 1677 = .ok (.ifCond .eq 25, 3) := by decide +kernel
theorem dL_law_1680 : decode cL_law 1680 = .ok (.aload 4, 2) := by decide +kernel
theorem dL_law_1682 : decode cL_law 1682 = .ok (.iconst 0, 1) := by decide +kernel
theorem dL_law_1683 : decode cL_law 1683 = .ok (.daload, 1) := by decide +kernel
theorem dL_law_1684 : decode cL_law 1684 = .ok (.aload 4, 2) := by decide +kernel
theorem dL_law_1686 : decode cL_law 1686 = .ok (.iconst 0, 1) := by decide +kernel
theorem dL_law_1687 : decode cL_law 1687 = .ok (.daload, 1) := by decide +kernel
theorem dL_law_1688 : decode cL_law 1688 = .ok (.dcmp .l, 1) := by decide +kernel
theorem dL_law_1689 : decode cL_law 1689 = .ok (.ifCond .eq 11, 3) := by decide +kernel
theorem dL_law_1692 : decode cL_law 1692 = .ok (.dload 7, 2) := by decide +kernel
theorem dL_law_1694 : decode cL_law 1694 = .ok (.dload 7, 2) := by decide +kernel
theorem dL_law_1696 : decode cL_law 1696 = .ok (.dcmp .l, 1) := by decide +kernel
theorem dL_law_1697 : decode cL_law 1697 = .ok (.ifCond .ne 5, 3) := by decide +kernel
theorem dL_law_1700 : decode cL_law 1700 = .ok (.iconst 0, 1) := by decide +kernel
theorem dL_law_1701 : decode cL_law 1701 = .ok (.ireturn, 1) := by decide +kernel
theorem dL_law_1702 : decode cL_law 1702 = .ok (.goto 1935, 3) := by decide +kernel
theorem dL_law_1705 : decode cL_law 1705 = .ok (.aload_n 1, 1) := by decide +kernel
theorem dL_law_1706 : decode cL_law 1706 = .ok (.aload_n 0, 1) := by decide +kernel
theorem dL_law_1707 : decode cL_law 1707 = .ok (.iload 5, 2) := by decide +kernel
theorem dL_law_1709 : decode cL_law 1709 = .ok (.iconst 1, 1) := by decide +kernel
theorem dL_law_1710 : decode cL_law 1710 = .ok (.iadd, 1) := by decide +kernel
theorem dL_law_1711 : decode cL_law 1711 = .ok (.iaload, 1) := by decide +kernel
theorem dL_law_1712 : decode cL_law 1712 = .ok (.aload_n 0, 1) := by decide +kernel
theorem dL_law_1713 : decode cL_law 1713 = .ok (.iload 5, 2) := by decide +kernel
theorem dL_law_1715 : decode cL_law 1715 = .ok (.iconst 2, 1) := by decide +kernel
theorem dL_law_1716 : decode cL_law 1716 = .ok (.iadd, 1) := by decide +kernel
theorem dL_law_1717 : decode cL_law 1717 = .ok (.iaload, 1) := by decide +kernel
theorem dL_law_1718 : decode cL_law 1718 = .ok (.aload 4, 2) := by decide +kernel
theorem dL_law_1720 : decode cL_law 1720 = .ok (.invokestatic 258, 3) := by decide +kernel
theorem dL_law_1723 : decode cL_law 1723 = .ok (.istore 6, 2) := by decide +kernel
theorem dL_law_1725 : decode cL_law 1725 = .ok (.aload_n 2, 1) := by decide +kernel
theorem dL_law_1726 : decode cL_law 1726 = .ok (.aload_n 0, 1) := by decide +kernel
theorem dL_law_1727 : decode cL_law 1727 = .ok (.iload 5, 2) := by decide +kernel
theorem dL_law_1729 : decode cL_law 1729 = .ok (.iconst 1, 1) := by decide +kernel
theorem dL_law_1730 : decode cL_law 1730 = .ok (.iadd, 1) := by decide +kernel
theorem dL_law_1731 : decode cL_law 1731 = .ok (.iaload, 1) := by decide +kernel
theorem dL_law_1732 : decode cL_law 1732 = .ok (.aload_n 0, 1) := by decide +kernel
theorem dL_law_1733 : decode cL_law 1733 = .ok (.iload 5, 2) := by decide +kernel
theorem dL_law_1735 : decode cL_law 1735 = .ok (.iconst 2, 1) := by decide +kernel
theorem dL_law_1736 : decode cL_law 1736 = .ok (.iadd, 1) := by decide +kernel
theorem dL_law_1737 : decode cL_law 1737 = .ok (.iaload, 1) := by decide +kernel
theorem dL_law_1738 : decode cL_law 1738 = .ok (.invokevirtual 260, 3) := by decide +kernel
theorem dL_law_1741 : decode cL_law 1741 = .ok (.fstore 7, 2) := by decide +kernel
theorem dL_law_1743 : decode cL_law 1743 = .ok (.aload_n 2, 1) := by decide +kernel
theorem dL_law_1744 : decode cL_law 1744 = .ok (.invokevirtual 181, 3) := by decide +kernel
theorem dL_law_1747 : decode cL_law 1747 = .ok (.iload 6, 2) := by decide +kernel
theorem dL_law_1749 : decode cL_law 1749 = .ok (.if_icmp .eq 5, 3) := by decide +kernel
theorem dL_law_1752 : decode cL_law 1752 = .ok (.iconst 0, 1) := by decide +kernel
theorem dL_law_1753 : decode cL_law 1753 = .ok (.ireturn, 1) := by decide +kernel
theorem dL_law_1754 : decode cL_law 1754 = .ok (.iload 6, 2) := by decide +kernel
theorem dL_law_1756 : decode cL_law 1756 = .ok (.ifCond .ne 36, 3) := by decide +kernel
theorem dL_law_1759 : decode cL_law 1759 = .ok (.aload 4, 2) := by decide +kernel
theorem dL_law_1761 : decode cL_law 1761 = .ok (.iconst 0, 1) := by decide +kernel
theorem dL_law_1762 : decode cL_law 1762 = .ok (.daload, 1) := by decide +kernel
theorem dL_law_1763 : decode cL_law 1763 = .ok (.fload 7, 2) := by decide +kernel
theorem dL_law_1765 : decode cL_law 1765 = .ok (.f2d, 1) := by decide +kernel
theorem dL_law_1766 : decode cL_law 1766 = .ok (.dcmp .l, 1) := by decide +kernel
theorem dL_law_1767 : decode cL_law 1767 = .ok (.ifCond .eq 25, 3) := by decide +kernel
theorem dL_law_1770 : decode cL_law 1770 = .ok (.aload 4, 2) := by decide +kernel
theorem dL_law_1772 : decode cL_law 1772 = .ok (.iconst 0, 1) := by decide +kernel
theorem dL_law_1773 : decode cL_law 1773 = .ok (.daload, 1) := by decide +kernel
theorem dL_law_1774 : decode cL_law 1774 = .ok (.aload 4, 2) := by decide +kernel
theorem dL_law_1776 : decode cL_law 1776 = .ok (.iconst 0, 1) := by decide +kernel
theorem dL_law_1777 : decode cL_law 1777 = .ok (.daload, 1) := by decide +kernel
theorem dL_law_1778 : decode cL_law 1778 = .ok (.dcmp .l, 1) := by decide +kernel
theorem dL_law_1779 : decode cL_law 1779 = .ok (.ifCond .eq 11, 3) := by decide +kernel
theorem dL_law_1782 : decode cL_law 1782 = .ok (.fload 7, 2) := by decide +kernel
theorem dL_law_1784 : decode cL_law 1784 = .ok (.fload 7, 2) := by decide +kernel
theorem dL_law_1786 : decode cL_law 1786 = .ok (.fcmp .l, 1) := by decide +kernel
theorem dL_law_1787 : decode cL_law 1787 = .ok (.ifCond .ne 5, 3) := by decide +kernel
theorem dL_law_1790 : decode cL_law 1790 = .ok (.iconst 0, 1) := by decide +kernel
theorem dL_law_1791 : decode cL_law 1791 = .ok (.ireturn, 1) := by decide +kernel
theorem dL_law_1792 : decode cL_law 1792 = .ok (.goto 1845, 3) := by decide +kernel
theorem dL_law_1795 : decode cL_law 1795 = .ok (.aload_n 1, 1) := by decide +kernel
theorem dL_law_1796 : decode cL_law 1796 = .ok (.aload_n 0, 1) := by decide +kernel
theorem dL_law_1797 : decode cL_law 1797 = .ok (.iload 5, 2) := by decide +kernel
theorem dL_law_1799 : decode cL_law 1799 = .ok (.iconst 1, 1) := by decide +kernel
theorem dL_law_1800 : decode cL_law 1800 = .ok (.iadd, 1) := by decide +kernel
theorem dL_law_1801 : decode cL_law 1801 = .ok (.iaload, 1) := by decide +kernel
theorem dL_law_1802 : decode cL_law 1802 = .ok (.aload_n 3, 1) := by decide +kernel
theorem dL_law_1803 : decode cL_law 1803 = .ok (.invokestatic 261, 3) := by decide +kernel
theorem dL_law_1806 : decode cL_law 1806 = .ok (.istore 6, 2) := by decide +kernel
theorem dL_law_1808 : decode cL_law 1808 = .ok (.aload_n 2, 1) := by decide +kernel
theorem dL_law_1809 : decode cL_law 1809 = .ok (.aload_n 0, 1) := by decide +kernel
theorem dL_law_1810 : decode cL_law 1810 = .ok (.iload 5, 2) := by decide +kernel
theorem dL_law_1812 : decode cL_law 1812 = .ok (.iconst 1, 1) := by decide +kernel
theorem dL_law_1813 : decode cL_law 1813 = .ok (.iadd, 1) := by decide +kernel
theorem dL_law_1814 : decode cL_law 1814 = .ok (.iaload, 1) := by decide +kernel
theorem dL_law_1815 : decode cL_law 1815 = .ok (.invokevirtual 263, 3) := by decide +kernel
theorem dL_law_1818 : decode cL_law 1818 = .ok (.istore 7, 2) := by decide +kernel
theorem dL_law_1820 : decode cL_law 1820 = .ok (.aload_n 2, 1) := by decide +kernel
theorem dL_law_1821 : decode cL_law 1821 = .ok (.invokevirtual 181, 3) := by decide +kernel
theorem dL_law_1824 : decode cL_law 1824 = .ok (.iload 6, 2) := by decide +kernel
theorem dL_law_1826 : decode cL_law 1826 = .ok (.if_icmp .eq 5, 3) := by decide +kernel
theorem dL_law_1829 : decode cL_law 1829 = .ok (.iconst 0, 1) := by decide +kernel
theorem dL_law_1830 : decode cL_law 1830 = .ok (.ireturn, 1) := by decide +kernel
theorem dL_law_1831 : decode cL_law 1831 = .ok (.iload 6, 2) := by decide +kernel
theorem dL_law_1833 : decode cL_law 1833 = .ok (.ifCond .ne 15, 3) := by decide +kernel
theorem dL_law_1836 : decode cL_law 1836 = .ok (.aload_n 3, 1) := by decide +kernel
theorem dL_law_1837 : decode cL_law 1837 = .ok (.iconst 0, 1) := by decide +kernel
theorem dL_law_1838 : decode cL_law 1838 = .ok (.laload, 1) := by decide +kernel
theorem dL_law_1839 : decode cL_law 1839 = .ok (.iload 7, 2) := by decide +kernel
theorem dL_law_1841 : decode cL_law 1841 = .ok (.i2l, 1) := by decide +kernel
theorem dL_law_1842 : decode cL_law 1842 = .ok (.lcmp, 1) := by decide +kernel
theorem dL_law_1843 : decode cL_law 1843 = .ok (.ifCond .eq 5, 3) := by decide +kernel
theorem dL_law_1846 : decode cL_law 1846 = .ok (.iconst 0, 1) := by decide +kernel
theorem dL_law_1847 : decode cL_law 1847 = .ok (.ireturn, 1) := by decide +kernel
theorem dL_law_1848 : decode cL_law 1848 = .ok (.goto 1789, 3) := by decide +kernel
theorem dL_law_1851 : decode cL_law 1851 = .ok (.aload_n 1, 1) := by decide +kernel
theorem dL_law_1852 : decode cL_law 1852 = .ok (.aload_n 0, 1) := by decide +kernel
theorem dL_law_1853 : decode cL_law 1853 = .ok (.iload 5, 2) := by decide +kernel
theorem dL_law_1855 : decode cL_law 1855 = .ok (.iconst 1, 1) := by decide +kernel
theorem dL_law_1856 : decode cL_law 1856 = .ok (.iadd, 1) := by decide +kernel
theorem dL_law_1857 : decode cL_law 1857 = .ok (.iaload, 1) := by decide +kernel
theorem dL_law_1858 : decode cL_law 1858 = .ok (.aload_n 3, 1) := by decide +kernel
theorem dL_law_1859 : decode cL_law 1859 = .ok (.invokestatic 264, 3) := by decide +kernel
theorem dL_law_1862 : decode cL_law 1862 = .ok (.istore 6, 2) := by decide +kernel
theorem dL_law_1864 : decode cL_law 1864 = .ok (.aload_n 2, 1) := by decide +kernel
theorem dL_law_1865 : decode cL_law 1865 = .ok (.aload_n 0, 1) := by decide +kernel
theorem dL_law_1866 : decode cL_law 1866 = .ok (.iload 5, 2) := by decide +kernel
theorem dL_law_1868 : decode cL_law 1868 = .ok (.iconst 1, 1) := by decide +kernel
theorem dL_law_1869 : decode cL_law 1869 = .ok (.iadd, 1) := by decide +kernel
theorem dL_law_1870 : decode cL_law 1870 = .ok (.iaload, 1) := by decide +kernel
theorem dL_law_1871 : decode cL_law 1871 = .ok (.invokevirtual 266, 3) := by decide +kernel
theorem dL_law_1874 : decode cL_law 1874 = .ok (.istore 7, 2) := by decide +kernel
theorem dL_law_1876 : decode cL_law 1876 = .ok (.aload_n 2, 1) := by decide +kernel
theorem dL_law_1877 : decode cL_law 1877 = .ok (.invokevirtual 181, 3) := by decide +kernel
theorem dL_law_1880 : decode cL_law 1880 = .ok (.iload 6, 2) := by decide +kernel
theorem dL_law_1882 : decode cL_law 1882 = .ok (.if_icmp .eq 5, 3) := by decide +kernel
theorem dL_law_1885 : decode cL_law 1885 = .ok (.iconst 0, 1) := by decide +kernel
theorem dL_law_1886 : decode cL_law 1886 = .ok (.ireturn, 1) := by decide +kernel
theorem dL_law_1887 : decode cL_law 1887 = .ok (.iload 6, 2) := by decide +kernel
theorem dL_law_1889 : decode cL_law 1889 = .ok (.ifCond .ne 22, 3) := by decide +kernel
theorem dL_law_1892 : decode cL_law 1892 = .ok (.aload_n 3, 1) := by decide +kernel
theorem dL_law_1893 : decode cL_law 1893 = .ok (.iconst 0, 1) := by decide +kernel
theorem dL_law_1894 : decode cL_law 1894 = .ok (.laload, 1) := by decide +kernel
theorem dL_law_1895 : decode cL_law 1895 = .ok (.iload 7, 2) := by decide +kernel
theorem dL_law_1897 : decode cL_law 1897 = .ok (.ifCond .eq 7, 3) := by decide +kernel
theorem dL_law_1900 : decode cL_law 1900 = .ok (.lconst 1, 1) := by decide +kernel
theorem dL_law_1901 : decode cL_law 1901 = .ok (.goto 4, 3) := by decide +kernel
theorem dL_law_1904 : decode cL_law 1904 = .ok (.lconst 0, 1) := by decide +kernel
theorem dL_law_1905 : decode cL_law 1905 = .ok (.lcmp, 1) := by decide +kernel
theorem dL_law_1906 : decode cL_law 1906 = .ok (.ifCond .eq 5, 3) := by decide +kernel
theorem dL_law_1909 : decode cL_law 1909 = .ok (.iconst 0, 1) := by decide +kernel
theorem dL_law_1910 : decode cL_law 1910 = .ok (.ireturn, 1) := by decide +kernel
theorem dL_law_1911 : decode cL_law 1911 = .ok (.goto 1726, 3) := by decide +kernel
theorem dL_law_1914 : decode cL_law 1914 = .ok (.aload_n 1, 1) := by decide +kernel
theorem dL_law_1915 : decode cL_law 1915 = .ok (.aload_n 0, 1) := by decide +kernel
theorem dL_law_1916 : decode cL_law 1916 = .ok (.iload 5, 2) := by decide +kernel
theorem dL_law_1918 : decode cL_law 1918 = .ok (.iconst 1, 1) := by decide +kernel
theorem dL_law_1919 : decode cL_law 1919 = .ok (.iadd, 1) := by decide +kernel
theorem dL_law_1920 : decode cL_law 1920 = .ok (.iaload, 1) := by decide +kernel
theorem dL_law_1921 : decode cL_law 1921 = .ok (.aload_n 0, 1) := by decide +kernel
theorem dL_law_1922 : decode cL_law 1922 = .ok (.iload 5, 2) := by decide +kernel
theorem dL_law_1924 : decode cL_law 1924 = .ok (.iconst 2, 1) := by decide +kernel
theorem dL_law_1925 : decode cL_law 1925 = .ok (.iadd, 1) := by decide +kernel
theorem dL_law_1926 : decode cL_law 1926 = .ok (.iaload, 1) := by decide +kernel
theorem dL_law_1927 : decode cL_law 1927 = .ok (.aload_n 0, 1) := by decide +kernel
theorem dL_law_1928 : decode cL_law 1928 = .ok (.iload 5, 2) := by decide +kernel
theorem dL_law_1930 : decode cL_law 1930 = .ok (.iconst 3, 1) := by decide +kernel
theorem dL_law_1931 : decode cL_law 1931 = .ok (.iadd, 1) := by decide +kernel
theorem dL_law_1932 : decode cL_law 1932 = .ok (.iaload, 1) := by decide +kernel
theorem dL_law_1933 : decode cL_law 1933 = .ok (.aload_n 3, 1) := by decide +kernel
theorem dL_law_1934 : decode cL_law 1934 = .ok (.invokestatic 267, 3) := by decide +kernel
theorem dL_law_1937 : decode cL_law 1937 = .ok (.istore 6, 2) := by decide +kernel
theorem dL_law_1939 : decode cL_law 1939 = .ok (.aload_n 2, 1) := by decide +kernel
theorem dL_law_1940 : decode cL_law 1940 = .ok (.aload_n 0, 1) := by decide +kernel
theorem dL_law_1941 : decode cL_law 1941 = .ok (.iload 5, 2) := by decide +kernel
theorem dL_law_1943 : decode cL_law 1943 = .ok (.iconst 1, 1) := by decide +kernel
theorem dL_law_1944 : decode cL_law 1944 = .ok (.iadd, 1) := by decide +kernel
theorem dL_law_1945 : decode cL_law 1945 = .ok (.iaload, 1) := by decide +kernel
theorem dL_law_1946 : decode cL_law 1946 = .ok (.aload_n 0, 1) := by decide +kernel
theorem dL_law_1947 : decode cL_law 1947 = .ok (.iload 5, 2) := by decide +kernel
theorem dL_law_1949 : decode cL_law 1949 = .ok (.iconst 2, 1) := by decide +kernel
theorem dL_law_1950 : decode cL_law 1950 = .ok (.iadd, 1) := by decide +kernel
theorem dL_law_1951 : decode cL_law 1951 = .ok (.iaload, 1) := by decide +kernel
theorem dL_law_1952 : decode cL_law 1952 = .ok (.aload_n 0, 1) := by decide +kernel
theorem dL_law_1953 : decode cL_law 1953 = .ok (.iload 5, 2) := by decide +kernel
theorem dL_law_1955 : decode cL_law 1955 = .ok (.iconst 3, 1) := by decide +kernel
theorem dL_law_1956 : decode cL_law 1956 = .ok (.iadd, 1) := by decide +kernel
theorem dL_law_1957 : decode cL_law 1957 = .ok (.iaload, 1) := by decide +kernel
theorem dL_law_1958 : decode cL_law 1958 = .ok (.invokevirtual 269, 3) := by decide +kernel
theorem dL_law_1961 : decode cL_law 1961 = .ok (.istore 7, 2) := by decide +kernel
theorem dL_law_1963 : decode cL_law 1963 = .ok (.aload_n 2, 1) := by decide +kernel
theorem dL_law_1964 : decode cL_law 1964 = .ok (.invokevirtual 181, 3) := by decide +kernel
theorem dL_law_1967 : decode cL_law 1967 = .ok (.iload 6, 2) := by decide +kernel
theorem dL_law_1969 : decode cL_law 1969 = .ok (.if_icmp .eq 5, 3) := by decide +kernel
theorem dL_law_1972 : decode cL_law 1972 = .ok (.iconst 0, 1) := by decide +kernel
theorem dL_law_1973 : decode cL_law 1973 = .ok (.ireturn, 1) := by decide +kernel
theorem dL_law_1974 : decode cL_law 1974 = .ok (.iload 6, 2) := by decide +kernel
theorem dL_law_1976 : decode cL_law 1976 = .ok (.ifCond .ne 22, 3) := by decide +kernel
theorem dL_law_1979 : decode cL_law 1979 = .ok (.aload_n 3, 1) := by decide +kernel
theorem dL_law_1980 : decode cL_law 1980 = .ok (.iconst 0, 1) := by decide +kernel
theorem dL_law_1981 : decode cL_law 1981 = .ok (.laload, 1) := by decide +kernel
theorem dL_law_1982 : decode cL_law 1982 = .ok (.iload 7, 2) := by decide +kernel
theorem dL_law_1984 : decode cL_law 1984 = .ok (.ifCond .eq 7, 3) := by decide +kernel
theorem dL_law_1987 : decode cL_law 1987 = .ok (.lconst 1, 1) := by decide +kernel
theorem dL_law_1988 : decode cL_law 1988 = .ok (.goto 4, 3) := by decide +kernel
theorem dL_law_1991 : decode cL_law 1991 = .ok (.lconst 0, 1) := by decide +kernel
theorem dL_law_1992 : decode cL_law 1992 = .ok (.lcmp, 1) := by decide +kernel
theorem dL_law_1993 : decode cL_law 1993 = .ok (.ifCond .eq 5, 3) := by decide +kernel
theorem dL_law_1996 : decode cL_law 1996 = .ok (.iconst 0, 1) := by decide +kernel
theorem dL_law_1997 : decode cL_law 1997 = .ok (.ireturn, 1) := by decide +kernel
theorem dL_law_1998 : decode cL_law 1998 = .ok (.goto 1639, 3) := by decide +kernel
theorem dL_law_2001 : decode cL_law 2001 = .ok (.aload_n 1, 1) := by decide +kernel
theorem dL_law_2002 : decode cL_law 2002 = .ok (.aload_n 0, 1) := by decide +kernel
theorem dL_law_2003 : decode cL_law 2003 = .ok (.iload 5, 2) := by decide +kernel
theorem dL_law_2005 : decode cL_law 2005 = .ok (.iconst 1, 1) := by decide +kernel
theorem dL_law_2006 : decode cL_law 2006 = .ok (.iadd, 1) := by decide +kernel
theorem dL_law_2007 : decode cL_law 2007 = .ok (.iaload, 1) := by decide +kernel
theorem dL_law_2008 : decode cL_law 2008 = .ok (.aload_n 0, 1) := by decide +kernel
theorem dL_law_2009 : decode cL_law 2009 = .ok (.iload 5, 2) := by decide +kernel
theorem dL_law_2011 : decode cL_law 2011 = .ok (.iconst 2, 1) := by decide +kernel
theorem dL_law_2012 : decode cL_law 2012 = .ok (.iadd, 1) := by decide +kernel
theorem dL_law_2013 : decode cL_law 2013 = .ok (.iaload, 1) := by decide +kernel
theorem dL_law_2014 : decode cL_law 2014 = .ok (.aload_n 3, 1) := by decide +kernel
theorem dL_law_2015 : decode cL_law 2015 = .ok (.invokestatic 270, 3) := by decide +kernel
theorem dL_law_2018 : decode cL_law 2018 = .ok (.istore 6, 2) := by decide +kernel
theorem dL_law_2020 : decode cL_law 2020 = .ok (.aload_n 2, 1) := by decide +kernel
theorem dL_law_2021 : decode cL_law 2021 = .ok (.aload_n 0, 1) := by decide +kernel
theorem dL_law_2022 : decode cL_law 2022 = .ok (.iload 5, 2) := by decide +kernel
theorem dL_law_2024 : decode cL_law 2024 = .ok (.iconst 1, 1) := by decide +kernel
theorem dL_law_2025 : decode cL_law 2025 = .ok (.iadd, 1) := by decide +kernel
theorem dL_law_2026 : decode cL_law 2026 = .ok (.iaload, 1) := by decide +kernel
theorem dL_law_2027 : decode cL_law 2027 = .ok (.aload_n 0, 1) := by decide +kernel
theorem dL_law_2028 : decode cL_law 2028 = .ok (.iload 5, 2) := by decide +kernel
theorem dL_law_2030 : decode cL_law 2030 = .ok (.iconst 2, 1) := by decide +kernel
theorem dL_law_2031 : decode cL_law 2031 = .ok (.iadd, 1) := by decide +kernel
theorem dL_law_2032 : decode cL_law 2032 = .ok (.iaload, 1) := by decide +kernel
theorem dL_law_2033 : decode cL_law 2033 = .ok (.invokevirtual 272, 3) := by decide +kernel
theorem dL_law_2036 : decode cL_law 2036 = .ok (.istore 7, 2) := by decide +kernel
theorem dL_law_2038 : decode cL_law 2038 = .ok (.aload_n 2, 1) := by decide +kernel
theorem dL_law_2039 : decode cL_law 2039 = .ok (.invokevirtual 181, 3) := by decide +kernel
theorem dL_law_2042 : decode cL_law 2042 = .ok (.iload 6, 2) := by decide +kernel
theorem dL_law_2044 : decode cL_law 2044 = .ok (.if_icmp .eq 5, 3) := by decide +kernel
theorem dL_law_2047 : decode cL_law 2047 = .ok (.iconst 0, 1) := by decide +kernel
theorem dL_law_2048 : decode cL_law 2048 = .ok (.ireturn, 1) := by decide +kernel
theorem dL_law_2049 : decode cL_law 2049 = .ok (.iload 6, 2) := by decide +kernel
theorem dL_law_2051 : decode cL_law 2051 = .ok (.ifCond .ne 22, 3) := by decide +kernel
theorem dL_law_2054 : decode cL_law 2054 = .ok (.aload_n 3, 1) := by decide +kernel
theorem dL_law_2055 : decode cL_law 2055 = .ok (.iconst 0, 1) := by decide +kernel
theorem dL_law_2056 : decode cL_law 2056 = .ok (.laload, 1) := by decide +kernel
theorem dL_law_2057 : decode cL_law 2057 = .ok (.iload 7, 2) := by decide +kernel
theorem dL_law_2059 : decode cL_law 2059 = .ok (.ifCond .eq 7, 3) := by decide +kernel
theorem dL_law_2062 : decode cL_law 2062 = .ok (.lconst 1, 1) := by decide +kernel
theorem dL_law_2063 : decode cL_law 2063 = .ok (.goto 4, 3) := by decide +kernel
theorem dL_law_2066 : decode cL_law 2066 = .ok (.lconst 0, 1) := by decide +kernel
theorem dL_law_2067 : decode cL_law 2067 = .ok (.lcmp, 1) := by decide +kernel
theorem dL_law_2068 : decode cL_law 2068 = .ok (.ifCond .eq 5, 3) := by decide +kernel
theorem dL_law_2071 : decode cL_law 2071 = .ok (.iconst 0, 1) := by decide +kernel
theorem dL_law_2072 : decode cL_law 2072 = .ok (.ireturn, 1) := by decide +kernel
theorem dL_law_2073 : decode cL_law 2073 = .ok (.goto 1564, 3) := by decide +kernel
theorem dL_law_2076 : decode cL_law 2076 = .ok (.aload_n 1, 1) := by decide +kernel
theorem dL_law_2077 : decode cL_law 2077 = .ok (.aload_n 0, 1) := by decide +kernel
theorem dL_law_2078 : decode cL_law 2078 = .ok (.iload 5, 2) := by decide +kernel
theorem dL_law_2080 : decode cL_law 2080 = .ok (.iconst 1, 1) := by decide +kernel
theorem dL_law_2081 : decode cL_law 2081 = .ok (.iadd, 1) := by decide +kernel
theorem dL_law_2082 : decode cL_law 2082 = .ok (.iaload, 1) := by decide +kernel
theorem dL_law_2083 : decode cL_law 2083 = .ok (.aload_n 3, 1) := by decide +kernel
theorem dL_law_2084 : decode cL_law 2084 = .ok (.invokestatic 273, 3) := by decide +kernel
theorem dL_law_2087 : decode cL_law 2087 = .ok (.istore 6, 2) := by decide +kernel
theorem dL_law_2089 : decode cL_law 2089 = .ok (.aload_n 2, 1) := by decide +kernel
theorem dL_law_2090 : decode cL_law 2090 = .ok (.aload_n 0, 1) := by decide +kernel
theorem dL_law_2091 : decode cL_law 2091 = .ok (.iload 5, 2) := by decide +kernel
theorem dL_law_2093 : decode cL_law 2093 = .ok (.iconst 1, 1) := by decide +kernel
theorem dL_law_2094 : decode cL_law 2094 = .ok (.iadd, 1) := by decide +kernel
theorem dL_law_2095 : decode cL_law 2095 = .ok (.iaload, 1) := by decide +kernel
theorem dL_law_2096 : decode cL_law 2096 = .ok (.invokevirtual 275, 3) := by decide +kernel
theorem dL_law_2099 : decode cL_law 2099 = .ok (.istore 7, 2) := by decide +kernel
theorem dL_law_2101 : decode cL_law 2101 = .ok (.aload_n 2, 1) := by decide +kernel
theorem dL_law_2102 : decode cL_law 2102 = .ok (.invokevirtual 181, 3) := by decide +kernel
theorem dL_law_2105 : decode cL_law 2105 = .ok (.iload 6, 2) := by decide +kernel
theorem dL_law_2107 : decode cL_law 2107 = .ok (.if_icmp .eq 5, 3) := by decide +kernel
theorem dL_law_2110 : decode cL_law 2110 = .ok (.iconst 0, 1) := by decide +kernel
theorem dL_law_2111 : decode cL_law 2111 = .ok (.ireturn, 1) := by decide +kernel
theorem dL_law_2112 : decode cL_law 2112 = .ok (.iload 6, 2) := by decide +kernel
theorem dL_law_2114 : decode cL_law 2114 = .ok (.ifCond .ne 15, 3) := by decide +kernel
theorem dL_law_2117 : decode cL_law 2117 = .ok (.aload_n 3, 1) := by decide +kernel
theorem dL_law_2118 : decode cL_law 2118 = .ok (.iconst 0, 1) := by decide +kernel
theorem dL_law_2119 : decode cL_law 2119 = .ok (.laload, 1) := by decide +kernel
theorem dL_law_2120 : decode cL_law 2120 = .ok (.iload 7, 2) := by decide +kernel
theorem dL_law_2122 : decode cL_law 2122 = .ok (.i2l, 1) := by decide +kernel
theorem dL_law_2123 : decode cL_law 2123 = .ok (.lcmp, 1) := by decide +kernel
theorem dL_law_2124 : decode cL_law 2124 = .ok (.ifCond .eq 5, 3) := by decide +kernel
theorem dL_law_2127 : decode cL_law 2127 = .ok (.iconst 0, 1) := by decide +kernel
theorem dL_law_2128 : decode cL_law 2128 = .ok (.ireturn, 1) := by decide +kernel
theorem dL_law_2129 : decode cL_law 2129 = .ok (.goto 1508, 3) := by decide +kernel
theorem dL_law_2132 : decode cL_law 2132 = .ok (.aload_n 1, 1) := by decide +kernel
theorem dL_law_2133 : decode cL_law 2133 = .ok (.aload_n 0, 1) := by decide +kernel
theorem dL_law_2134 : decode cL_law 2134 = .ok (.iload 5, 2) := by decide +kernel
theorem dL_law_2136 : decode cL_law 2136 = .ok (.iconst 1, 1) := by decide +kernel
theorem dL_law_2137 : decode cL_law 2137 = .ok (.iadd, 1) := by decide +kernel
theorem dL_law_2138 : decode cL_law 2138 = .ok (.iaload, 1) := by decide +kernel
theorem dL_law_2139 : decode cL_law 2139 = .ok (.aload_n 3, 1) := by decide +kernel
theorem dL_law_2140 : decode cL_law 2140 = .ok (.invokestatic 276, 3) := by decide +kernel
theorem dL_law_2143 : decode cL_law 2143 = .ok (.istore 6, 2) := by decide +kernel
theorem dL_law_2145 : decode cL_law 2145 = .ok (.aload_n 2, 1) := by decide +kernel
theorem dL_law_2146 : decode cL_law 2146 = .ok (.aload_n 0, 1) := by decide +kernel
theorem dL_law_2147 : decode cL_law 2147 = .ok (.iload 5, 2) := by decide +kernel
theorem dL_law_2149 : decode cL_law 2149 = .ok (.iconst 1, 1) := by decide +kernel
theorem dL_law_2150 : decode cL_law 2150 = .ok (.iadd, 1) := by decide +kernel
theorem dL_law_2151 : decode cL_law 2151 = .ok (.iaload, 1) := by decide +kernel
theorem dL_law_2152 : decode cL_law 2152 = .ok (.invokevirtual 278, 3) := by decide +kernel
theorem dL_law_2155 : decode cL_law 2155 = .ok (.istore 7, 2) := by decide +kernel
theorem dL_law_2157 : decode cL_law 2157 = .ok (.aload_n 2, 1) := by decide +kernel
theorem dL_law_2158 : decode cL_law 2158 = .ok (.invokevirtual 181, 3) := by decide +kernel
theorem dL_law_2161 : decode cL_law 2161 = .ok (.iload 6, 2) := by decide +kernel
theorem dL_law_2163 : decode cL_law 2163 = .ok (.if_icmp .eq 5, 3) := by decide +kernel
theorem dL_law_2166 : decode cL_law 2166 = .ok (.iconst 0, 1) := by decide +kernel
theorem dL_law_2167 : decode cL_law 2167 = .ok (.ireturn, 1) := by decide +kernel
theorem dL_law_2168 : decode cL_law 2168 = .ok (.iload 6, 2) := by decide +kernel
theorem dL_law_2170 : decode cL_law 2170 = .ok (.ifCond .ne 15, 3) := by decide +kernel
theorem dL_law_2173 : decode cL_law 2173 = .ok (.aload_n 3, 1) := by decide +kernel
theorem dL_law_2174 : decode cL_law 2174 = .ok (.iconst 0, 1) := by decide +kernel
theorem dL_law_2175 : decode cL_law 2175 = .ok (.laload, 1) := by decide +kernel
theorem dL_law_2176 : decode cL_law 2176 = .ok (.iload 7, 2) := by decide +kernel
theorem dL_law_2178 : decode cL_law 2178 = .ok (.i2l, 1) := by decide +kernel
theorem dL_law_2179 : decode cL_law 2179 = .ok (.lcmp, 1) := by decide +kernel
theorem dL_law_2180 : decode cL_law 2180 = .ok (.ifCond .eq 5, 3) := by decide +kernel
theorem dL_law_2183 : decode cL_law 2183 = .ok (.iconst 0, 1) := by decide +kernel
theorem dL_law_2184 : decode cL_law 2184 = .ok (.ireturn, 1) := by decide +kernel
theorem dL_law_2185 : decode cL_law 2185 = .ok (.goto 1452, 3) := by decide +kernel
theorem dL_law_2188 : decode cL_law 2188 = .ok (.aload_n 1, 1) := by decide +kernel
theorem dL_law_2189 : decode cL_law 2189 = .ok (.aload_n 0, 1) := by decide +kernel
theorem dL_law_2190 : decode cL_law 2190 = .ok (.iload 5, 2) := by decide +kernel
theorem dL_law_2192 : decode cL_law 2192 = .ok (.iconst 1, 1) := by decide +kernel
theorem dL_law_2193 : decode cL_law 2193 = .ok (.iadd, 1) := by decide +kernel
theorem dL_law_2194 : decode cL_law 2194 = .ok (.iaload, 1) := by decide +kernel
theorem dL_law_2195 : decode cL_law 2195 = .ok (.aload_n 3, 1) := by decide +kernel
theorem dL_law_2196 : decode cL_law 2196 = .ok (.invokestatic 279, 3) := by decide +kernel
theorem dL_law_2199 : decode cL_law 2199 = .ok (.istore 6, 2) := by decide +kernel
theorem dL_law_2201 : decode cL_law 2201 = .ok (.aload_n 2, 1) := by decide +kernel
theorem dL_law_2202 : decode cL_law 2202 = .ok (.aload_n 0, 1) := by decide +kernel
theorem dL_law_2203 : decode cL_law 2203 = .ok (.iload 5, 2) := by decide +kernel
theorem dL_law_2205 : decode cL_law 2205 = .ok (.iconst 1, 1) := by decide +kernel
theorem dL_law_2206 : decode cL_law 2206 = .ok (.iadd, 1) := by decide +kernel
theorem dL_law_2207 : decode cL_law 2207 = .ok (.iaload, 1) := by decide +kernel
theorem dL_law_2208 : decode cL_law 2208 = .ok (.invokevirtual 281, 3) := by decide +kernel
theorem dL_law_2211 : decode cL_law 2211 = .ok (.istore 7, 2) := by decide +kernel
theorem dL_law_2213 : decode cL_law 2213 = .ok (.aload_n 2, 1) := by decide +kernel
theorem dL_law_2214 : decode cL_law 2214 = .ok (.invokevirtual 181, 3) := by decide +kernel
theorem dL_law_2217 : decode cL_law 2217 = .ok (.iload 6, 2) := by decide +kernel
theorem dL_law_2219 : decode cL_law 2219 = .ok (.if_icmp .eq 5, 3) := by decide +kernel
theorem dL_law_2222 : decode cL_law 2222 = .ok (.iconst 0, 1) := by decide +kernel
theorem dL_law_2223 : decode cL_law 2223 = .ok (.ireturn, 1) := by decide +kernel
theorem dL_law_2224 : decode cL_law 2224 = .ok (.iload 6, 2) := by decide +kernel
theorem dL_law_2226 : decode cL_law 2226 = .ok (.ifCond .ne 15, 3) := by decide +kernel
theorem dL_law_2229 : decode cL_law 2229 = .ok (.aload_n 3, 1) := by decide +kernel
theorem dL_law_2230 : decode cL_law 2230 = .ok (.iconst 0, 1) := by decide +kernel
theorem dL_law_2231 : decode cL_law 2231 = .ok (.laload, 1) := by decide +kernel
theorem dL_law_2232 : decode cL_law 2232 = .ok (.iload 7, 2) := by decide +kernel
theorem dL_law_2234 : decode cL_law 2234 = .ok (.i2l, 1) := by decide +kernel
theorem dL_law_2235 : decode cL_law 2235 = .ok (.lcmp, 1) := by decide +kernel
theorem dL_law_2236 : decode cL_law 2236 = .ok (.ifCond .eq 5, 3) := by decide +kernel
theorem dL_law_2239 : decode cL_law 2239 = .ok (.iconst 0, 1) := by decide +kernel
theorem dL_law_2240 : decode cL_law 2240 = .ok (.ireturn, 1) := by decide +kernel
theorem dL_law_2241 : decode cL_law 2241 = .ok (.goto 1396, 3) := by decide +kernel
theorem dL_law_2244 : decode cL_law 2244 = .ok (.aload_n 1, 1) := by decide +kernel
theorem dL_law_2245 : decode cL_law 2245 = .ok (.aload_n 0, 1) := by decide +kernel
theorem dL_law_2246 : decode cL_law 2246 = .ok (.iload 5, 2) := by decide +kernel
theorem dL_law_2248 : decode cL_law 2248 = .ok (.iconst 1, 1) := by decide +kernel
theorem dL_law_2249 : decode cL_law 2249 = .ok (.iadd, 1) := by decide +kernel
theorem dL_law_2250 : decode cL_law 2250 = .ok (.iaload, 1) := by decide +kernel
theorem dL_law_2251 : decode cL_law 2251 = .ok (.aload_n 3, 1) := by decide +kernel
theorem dL_law_2252 : decode cL_law 2252 = .ok (.invokestatic 282, 3) := by decide +kernel
theorem dL_law_2255 : decode cL_law 2255 = .ok (.istore 6, 2) := by decide +kernel
theorem dL_law_2257 : decode cL_law 2257 = .ok (.aload_n 2, 1) := by decide +kernel
theorem dL_law_2258 : decode cL_law 2258 = .ok (.aload_n 0, 1) := by decide +kernel
theorem dL_law_2259 : decode cL_law 2259 = .ok (.iload 5, 2) := by decide +kernel
theorem dL_law_2261 : decode cL_law 2261 = .ok (.iconst 1, 1) := by decide +kernel
theorem dL_law_2262 : decode cL_law 2262 = .ok (.iadd, 1) := by decide +kernel
theorem dL_law_2263 : decode cL_law 2263 = .ok (.iaload, 1) := by decide +kernel
theorem dL_law_2264 : decode cL_law 2264 = .ok (.invokevirtual 284, 3) := by decide +kernel
theorem dL_law_2267 : decode cL_law 2267 = .ok (.istore 7, 2) := by decide +kernel
theorem dL_law_2269 : decode cL_law 2269 = .ok (.aload_n 2, 1) := by decide +kernel
theorem dL_law_2270 : decode cL_law 2270 = .ok (.invokevirtual 181, 3) := by decide +kernel
theorem dL_law_2273 : decode cL_law 2273 = .ok (.iload 6, 2) := by decide +kernel
theorem dL_law_2275 : decode cL_law 2275 = .ok (.if_icmp .eq 5, 3) := by decide +kernel
theorem dL_law_2278 : decode cL_law 2278 = .ok (.iconst 0, 1) := by decide +kernel
theorem dL_law_2279 : decode cL_law 2279 = .ok (.ireturn, 1) := by decide +kernel
theorem dL_law_2280 : decode cL_law 2280 = .ok (.iload 6, 2) := by decide +kernel
theorem dL_law_2282 : decode cL_law 2282 = .ok (.ifCond .ne 15, 3) := by decide +kernel
theorem dL_law_2285 : decode cL_law 2285 = .ok (.aload_n 3, 1) := by decide +kernel
theorem dL_law_2286 : decode cL_law 2286 = .ok (.iconst 0, 1) := by decide +kernel
theorem dL_law_2287 : decode cL_law 2287 = .ok (.laload, 1) := by decide +kernel
theorem dL_law_2288 : decode cL_law 2288 = .ok (.iload 7, 2) := by decide +kernel
theorem dL_law_2290 : decode cL_law 2290 = .ok (.i2l, 1) := by decide +kernel
theorem dL_law_2291 : decode cL_law 2291 = .ok (.lcmp, 1) := by decide +kernel
theorem dL_law_2292 : decode cL_law 2292 = .ok (.ifCond .eq 5, 3) := by decide +kernel
theorem dL_law_2295 : decode cL_law 2295 = .ok (.iconst 0, 1) := by decide +kernel
theorem dL_law_2296 : decode cL_law 2296 = .ok (.ireturn, 1) := by decide +kernel
theorem dL_law_2297 : decode cL_law 2297 = .ok (.goto 1340, 3) := by decide +kernel
theorem dL_law_2300 : decode cL_law 2300 = .ok (.aload_n 1, 1) := by decide +kernel
theorem dL_law_2301 : decode cL_law 2301 = .ok (.aload_n 0, 1) := by decide +kernel
theorem dL_law_2302 : decode cL_law 2302 = .ok (.iload 5, 2) := by decide +kernel
theorem dL_law_2304 : decode cL_law 2304 = .ok (.iconst 1, 1) := by decide +kernel
theorem dL_law_2305 : decode cL_law 2305 = .ok (.iadd, 1) := by decide +kernel
theorem dL_law_2306 : decode cL_law 2306 = .ok (.iaload, 1) := by decide +kernel
theorem dL_law_2307 : decode cL_law 2307 = .ok (.aload_n 0, 1) := by decide +kernel
theorem dL_law_2308 : decode cL_law 2308 = .ok (.iload 5, 2) := by decide +kernel
theorem dL_law_2310 : decode cL_law 2310 = .ok (.iconst 2, 1) := by decide +kernel
theorem dL_law_2311 : decode cL_law 2311 = .ok (.iadd, 1) := by decide +kernel
theorem dL_law_2312 : decode cL_law 2312 = .ok (.iaload, 1) := by decide +kernel
theorem dL_law_2313 : decode cL_law 2313 = .ok (.aload_n 3, 1) := by decide +kernel
theorem dL_law_2314 : decode cL_law 2314 = .ok (.invokestatic 285, 3) := by decide +kernel
theorem dL_law_2317 : decode cL_law 2317 = .ok (.istore 6, 2) := by decide +kernel
theorem dL_law_2319 : decode cL_law 2319 = .ok (.aload_n 2, 1) := by decide +kernel
theorem dL_law_2320 : decode cL_law 2320 = .ok (.aload_n 0, 1) := by decide +kernel
theorem dL_law_2321 : decode cL_law 2321 = .ok (.iload 5, 2) := by decide +kernel
theorem dL_law_2323 : decode cL_law 2323 = .ok (.iconst 1, 1) := by decide +kernel
theorem dL_law_2324 : decode cL_law 2324 = .ok (.iadd, 1) := by decide +kernel
theorem dL_law_2325 : decode cL_law 2325 = .ok (.iaload, 1) := by decide +kernel
theorem dL_law_2326 : decode cL_law 2326 = .ok (.aload_n 0, 1) := by decide +kernel
theorem dL_law_2327 : decode cL_law 2327 = .ok (.iload 5, 2) := by decide +kernel
theorem dL_law_2329 : decode cL_law 2329 = .ok (.iconst 2, 1) := by decide +kernel
theorem dL_law_2330 : decode cL_law 2330 = .ok (.iadd, 1) := by decide +kernel
theorem dL_law_2331 : decode cL_law 2331 = .ok (.iaload, 1) := by decide +kernel
theorem dL_law_2332 : decode cL_law 2332 = .ok (.invokevirtual 287, 3) := by decide +kernel
theorem dL_law_2335 : decode cL_law 2335 = .ok (.istore 7, 2) := by decide +kernel
theorem dL_law_2337 : decode cL_law 2337 = .ok (.aload_n 2, 1) := by decide +kernel
theorem dL_law_2338 : decode cL_law 2338 = .ok (.invokevirtual 181, 3) := by decide +kernel
theorem dL_law_2341 : decode cL_law 2341 = .ok (.iload 6, 2) := by decide +kernel
theorem dL_law_2343 : decode cL_law 2343 = .ok (.if_icmp .eq 5, 3) := by decide +kernel
theorem dL_law_2346 : decode cL_law 2346 = .ok (.iconst 0, 1) := by decide +kernel
theorem dL_law_2347 : decode cL_law 2347 = .ok (.ireturn, 1) := by decide +kernel
theorem dL_law_2348 : decode cL_law 2348 = .ok (.iload 6, 2) := by decide +kernel
theorem dL_law_2350 : decode cL_law 2350 = .ok (.ifCond .ne 15, 3) := by decide +kernel
theorem dL_law_2353 : decode cL_law 2353 = .ok (.aload_n 3, 1) := by decide +kernel
theorem dL_law_2354 : decode cL_law 2354 = .ok (.iconst 0, 1) := by decide +kernel
theorem dL_law_2355 : decode cL_law 2355 = .ok (.laload, 1) := by decide +kernel
theorem dL_law_2356 : decode cL_law 2356 = .ok (.iload 7, 2) := by decide +kernel
theorem dL_law_2358 : decode cL_law 2358 = .ok (.i2l, 1) := by decide +kernel
theorem dL_law_2359 : decode cL_law 2359 = .ok (.lcmp, 1) := by decide +kernel
theorem dL_law_2360 : decode cL_law 2360 = .ok (.ifCond .eq 5, 3) := by decide +kernel
theorem dL_law_2363 : decode cL_law 2363 = .ok (.iconst 0, 1) := by decide +kernel
theorem dL_law_2364 : decode cL_law 2364 = .ok (.ireturn, 1) := by decide +kernel
theorem dL_law_2365 : decode cL_law 2365 = .ok (.goto 1272, 3) := by decide +kernel
theorem dL_law_2368 : decode cL_law 2368 = .ok (.aload_n 1, 1) := by decide +kernel
theorem dL_law_2369 : decode cL_law 2369 = .ok (.aload_n 0, 1) := by decide +kernel
theorem dL_law_2370 : decode cL_law 2370 = .ok (.iload 5, 2) := by decide +kernel
theorem dL_law_2372 : decode cL_law 2372 = .ok (.iconst 1, 1) := by decide +kernel
theorem dL_law_2373 : decode cL_law 2373 = .ok (.iadd, 1) := by decide +kernel
theorem dL_law_2374 : decode cL_law 2374 = .ok (.iaload, 1) := by decide +kernel
theorem dL_law_2375 : decode cL_law 2375 = .ok (.aload_n 0, 1) := by decide +kernel
theorem dL_law_2376 : decode cL_law 2376 = .ok (.iload 5, 2) := by decide +kernel
theorem dL_law_2378 : decode cL_law 2378 = .ok (.iconst 2, 1) := by decide +kernel
theorem dL_law_2379 : decode cL_law 2379 = .ok (.iadd, 1) := by decide +kernel
theorem dL_law_2380 : decode cL_law 2380 = .ok (.iaload, 1) := by decide +kernel
theorem dL_law_2381 : decode cL_law 2381 = .ok (.aload_n 0, 1) := by decide +kernel
theorem dL_law_2382 : decode cL_law 2382 = .ok (.iload 5, 2) := by decide +kernel
theorem dL_law_2384 : decode cL_law 2384 = .ok (.iconst 3, 1) := by decide +kernel
theorem dL_law_2385 : decode cL_law 2385 = .ok (.iadd, 1) := by decide +kernel
theorem dL_law_2386 : decode cL_law 2386 = .ok (.iaload, 1) := by decide +kernel
theorem dL_law_2387 : decode cL_law 2387 = .ok (.aload_n 3, 1) := by decide +kernel
theorem dL_law_2388 : decode cL_law 2388 = .ok (.invokestatic 288, 3) := by decide +kernel
theorem dL_law_2391 : decode cL_law 2391 = .ok (.istore 6, 2) := by decide +kernel
theorem dL_law_2393 : decode cL_law 2393 = .ok (.aload_n 2, 1) := by decide +kernel
theorem dL_law_2394 : decode cL_law 2394 = .ok (.aload_n 0, 1) := by decide +kernel
theorem dL_law_2395 : decode cL_law 2395 = .ok (.iload 5, 2) := by decide +kernel
theorem dL_law_2397 : decode cL_law 2397 = .ok (.iconst 1, 1) := by decide +kernel
theorem dL_law_2398 : decode cL_law 2398 = .ok (.iadd, 1) := by decide +kernel
theorem dL_law_2399 : decode cL_law 2399 = .ok (.iaload, 1) := by decide +kernel
theorem dL_law_2400 : decode cL_law 2400 = .ok (.aload_n 0, 1) := by decide +kernel
theorem dL_law_2401 : decode cL_law 2401 = .ok (.iload 5, 2) := by decide +kernel
theorem dL_law_2403 : decode cL_law 2403 = .ok (.iconst 2, 1) := by decide +kernel
theorem dL_law_2404 : decode cL_law 2404 = .ok (.iadd, 1) := by decide +kernel
theorem dL_law_2405 : decode cL_law 2405 = .ok (.iaload, 1) := by decide +kernel
theorem dL_law_2406 : decode cL_law 2406 = .ok (.aload_n 0, 1) := by decide +kernel
theorem dL_law_2407 : decode cL_law 2407 = .ok (.iload 5, 2) := by decide +kernel
theorem dL_law_2409 : decode cL_law 2409 = .ok (.iconst 3, 1) := by decide +kernel
theorem dL_law_2410 : decode cL_law 2410 = .ok (.iadd, 1) := by decide +kernel
theorem dL_law_2411 : decode cL_law 2411 = .ok (.iaload, 1) := by decide +kernel
theorem dL_law_2412 : decode cL_law 2412 = .ok (.invokevirtual 290, 3) := by decide +kernel
theorem dL_law_2415 : decode cL_law 2415 = .ok (.istore 7, 2) := by decide +kernel
theorem dL_law_2417 : decode cL_law 2417 = .ok (.aload_n 2, 1) := by decide +kernel
theorem dL_law_2418 : decode cL_law 2418 = .ok (.invokevirtual 181, 3) := by decide +kernel
theorem dL_law_2421 : decode cL_law 2421 = .ok (.iload 6, 2) := by decide +kernel
theorem dL_law_2423 : decode cL_law 2423 = .ok (.if_icmp .eq 5, 3) := by decide +kernel
theorem dL_law_2426 : decode cL_law 2426 = .ok (.iconst 0, 1) := by decide +kernel
theorem dL_law_2427 : decode cL_law 2427 = .ok (.ireturn, 1) := by decide +kernel
theorem dL_law_2428 : decode cL_law 2428 = .ok (.iload 6, 2) := by decide +kernel
theorem dL_law_2430 : decode cL_law 2430 = .ok (.ifCond .ne 15, 3) := by decide +kernel
theorem dL_law_2433 : decode cL_law 2433 = .ok (.aload_n 3, 1) := by decide +kernel
theorem dL_law_2434 : decode cL_law 2434 = .ok (.iconst 0, 1) := by decide +kernel
theorem dL_law_2435 : decode cL_law 2435 = .ok (.laload, 1) := by decide +kernel
theorem dL_law_2436 : decode cL_law 2436 = .ok (.iload 7, 2) := by decide +kernel
theorem dL_law_2438 : decode cL_law 2438 = .ok (.i2l, 1) := by decide +kernel
theorem dL_law_2439 : decode cL_law 2439 = .ok (.lcmp, 1) := by decide +kernel
theorem dL_law_2440 : decode cL_law 2440 = .ok (.ifCond .eq 5, 3) := by decide +kernel
theorem dL_law_2443 : decode cL_law 2443 = .ok (.iconst 0, 1) := by decide +kernel
theorem dL_law_2444 : decode cL_law 2444 = .ok (.ireturn, 1) := by decide +kernel
theorem dL_law_2445 : decode cL_law 2445 = .ok (.goto 1192, 3) := by decide +kernel
theorem dL_law_2448 : decode cL_law 2448 = .ok (.aload_n 1, 1) := by decide +kernel
theorem dL_law_2449 : decode cL_law 2449 = .ok (.aload_n 0, 1) := by decide +kernel
theorem dL_law_2450 : decode cL_law 2450 = .ok (.iload 5, 2) := by decide +kernel
theorem dL_law_2452 : decode cL_law 2452 = .ok (.iconst 1, 1) := by decide +kernel
theorem dL_law_2453 : decode cL_law 2453 = .ok (.iadd, 1) := by decide +kernel
theorem dL_law_2454 : decode cL_law 2454 = .ok (.iaload, 1) := by decide +kernel
theorem dL_law_2455 : decode cL_law 2455 = .ok (.aload_n 0, 1) := by decide +kernel
theorem dL_law_2456 : decode cL_law 2456 = .ok (.iload 5, 2) := by decide +kernel
theorem dL_law_2458 : decode cL_law 2458 = .ok (.iconst 2, 1) := by decide +kernel
theorem dL_law_2459 : decode cL_law 2459 = .ok (.iadd, 1) := by decide +kernel
theorem dL_law_2460 : decode cL_law 2460 = .ok (.iaload, 1) := by decide +kernel
theorem dL_law_2461 : decode cL_law 2461 = .ok (.aload_n 3, 1) := by decide +kernel
theorem dL_law_2462 : decode cL_law 2462 = .ok (.invokestatic 291, 3) := by decide +kernel
theorem dL_law_2465 : decode cL_law 2465 = .ok (.istore 6, 2) := by decide +kernel
theorem dL_law_2467 : decode cL_law 2467 = .ok (.aload_n 2, 1) := by decide +kernel
theorem dL_law_2468 : decode cL_law 2468 = .ok (.aload_n 0, 1) := by decide +kernel
theorem dL_law_2469 : decode cL_law 2469 = .ok (.iload 5, 2) := by decide +kernel
theorem dL_law_2471 : decode cL_law 2471 = .ok (.iconst 1, 1) := by decide +kernel
theorem dL_law_2472 : decode cL_law 2472 = .ok (.iadd, 1) := by decide +kernel
theorem dL_law_2473 : decode cL_law 2473 = .ok (.iaload, 1) := by decide +kernel
theorem dL_law_2474 : decode cL_law 2474 = .ok (.aload_n 0, 1) := by decide +kernel
theorem dL_law_2475 : decode cL_law 2475 = .ok (.iload 5, 2) := by decide +kernel
theorem dL_law_2477 : decode cL_law 2477 = .ok (.iconst 2, 1) := by decide +kernel
theorem dL_law_2478 : decode cL_law 2478 = .ok (.iadd, 1) := by decide +kernel
theorem dL_law_2479 : decode cL_law 2479 = .ok (.iaload, 1) := by decide +kernel
theorem dL_law_2480 : decode cL_law 2480 = .ok (.invokevirtual 293, 3) := by decide +kernel
theorem dL_law_2483 : decode cL_law 2483 = .ok (.istore 7, 2) := by decide +kernel
theorem dL_law_2485 : decode cL_law 2485 = .ok (.aload_n 2, 1) := by decide +kernel
theorem dL_law_2486 : decode cL_law 2486 = .ok (.invokevirtual 181, 3) := by decide +kernel
theorem dL_law_2489 : decode cL_law 2489 = .ok (.iload 6, 2) := by decide +kernel
theorem dL_law_2491 : decode cL_law 2491 = .ok (.if_icmp .eq 5, 3) := by decide +kernel
theorem dL_law_2494 : decode cL_law 2494 = .ok (.iconst 0, 1) := by decide +kernel
theorem dL_law_2495 : decode cL_law 2495 = .ok (.ireturn, 1) := by decide +kernel
theorem dL_law_2496 : decode cL_law 2496 = .ok (.iload 6, 2) := by decide +kernel
theorem dL_law_2498 : decode cL_law 2498 = .ok (.ifCond .ne 15, 3) := by decide +kernel
theorem dL_law_2501 : decode cL_law 2501 = .ok (.aload_n 3, 1) := by decide +kernel
theorem dL_law_2502 : decode cL_law 2502 = .ok (.iconst 0, 1) := by decide +kernel
theorem dL_law_2503 : decode cL_law 2503 = .ok (.laload, 1) := by decide +kernel
theorem dL_law_2504 : decode cL_law 2504 = .ok (.iload 7, 2) := by decide +kernel
theorem dL_law_2506 : decode cL_law 2506 = .ok (.i2l, 1) := by decide +kernel
theorem dL_law_2507 : decode cL_law 2507 = .ok (.lcmp, 1) := by decide +kernel
theorem dL_law_2508 : decode cL_law 2508 = .ok (.ifCond .eq 5, 3) := by decide +kernel
theorem dL_law_2511 : decode cL_law 2511 = .ok (.iconst 0, 1) := by decide +kernel
theorem dL_law_2512 : decode cL_law 2512 = .ok (.ireturn, 1) := by decide +kernel
theorem dL_law_2513 : decode cL_law 2513 = .ok (.goto 1124, 3) := by decide +kernel
theorem dL_law_2516 : decode cL_law 2516 = .ok (.aload_n 1, 1) := by decide +kernel
theorem dL_law_2517 : decode cL_law 2517 = .ok (.aload_n 0, 1) := by decide +kernel
theorem dL_law_2518 : decode cL_law 2518 = .ok (.iload 5, 2) := by decide +kernel
theorem dL_law_2520 : decode cL_law 2520 = .ok (.iconst 1, 1) := by decide +kernel
theorem dL_law_2521 : decode cL_law 2521 = .ok (.iadd, 1) := by decide +kernel
theorem dL_law_2522 : decode cL_law 2522 = .ok (.iaload, 1) := by decide +kernel
theorem dL_law_2523 : decode cL_law 2523 = .ok (.aload_n 3, 1) := by decide +kernel
theorem dL_law_2524 : decode cL_law 2524 = .ok (.invokestatic 294, 3) := by decide +kernel
theorem dL_law_2527 : decode cL_law 2527 = .ok (.istore 6, 2) := by decide +kernel
theorem dL_law_2529 : decode cL_law 2529 = .ok (.aload_n 2, 1) := by decide +kernel
theorem dL_law_2530 : decode cL_law 2530 = .ok (.aload_n 0, 1) := by decide +kernel
theorem dL_law_2531 : decode cL_law 2531 = .ok (.iload 5, 2) := by decide +kernel
theorem dL_law_2533 : decode cL_law 2533 = .ok (.iconst 1, 1) := by decide +kernel
theorem dL_law_2534 : decode cL_law 2534 = .ok (.iadd, 1) := by decide +kernel
theorem dL_law_2535 : decode cL_law 2535 = .ok (.iaload, 1) := by decide +kernel
theorem dL_law_2536 : decode cL_law 2536 = .ok (.invokevirtual 296, 3) := by decide +kernel
theorem dL_law_2539 : decode cL_law 2539 = .ok (.istore 7, 2) := by decide +kernel
theorem dL_law_2541 : decode cL_law 2541 = .ok (.aload_n 2, 1) := by decide +kernel
theorem dL_law_2542 : decode cL_law 2542 = .ok (.invokevirtual 181, 3) := by decide +kernel
theorem dL_law_2545 : decode cL_law 2545 = .ok (.iload 6, 2) := by decide +kernel
theorem dL_law_2547 : decode cL_law 2547 = .ok (.if_icmp .eq 5, 3) := by decide +kernel
theorem dL_law_2550 : decode cL_law 2550 = .ok (.iconst 0, 1) := by decide +kernel
theorem dL_law_2551 : decode cL_law 2551 = .ok (.ireturn, 1) := by decide +kernel
theorem dL_law_2552 : decode cL_law 2552 = .ok (.iload 6, 2) := by decide +kernel
theorem dL_law_2554 : decode cL_law 2554 = .ok (.ifCond .ne 15, 3) := by decide +kernel
theorem dL_law_2557 : decode cL_law 2557 = .ok (.aload_n 3, 1) := by decide +kernel
theorem dL_law_2558 : decode cL_law 2558 = .ok (.iconst 0, 1) := by decide +kernel
theorem dL_law_2559 : decode cL_law 2559 = .ok (.laload, 1) := by decide +kernel
theorem dL_law_2560 : decode cL_law 2560 = .ok (.iload 7, 2) := by decide +kernel
theorem dL_law_2562 : decode cL_law 2562 = .ok (.i2l, 1) := by decide +kernel
theorem dL_law_2563 : decode cL_law 2563 = .ok (.lcmp, 1) := by decide +kernel
theorem dL_law_2564 : decode cL_law 2564 = .ok (.ifCond .eq 5, 3) := by decide +kernel
theorem dL_law_2567 : decode cL_law 2567 = .ok (.iconst 0, 1) := by decide +kernel
theorem dL_law_2568 : decode cL_law 2568 = .ok (.ireturn, 1) := by decide +kernel
theorem dL_law_2569 : decode cL_law 2569 = .ok (.goto 1068, 3) := by decide +kernel
theorem dL_law_2572 : decode cL_law 2572 = .ok (.aload_n 1, 1) := by decide +kernel
theorem dL_law_2573 : decode cL_law 2573 = .ok (.aload_n 0, 1) := by decide +kernel
theorem dL_law_2574 : decode cL_law 2574 = .ok (.iload 5, 2) := by decide +kernel
theorem dL_law_2576 : decode cL_law 2576 = .ok (.iconst 1, 1) := by decide +kernel
theorem dL_law_2577 : decode cL_law 2577 = .ok (.iadd, 1) := by decide +kernel
theorem dL_law_2578 : decode cL_law 2578 = .ok (.iaload, 1) := by decide +kernel
theorem dL_law_2579 : decode cL_law 2579 = .ok (.aload_n 0, 1) := by decide +kernel
theorem dL_law_2580 : decode cL_law 2580 = .ok (.iload 5, 2) := by decide +kernel
theorem dL_law_2582 : decode cL_law 2582 = .ok (.iconst 2, 1) := by decide +kernel
theorem dL_law_2583 : decode cL_law 2583 = .ok (.iadd, 1) := by decide +kernel
theorem dL_law_2584 : decode cL_law 2584 = .ok (.iaload, 1) := by decide +kernel
theorem dL_law_2585 : decode cL_law 2585 = .ok (.aload_n 3, 1) := by decide +kernel
theorem dL_law_2586 : decode cL_law 2586 = .ok (.invokestatic 297, 3) := by decide +kernel
theorem dL_law_2589 : decode cL_law 2589 = .ok (.istore 6, 2) := by decide +kernel
theorem dL_law_2591 : decode cL_law 2591 = .ok (.aload_n 2, 1) := by decide +kernel
theorem dL_law_2592 : decode cL_law 2592 = .ok (.aload_n 0, 1) := by decide +kernel
theorem dL_law_2593 : decode cL_law 2593 = .ok (.iload 5, 2) := by decide +kernel
theorem dL_law_2595 : decode cL_law 2595 = .ok (.iconst 1, 1) := by decide +kernel
theorem dL_law_2596 : decode cL_law 2596 = .ok (.iadd, 1) := by decide +kernel
theorem dL_law_2597 : decode cL_law 2597 = .ok (.iaload, 1) := by decide +kernel
theorem dL_law_2598 : decode cL_law 2598 = .ok (.aload_n 0, 1) := by decide +kernel
theorem dL_law_2599 : decode cL_law 2599 = .ok (.iload 5, 2) := by decide +kernel
theorem dL_law_2601 : decode cL_law 2601 = .ok (.iconst 2, 1) := by decide +kernel
theorem dL_law_2602 : decode cL_law 2602 = .ok (.iadd, 1) := by decide +kernel
theorem dL_law_2603 : decode cL_law 2603 = .ok (.iaload, 1) := by decide +kernel
theorem dL_law_2604 : decode cL_law 2604 = .ok (.invokevirtual 299, 3) := by decide +kernel
theorem dL_law_2607 : decode cL_law 2607 = .ok (.istore 7, 2) := by decide +kernel
theorem dL_law_2609 : decode cL_law 2609 = .ok (.aload_n 2, 1) := by decide +kernel
theorem dL_law_2610 : decode cL_law 2610 = .ok (.invokevirtual 181, 3) := by decide +kernel
theorem dL_law_2613 : decode cL_law 2613 = .ok (.iload 6, 2) := by decide +kernel
theorem dL_law_2615 : decode cL_law 2615 = .ok (.if_icmp .eq 5, 3) := by decide +kernel
theorem dL_law_2618 : decode cL_law 2618 = .ok (.iconst 0, 1) := by decide +kernel
theorem dL_law_2619 : decode cL_law 2619 = .ok (.ireturn, 1) := by decide +kernel
theorem dL_law_2620 : decode cL_law 2620 = .ok (.iload 6, 2) := by decide +kernel
theorem dL_law_2622 : decode cL_law 2622 = .ok (.ifCond .ne 15, 3) := by decide +kernel
theorem dL_law_2625 : decode cL_law 2625 = .ok (.aload_n 3, 1) := by decide +kernel
theorem dL_law_2626 : decode cL_law 2626 = .ok (.iconst 0, 1) := by decide +kernel
theorem dL_law_2627 : decode cL_law 2627 = .ok (.laload, 1) := by decide +kernel
theorem dL_law_2628 : decode cL_law 2628 = .ok (.iload 7, 2) := by decide +kernel
theorem dL_law_2630 : decode cL_law 2630 = .ok (.i2l, 1) := by decide +kernel
theorem dL_law_2631 : decode cL_law 2631 = .ok (.lcmp, 1) := by decide +kernel
theorem dL_law_2632 : decode cL_law 2632 = .ok (.ifCond .eq 5, 3) := by decide +kernel
theorem dL_law_2635 : decode cL_law 2635 = .ok (.iconst 0, 1) := by decide +kernel
theorem dL_law_2636 : decode cL_law 2636 = .ok (.ireturn, 1) := by decide +kernel
theorem dL_law_2637 : decode cL_law 2637 = .ok (.goto 1000, 3) := by decide +kernel
theorem dL_law_2640 : decode cL_law 2640 = .ok (.aload_n 1, 1) := by decide +kernel
theorem dL_law_2641 : decode cL_law 2641 = .ok (.invokevirtual 300, 3) := by decide +kernel
theorem dL_law_2644 : decode cL_law 2644 = .ok (.aload_n 2, 1) := by decide +kernel
theorem dL_law_2645 : decode cL_law 2645 = .ok (.invokevirtual 303, 3) := by decide +kernel
theorem dL_law_2648 : decode cL_law 2648 = .ok (.if_icmp .eq 989, 3) := by decide +kernel
theorem dL_law_2651 : decode cL_law 2651 = .ok (.iconst 0, 1) := by decide +kernel
theorem dL_law_2652 : decode cL_law 2652 = .ok (.ireturn, 1) := by decide +kernel
theorem dL_law_2653 : decode cL_law 2653 = .ok (.aload_n 1, 1) := by decide +kernel
theorem dL_law_2654 : decode cL_law 2654 = .ok (.invokevirtual 304, 3) := by decide +kernel
theorem dL_law_2657 : decode cL_law 2657 = .ok (.aload_n 2, 1) := by decide +kernel
theorem dL_law_2658 : decode cL_law 2658 = .ok (.invokevirtual 307, 3) := by decide +kernel
theorem dL_law_2661 : decode cL_law 2661 = .ok (.if_icmp .eq 976, 3) := by decide +kernel
theorem dL_law_2664 : decode cL_law 2664 = .ok (.iconst 0, 1) := by decide +kernel
theorem dL_law_2665 : decode cL_law 2665 = .ok (.ireturn, 1) := by decide +kernel
theorem dL_law_2666 : decode cL_law 2666 = .ok (.aload_n 1, 1) := by decide +kernel
theorem dL_law_2667 : decode cL_law 2667 = .ok (.invokevirtual 308, 3) := by decide +kernel
theorem dL_law_2670 : decode cL_law 2670 = .ok (.aload_n 2, 1) := by decide +kernel
theorem dL_law_2671 : decode cL_law 2671 = .ok (.invokevirtual 311, 3) := by decide +kernel
theorem dL_law_2674 : decode cL_law 2674 = .ok (.if_icmp .eq 963, 3) := by decide +kernel
theorem dL_law_2677 : decode cL_law 2677 = .ok (.iconst 0, 1) := by decide +kernel
theorem dL_law_2678 : decode cL_law 2678 = .ok (.ireturn, 1) := by decide +kernel
theorem dL_law_2679 : decode cL_law 2679 = .ok (.aload_n 1, 1) := by decide +kernel
theorem dL_law_2680 : decode cL_law 2680 = .ok (.invokevirtual 312, 3) := by decide +kernel
theorem dL_law_2683 : decode cL_law 2683 = .ok (.aload_n 2, 1) := by decide +kernel
theorem dL_law_2684 : decode cL_law 2684 = .ok (.invokevirtual 315, 3) := by decide +kernel
theorem dL_law_2687 : decode cL_law 2687 = .ok (.if_icmp .eq 950, 3) := by decide +kernel
theorem dL_law_2690 : decode cL_law 2690 = .ok (.iconst 0, 1) := by decide +kernel
theorem dL_law_2691 : decode cL_law 2691 = .ok (.ireturn, 1) := by decide +kernel
theorem dL_law_2692 : decode cL_law 2692 = .ok (.aload_n 1, 1) := by decide +kernel
theorem dL_law_2693 : decode cL_law 2693 = .ok (.aload_n 0, 1) := by decide +kernel
theorem dL_law_2694 : decode cL_law 2694 = .ok (.iload 5, 2) := by decide +kernel
theorem dL_law_2696 : decode cL_law 2696 = .ok (.iconst 1, 1) := by decide +kernel
theorem dL_law_2697 : decode cL_law 2697 = .ok (.iadd, 1) := by decide +kernel
theorem dL_law_2698 : decode cL_law 2698 = .ok (.iaload, 1) := by decide +kernel
theorem dL_law_2699 : decode cL_law 2699 = .ok (.aload_n 3, 1) := by decide +kernel
theorem dL_law_2700 : decode cL_law 2700 = .ok (.invokestatic 316, 3) := by decide +kernel
theorem dL_law_2703 : decode cL_law 2703 = .ok (.istore 6, 2) := by decide +kernel
theorem dL_law_2705 : decode cL_law 2705 = .ok (.aload_n 2, 1) := by decide +kernel
theorem dL_law_2706 : decode cL_law 2706 = .ok (.aload_n 0, 1) := by decide +kernel
theorem dL_law_2707 : decode cL_law 2707 = .ok (.iload 5, 2) := by decide +kernel
theorem dL_law_2709 : decode cL_law 2709 = .ok (.iconst 1, 1) := by decide +kernel
theorem dL_law_2710 : decode cL_law 2710 = .ok (.iadd, 1) := by decide +kernel
theorem dL_law_2711 : decode cL_law 2711 = .ok (.iaload, 1) := by decide +kernel
theorem dL_law_2712 : decode cL_law 2712 = .ok (.invokevirtual 318, 3) := by decide +kernel
theorem dL_law_2715 : decode cL_law 2715 = .ok (.istore 7, 2) := by decide +kernel
theorem dL_law_2717 : decode cL_law 2717 = .ok (.aload_n 2, 1) := by decide +kernel
theorem dL_law_2718 : decode cL_law 2718 = .ok (.invokevirtual 181, 3) := by decide +kernel
theorem dL_law_2721 : decode cL_law 2721 = .ok (.iload 6, 2) := by decide +kernel
theorem dL_law_2723 : decode cL_law 2723 = .ok (.if_icmp .eq 5, 3) := by decide +kernel
theorem dL_law_2726 : decode cL_law 2726 = .ok (.iconst 0, 1) := by decide +kernel
theorem dL_law_2727 : decode cL_law 2727 = .ok (.ireturn, 1) := by decide +kernel
theorem dL_law_2728 : decode cL_law 2728 = .ok (.iload 6, 2) := by decide +kernel
theorem dL_law_2730 : decode cL_law 2730 = .ok (.ifCond .ne 15, 3) := by decide +kernel
theorem dL_law_2733 : decode cL_law 2733 = .ok (.aload_n 3, 1) := by decide +kernel
theorem dL_law_2734 : decode cL_law 2734 = .ok (.iconst 0, 1) := by decide +kernel
theorem dL_law_2735 : decode cL_law 2735 = .ok (.laload, 1) := by decide +kernel
theorem dL_law_2736 : decode cL_law 2736 = .ok (.iload 7, 2) := by decide +kernel
theorem dL_law_2738 : decode cL_law 2738 = .ok (.i2l, 1) := by decide +kernel
theorem dL_law_2739 : decode cL_law 2739 = .ok (.lcmp, 1) := by decide +kernel
theorem dL_law_2740 : decode cL_law 2740 = .ok (.ifCond .eq 5, 3) := by decide +kernel
theorem dL_law_2743 : decode cL_law 2743 = .ok (.iconst 0, 1) := by decide +kernel
theorem dL_law_2744 : decode cL_law 2744 = .ok (.ireturn, 1) := by decide +kernel
theorem dL_law_2745 : decode cL_law 2745 = .ok (.goto 892, 3) := by decide +kernel
theorem dL_law_2748 : decode cL_law 2748 = .ok (.aload_n 1, 1) := by decide +kernel
theorem dL_law_2749 : decode cL_law 2749 = .ok (.aload_n 0, 1) := by decide +kernel
theorem dL_law_2750 : decode cL_law 2750 = .ok (.iload 5, 2) := by decide +kernel
theorem dL_law_2752 : decode cL_law 2752 = .ok (.iconst 1, 1) := by decide +kernel
theorem dL_law_2753 : decode cL_law 2753 = .ok (.iadd, 1) := by decide +kernel
theorem dL_law_2754 : decode cL_law 2754 = .ok (.iaload, 1) := by decide +kernel
theorem dL_law_2755 : decode cL_law 2755 = .ok (.aload_n 3, 1) := by decide +kernel
theorem dL_law_2756 : decode cL_law 2756 = .ok (.invokestatic 319, 3) := by decide +kernel
theorem dL_law_2759 : decode cL_law 2759 = .ok (.istore 6, 2) := by decide +kernel
theorem dL_law_2761 : decode cL_law 2761 = .ok (.aload_n 2, 1) := by decide +kernel
theorem dL_law_2762 : decode cL_law 2762 = .ok (.aload_n 0, 1) := by decide +kernel
theorem dL_law_2763 : decode cL_law 2763 = .ok (.iload 5, 2) := by decide +kernel
theorem dL_law_2765 : decode cL_law 2765 = .ok (.iconst 1, 1) := by decide +kernel
theorem dL_law_2766 : decode cL_law 2766 = .ok (.iadd, 1) := by decide +kernel
theorem dL_law_2767 : decode cL_law 2767 = .ok (.iaload, 1) := by decide +kernel
theorem dL_law_2768 : decode cL_law 2768 = .ok (.invokevirtual 321, 3) := by decide +kernel
theorem dL_law_2771 : decode cL_law 2771 = .ok (.istore 7, 2) := by decide +kernel
theorem dL_law_2773 : decode cL_law 2773 = .ok (.aload_n 2, 1) := by decide +kernel
theorem dL_law_2774 : decode cL_law 2774 = .ok (.invokevirtual 181, 3) := by decide +kernel
theorem dL_law_2777 : decode cL_law 2777 = .ok (.iload 6, 2) := by decide +kernel
theorem dL_law_2779 : decode cL_law 2779 = .ok (.if_icmp .eq 5, 3) := by decide +kernel
theorem dL_law_2782 : decode cL_law 2782 = .ok (.iconst 0, 1) := by decide +kernel
theorem dL_law_2783 : decode cL_law 2783 = .ok (.ireturn, 1) := by decide +kernel
theorem dL_law_2784 : decode cL_law 2784 = .ok (.iload 6, 2) := by decide +kernel
theorem dL_law_2786 : decode cL_law 2786 = .ok (.ifCond .ne 15, 3) := by decide +kernel
theorem dL_law_2789 : decode cL_law 2789 = .ok (.aload_n 3, 1) := by decide +kernel
theorem dL_law_2790 : decode cL_law 2790 = .ok (.iconst 0, 1) := by decide +kernel
theorem dL_law_2791 : decode cL_law 2791 = .ok (.laload, 1) := by decide +kernel
theorem dL_law_2792 : decode cL_law 2792 = .ok (.iload 7, 2) := by decide +kernel
theorem dL_law_2794 : decode cL_law 2794 = .ok (.i2l, 1) := by decide +kernel
theorem dL_law_2795 : decode cL_law 2795 = .ok (.lcmp, 1) := by decide +kernel
theorem dL_law_2796 : decode cL_law 2796 = .ok (.ifCond .eq 5, 3) := by decide +kernel
theorem dL_law_2799 : decode cL_law 2799 = .ok (.iconst 0, 1) := by decide +kernel
theorem dL_law_2800 : decode cL_law 2800 = .ok (.ireturn, 1) := by decide +kernel
theorem dL_law_2801 : decode cL_law 2801 = .ok (.goto 836, 3) := by decide +kernel
theorem dL_law_2804 : decode cL_law 2804 = .ok (.aload_n 1, 1) := by decide +kernel
theorem dL_law_2805 : decode cL_law 2805 = .ok (.aload_n 0, 1) := by decide +kernel
theorem dL_law_2806 : decode cL_law 2806 = .ok (.iload 5, 2) := by decide +kernel
theorem dL_law_2808 : decode cL_law 2808 = .ok (.iconst 1, 1) := by decide +kernel
theorem dL_law_2809 : decode cL_law 2809 = .ok (.iadd, 1) := by decide +kernel
theorem dL_law_2810 : decode cL_law 2810 = .ok (.iaload, 1) := by decide +kernel
theorem dL_law_2811 : decode cL_law 2811 = .ok (.aload_n 0, 1) := by decide +kernel
theorem dL_law_2812 : decode cL_law 2812 = .ok (.iload 5, 2) := by decide +kernel
theorem dL_law_2814 : decode cL_law 2814 = .ok (.iconst 2, 1) := by decide +kernel
theorem dL_law_2815 : decode cL_law 2815 = .ok (.iadd, 1) := by decide +kernel
theorem dL_law_2816 : decode cL_law 2816 = .ok (.iaload, 1) := by decide +kernel
theorem dL_law_2817 : decode cL_law 2817 = .ok (.aload_n 3, 1) := by decide +kernel
theorem dL_law_2818 : decode cL_law 2818 = .ok (.invokestatic 322, 3) := by decide +kernel
theorem dL_law_2821 : decode cL_law 2821 = .ok (.istore 6, 2) := by decide +kernel
theorem dL_law_2823 : decode cL_law 2823 = .ok (.aload_n 2, 1) := by decide +kernel
theorem dL_law_2824 : decode cL_law 2824 = .ok (.aload_n 0, 1) := by decide +kernel
theorem dL_law_2825 : decode cL_law 2825 = .ok (.iload 5, 2) := by decide +kernel
theorem dL_law_2827 : decode cL_law 2827 = .ok (.iconst 1, 1) := by decide +kernel
theorem dL_law_2828 : decode cL_law 2828 = .ok (.iadd, 1) := by decide +kernel
theorem dL_law_2829 : decode cL_law 2829 = .ok (.iaload, 1) := by decide +kernel
theorem dL_law_2830 : decode cL_law 2830 = .ok (.aload_n 0, 1) := by decide +kernel
theorem dL_law_2831 : decode cL_law 2831 = .ok (.iload 5, 2) := by decide +kernel
theorem dL_law_2833 : decode cL_law 2833 = .ok (.iconst 2, 1) := by decide +kernel
theorem dL_law_2834 : decode cL_law 2834 = .ok (.iadd, 1) := by decide +kernel
theorem dL_law_2835 : decode cL_law 2835 = .ok (.iaload, 1) := by decide +kernel
theorem dL_law_2836 : decode cL_law 2836 = .ok (.invokevirtual 324, 3) := by decide +kernel
theorem dL_law_2839 : decode cL_law 2839 = .ok (.istore 7, 2) := by decide +kernel
theorem dL_law_2841 : decode cL_law 2841 = .ok (.aload_n 2, 1) := by decide +kernel
theorem dL_law_2842 : decode cL_law 2842 = .ok (.invokevirtual 181, 3) := by decide +kernel
theorem dL_law_2845 : decode cL_law 2845 = .ok (.iload 6, 2) := by decide +kernel
theorem dL_law_2847 : decode cL_law 2847 = .ok (.if_icmp .eq 5, 3) := by decide +kernel
theorem dL_law_2850 : decode cL_law 2850 = .ok (.iconst 0, 1) := by decide +kernel
theorem dL_law_2851 : decode cL_law 2851 = .ok (.ireturn, 1) := by decide +kernel
theorem dL_law_2852 : decode cL_law 2852 = .ok (.iload 6, 2) := by decide +kernel
theorem dL_law_2854 : decode cL_law 2854 = .ok (.ifCond .ne 15, 3) := by decide +kernel
theorem dL_law_2857 : decode cL_law 2857 = .ok (.aload_n 3, 1) := by decide +kernel
theorem dL_law_2858 : decode cL_law 2858 = .ok (.iconst 0, 1) := by decide +kernel
theorem dL_law_2859 : decode cL_law 2859 = .ok (.laload, 1) := by decide +kernel
theorem dL_law_2860 : decode cL_law 2860 = .ok (.iload 7, 2) := by decide +kernel
theorem dL_law_2862 : decode cL_law 2862 = .ok (.i2l, 1) := by decide +kernel
theorem dL_law_2863 : decode cL_law 2863 = .ok (.lcmp, 1) := by decide +kernel
theorem dL_law_2864 : decode cL_law 2864 = .ok (.ifCond .eq 5, 3) := by decide +kernel
theorem dL_law_2867 : decode cL_law 2867 = .ok (.iconst 0, 1) := by decide +kernel
theorem dL_law_2868 : decode cL_law 2868 = .ok (.ireturn, 1) := by decide +kernel
theorem dL_law_2869 : decode cL_law 2869 = .ok (.goto 768, 3) := by decide +kernel
theorem dL_law_2872 : decode cL_law 2872 = .ok (.aload_n 1, 1) := by decide +kernel
theorem dL_law_2873 : decode cL_law 2873 = .ok (.aload_n 0, 1) := by decide +kernel
theorem dL_law_2874 : decode cL_law 2874 = .ok (.iload 5, 2) := by decide +kernel
theorem dL_law_2876 : decode cL_law 2876 = .ok (.iconst 1, 1) := by decide +kernel
theorem dL_law_2877 : decode cL_law 2877 = .ok (.iadd, 1) := by decide +kernel
theorem dL_law_2878 : decode cL_law 2878 = .ok (.iaload, 1) := by decide +kernel
theorem dL_law_2879 : decode cL_law 2879 = .ok (.aload_n 3, 1) := by decide +kernel
theorem dL_law_2880 : decode cL_law 2880 = .ok (.invokestatic 325, 3) := by decide +kernel
theorem dL_law_2883 : decode cL_law 2883 = .ok (.istore 6, 2) := by decide +kernel
theorem dL_law_2885 : decode cL_law 2885 = .ok (.aload_n 2, 1) := by decide +kernel
theorem dL_law_2886 : decode cL_law 2886 = .ok (.aload_n 0, 1) := by decide +kernel
theorem dL_law_2887 : decode cL_law 2887 = .ok (.iload 5, 2) := by decide +kernel
theorem dL_law_2889 : decode cL_law 2889 = .ok (.iconst 1, 1) := by decide +kernel
theorem dL_law_2890 : decode cL_law 2890 = .ok (.iadd, 1) := by decide +kernel
theorem dL_law_2891 : decode cL_law 2891 = .ok (.iaload, 1) := by decide +kernel
theorem dL_law_2892 : decode cL_law 2892 = .ok (.invokevirtual 327, 3) := by decide +kernel
theorem dL_law_2895 : decode cL_law 2895 = .ok (.istore 7, 2) := by decide +kernel
theorem dL_law_2897 : decode cL_law 2897 = .ok (.aload_n 2, 1) := by decide +kernel
theorem dL_law_2898 : decode cL_law 2898 = .ok (.invokevirtual 181, 3) := by decide +kernel
theorem dL_law_2901 : decode cL_law 2901 = .ok (.iload 6, 2) := by decide +kernel
theorem dL_law_2903 : decode cL_law 2903 = .ok (.if_icmp .eq 5, 3) := by decide +kernel
theorem dL_law_2906 : decode cL_law 2906 = .ok (.iconst 0, 1) := by decide +kernel
theorem dL_law_2907 : decode cL_law 2907 = .ok (.ireturn, 1) := by decide +kernel
theorem dL_law_2908 : decode cL_law 2908 = .ok (.iload 6, 2) := by decide +kernel
theorem dL_law_2910 : decode cL_law 2910 = .ok (.ifCond .ne 15, 3) := by decide +kernel
theorem dL_law_2913 : decode cL_law 2913 = .ok (.aload_n 3, 1) := by decide +kernel
theorem dL_law_2914 : decode cL_law 2914 = .ok (.iconst 0, 1) := by decide +kernel
theorem dL_law_2915 : decode cL_law 2915 = .ok (.laload, 1) := by decide +kernel
theorem dL_law_2916 : decode cL_law 2916 = .ok (.iload 7, 2) := by decide +kernel
theorem dL_law_2918 : decode cL_law 2918 = .ok (.i2l, 1) := by decide +kernel
theorem dL_law_2919 : decode cL_law 2919 = .ok (.lcmp, 1) := by decide +kernel
theorem dL_law_2920 : decode cL_law 2920 = .ok (.ifCond .eq 5, 3) := by decide +kernel
theorem dL_law_2923 : decode cL_law 2923 = .ok (.iconst 0, 1) := by decide +kernel
theorem dL_law_2924 : decode cL_law 2924 = .ok (.ireturn, 1) := by decide +kernel
theorem dL_law_2925 : decode cL_law 2925 = .ok (.goto 712, 3) := by decide +kernel
theorem dL_law_2928 : decode cL_law 2928 = .ok (.aload_n 1, 1) := by decide +kernel
theorem dL_law_2929 : decode cL_law 2929 = .ok (.aload_n 0, 1) := by decide +kernel
theorem dL_law_2930 : decode cL_law 2930 = .ok (.iload 5, 2) := by decide +kernel
theorem dL_law_2932 : decode cL_law 2932 = .ok (.iconst 1, 1) := by decide +kernel
theorem dL_law_2933 : decode cL_law 2933 = .ok (.iadd, 1) := by decide +kernel
theorem dL_law_2934 : decode cL_law 2934 = .ok (.iaload, 1) := by decide +kernel
theorem dL_law_2935 : decode cL_law 2935 = .ok (.aload_n 0, 1) := by decide +kernel
theorem dL_law_2936 : decode cL_law 2936 = .ok (.iload 5, 2) := by decide +kernel
theorem dL_law_2938 : decode cL_law 2938 = .ok (.iconst 2, 1) := by decide +kernel
theorem dL_law_2939 : decode cL_law 2939 = .ok (.iadd, 1) := by decide +kernel
theorem dL_law_2940 : decode cL_law 2940 = .ok (.iaload, 1) := by decide +kernel
theorem dL_law_2941 : decode cL_law 2941 = .ok (.aload_n 0, 1) := by decide +kernel
theorem dL_law_2942 : decode cL_law 2942 = .ok (.iload 5, 2) := by decide +kernel
theorem dL_law_2944 : decode cL_law 2944 = .ok (.iconst 3, 1) := by decide +kernel
theorem dL_law_2945 : decode cL_law 2945 = .ok (.iadd, 1) := by decide +kernel
theorem dL_law_2946 : decode cL_law 2946 = .ok (.iaload, 1) := by decide +kernel
theorem dL_law_2947 : decode cL_law 2947 = .ok (.aload_n 0, 1) := by decide +kernel
theorem dL_law_2948 : decode cL_law 2948 = .ok (.iload 5, 2) := by decide +kernel
theorem dL_law_2950 : decode cL_law 2950 = .ok (.iconst 4, 1) := by decide +kernel
theorem dL_law_2951 : decode cL_law 2951 = .ok (.iadd, 1) := by decide +kernel
theorem dL_law_2952 : decode cL_law 2952 = .ok (.iaload, 1) := by decide +kernel
theorem dL_law_2953 : decode cL_law 2953 = .ok (.aload_n 3, 1) := by decide +kernel
theorem dL_law_2954 : decode cL_law 2954 = .ok (.invokestatic 328, 3) := by decide +kernel
theorem dL_law_2957 : decode cL_law 2957 = .ok (.istore 6, 2) := by decide +kernel
theorem dL_law_2959 : decode cL_law 2959 = .ok (.aload_n 2, 1) := by decide +kernel
theorem dL_law_2960 : decode cL_law 2960 = .ok (.aload_n 0, 1) := by decide +kernel
theorem dL_law_2961 : decode cL_law 2961 = .ok (.iload 5, 2) := by decide +kernel
theorem dL_law_2963 : decode cL_law 2963 = .ok (.iconst 1, 1) := by decide +kernel
theorem dL_law_2964 : decode cL_law 2964 = .ok (.iadd, 1) := by decide +kernel
theorem dL_law_2965 : decode cL_law 2965 = .ok (.iaload, 1) := by decide +kernel
theorem dL_law_2966 : decode cL_law 2966 = .ok (.aload_n 0, 1) := by decide +kernel
theorem dL_law_2967 : decode cL_law 2967 = .ok (.iload 5, 2) := by decide +kernel
theorem dL_law_2969 : decode cL_law 2969 = .ok (.iconst 2, 1) := by decide +kernel
theorem dL_law_2970 : decode cL_law 2970 = .ok (.iadd, 1) := by decide +kernel
theorem dL_law_2971 : decode cL_law 2971 = .ok (.iaload, 1) := by decide +kernel
theorem dL_law_2972 : decode cL_law 2972 = .ok (.aload_n 0, 1) := by decide +kernel
theorem dL_law_2973 : decode cL_law 2973 = .ok (.iload 5, 2) := by decide +kernel
theorem dL_law_2975 : decode cL_law 2975 = .ok (.iconst 3, 1) := by decide +kernel
theorem dL_law_2976 : decode cL_law 2976 = .ok (.iadd, 1) := by decide +kernel
theorem dL_law_2977 : decode cL_law 2977 = .ok (.iaload, 1) := by decide +kernel
theorem dL_law_2978 : decode cL_law 2978 = .ok (.aload_n 0, 1) := by decide +kernel
theorem dL_law_2979 : decode cL_law 2979 = .ok (.iload 5, 2) := by decide +kernel
theorem dL_law_2981 : decode cL_law 2981 = .ok (.iconst 4, 1) := by decide +kernel
theorem dL_law_2982 : decode cL_law 2982 = .ok (.iadd, 1) := by decide +kernel
theorem dL_law_2983 : decode cL_law 2983 = .ok (.iaload, 1) := by decide +kernel
theorem dL_law_2984 : decode cL_law 2984 = .ok (.invokevirtual 331, 3) := by decide +kernel
theorem dL_law_2987 : decode cL_law 2987 = .ok (.istore 7, 2) := by decide +kernel
theorem dL_law_2989 : decode cL_law 2989 = .ok (.aload_n 2, 1) := by decide +kernel
theorem dL_law_2990 : decode cL_law 2990 = .ok (.invokevirtual 181, 3) := by decide +kernel
theorem dL_law_2993 : decode cL_law 2993 = .ok (.iload 6, 2) := by decide +kernel
theorem dL_law_2995 : decode cL_law 2995 = .ok (.if_icmp .eq 5, 3) := by decide +kernel
theorem dL_law_2998 : decode cL_law 2998 = .ok (.iconst 0, 1) := by decide +kernel
theorem dL_law_2999 : decode cL_law 2999 = .ok (.ireturn, 1) := by decide +kernel
theorem dL_law_3000 : decode cL_law 3000 = .ok (.iload 6, 2) := by decide +kernel
theorem dL_law_3002 : decode cL_law 3002 = .ok (.ifCond .ne 15, 3) := by decide +kernel
theorem dL_law_3005 : decode cL_law 3005 = .ok (.aload_n 3, 1) := by decide +kernel
theorem dL_law_3006 : decode cL_law 3006 = .ok (.iconst 0, 1) := by decide +kernel
theorem dL_law_3007 : decode cL_law 3007 = .ok (.laload, 1) := by decide +kernel
theorem dL_law_3008 : decode cL_law 3008 = .ok (.iload 7, 2) := by decide +kernel
theorem dL_law_3010 : decode cL_law 3010 = .ok (.i2l, 1) := by decide +kernel
theorem dL_law_3011 : decode cL_law 3011 = .ok (.lcmp, 1) := by decide +kernel
theorem dL_law_3012 : decode cL_law 3012 = .ok (.ifCond .eq 5, 3) := by decide +kernel
theorem dL_law_3015 : decode cL_law 3015 = .ok (.iconst 0, 1) := by decide +kernel
theorem dL_law_3016 : decode cL_law 3016 = .ok (.ireturn, 1) := by decide +kernel
theorem dL_law_3017 : decode cL_law 3017 = .ok (.goto 620, 3) := by decide +kernel
theorem dL_law_3020 : decode cL_law 3020 = .ok (.aload_n 1, 1) := by decide +kernel
theorem dL_law_3021 : decode cL_law 3021 = .ok (.aload_n 0, 1) := by decide +kernel
theorem dL_law_3022 : decode cL_law 3022 = .ok (.iload 5, 2) := by decide +kernel
theorem dL_law_3024 : decode cL_law 3024 = .ok (.iconst 1, 1) := by decide +kernel
theorem dL_law_3025 : decode cL_law 3025 = .ok (.iadd, 1) := by decide +kernel
theorem dL_law_3026 : decode cL_law 3026 = .ok (.iaload, 1) := by decide +kernel
theorem dL_law_3027 : decode cL_law 3027 = .ok (.aload_n 0, 1) := by decide +kernel
theorem dL_law_3028 : decode cL_law 3028 = .ok (.iload 5, 2) := by decide +kernel
theorem dL_law_3030 : decode cL_law 3030 = .ok (.iconst 2, 1) := by decide +kernel
theorem dL_law_3031 : decode cL_law 3031 = .ok (.iadd, 1) := by decide +kernel
theorem dL_law_3032 : decode cL_law 3032 = .ok (.iaload, 1) := by decide +kernel
theorem dL_law_3033 : decode cL_law 3033 = .ok (.aload_n 0, 1) := by decide +kernel
theorem dL_law_3034 : decode cL_law 3034 = .ok (.iload 5, 2) := by decide +kernel
theorem dL_law_3036 : decode cL_law 3036 = .ok (.iconst 3, 1) := by decide +kernel
theorem dL_law_3037 : decode cL_law 3037 = .ok (.iadd, 1) := by decide +kernel
theorem dL_law_3038 : decode cL_law 3038 = .ok (.iaload, 1) := by decide +kernel
theorem dL_law_3039 : decode cL_law 3039 = .ok (.aload_n 0, 1) := by decide +kernel
theorem dL_law_3040 : decode cL_law 3040 = .ok (.iload 5, 2) := by decide +kernel
theorem dL_law_3042 : decode cL_law 3042 = .ok (.iconst 4, 1) := by decide +kernel
theorem dL_law_3043 : decode cL_law 3043 = .ok (.iadd, 1) := by decide +kernel
theorem dL_law_3044 : decode cL_law 3044 = .ok (.iaload, 1) := by decide +kernel
theorem dL_law_3045 : decode cL_law 3045 = .ok (.aload_n 3, 1) := by decide +kernel
theorem dL_law_3046 : decode cL_law 3046 = .ok (.invokestatic 332, 3) := by decide +kernel
theorem dL_law_3049 : decode cL_law 3049 = .ok (.istore 6, 2) := by decide +kernel
theorem dL_law_3051 : decode cL_law 3051 = .ok (.aload_n 2, 1) := by decide +kernel
theorem dL_law_3052 : decode cL_law 3052 = .ok (.aload_n 0, 1) := by decide +kernel
theorem dL_law_3053 : decode cL_law 3053 = .ok (.iload 5, 2) := by decide +kernel
theorem dL_law_3055 : decode cL_law 3055 = .ok (.iconst 1, 1) := by decide +kernel
theorem dL_law_3056 : decode cL_law 3056 = .ok (.iadd, 1) := by decide +kernel
theorem dL_law_3057 : decode cL_law 3057 = .ok (.iaload, 1) := by decide +kernel
theorem dL_law_3058 : decode cL_law 3058 = .ok (.aload_n 0, 1) := by decide +kernel
theorem dL_law_3059 : decode cL_law 3059 = .ok (.iload 5, 2) := by decide +kernel
theorem dL_law_3061 : decode cL_law 3061 = .ok (.iconst 2, 1) := by decide +kernel
theorem dL_law_3062 : decode cL_law 3062 = .ok (.iadd, 1) := by decide +kernel
theorem dL_law_3063 : decode cL_law 3063 = .ok (.iaload, 1) := by decide +kernel
theorem dL_law_3064 : decode cL_law 3064 = .ok (.aload_n 0, 1) := by decide +kernel
theorem dL_law_3065 : decode cL_law 3065 = .ok (.iload 5, 2) := by decide +kernel
theorem dL_law_3067 : decode cL_law 3067 = .ok (.iconst 3, 1) := by decide +kernel
theorem dL_law_3068 : decode cL_law 3068 = .ok (.iadd, 1) := by decide +kernel
theorem dL_law_3069 : decode cL_law 3069 = .ok (.iaload, 1) := by decide +kernel
theorem dL_law_3070 : decode cL_law 3070 = .ok (.aload_n 0, 1) := by decide +kernel
theorem dL_law_3071 : decode cL_law 3071 = .ok (.iload 5, 2) := by decide +kernel
theorem dL_law_3073 : decode cL_law 3073 = .ok (.iconst 4, 1) := by decide +kernel
theorem dL_law_3074 : decode cL_law 3074 = .ok (.iadd, 1) := by decide +kernel
theorem dL_law_3075 : decode cL_law 3075 = .ok (.iaload, 1) := by decide +kernel
theorem dL_law_3076 : decode cL_law 3076 = .ok (.invokevirtual 334, 3) := by decide +kernel
theorem dL_law_3079 : decode cL_law 3079 = .ok (.istore 7, 2) := by decide +kernel
theorem dL_law_3081 : decode cL_law 3081 = .ok (.aload_n 2, 1) := by decide +kernel
theorem dL_law_3082 : decode cL_law 3082 = .ok (.invokevirtual 181, 3) := by decide +kernel
theorem dL_law_3085 : decode cL_law 3085 = .ok (.iload 6, 2) := by decide +kernel
theorem dL_law_3087 : decode cL_law 3087 = .ok (.if_icmp .eq 5, 3) := by decide +kernel
theorem dL_law_3090 : decode cL_law 3090 = .ok (.iconst 0, 1) := by decide +kernel
theorem dL_law_3091 : decode cL_law 3091 = .ok (.ireturn, 1) := by decide +kernel
theorem dL_law_3092 : decode cL_law 3092 = .ok (.iload 6, 2) := by decide +kernel
theorem dL_law_3094 : decode cL_law 3094 = .ok (.ifCond .ne 15, 3) := by decide +kernel
theorem dL_law_3097 : decode cL_law 3097 = .ok (.aload_n 3, 1) := by decide +kernel
theorem dL_law_3098 : decode cL_law 3098 = .ok (.iconst 0, 1) := by decide +kernel
theorem dL_law_3099 : decode cL_law 3099 = .ok (.laload, 1) := by decide +kernel
theorem dL_law_3100 : decode cL_law 3100 = .ok (.iload 7, 2) := by decide +kernel
theorem dL_law_3102 : decode cL_law 3102 = .ok (.i2l, 1) := by decide +kernel
theorem dL_law_3103 : decode cL_law 3103 = .ok (.lcmp, 1) := by decide +kernel
theorem dL_law_3104 : decode cL_law 3104 = .ok (.ifCond .eq 5, 3) := by decide +kernel
theorem dL_law_3107 : decode cL_law 3107 = .ok (.iconst 0, 1) := by decide +kernel
theorem dL_law_3108 : decode cL_law 3108 = .ok (.ireturn, 1) := by decide +kernel
theorem dL_law_3109 : decode cL_law 3109 = .ok (.goto 528, 3) := by decide +kernel
theorem dL_law_3112 : decode cL_law 3112 = .ok (.aload_n 1, 1) := by decide +kernel
theorem dL_law_3113 : decode cL_law 3113 = .ok (.aload_n 0, 1) := by decide +kernel
theorem dL_law_3114 : decode cL_law 3114 = .ok (.iload 5, 2) := by decide +kernel
theorem dL_law_3116 : decode cL_law 3116 = .ok (.iconst 1, 1) := by decide +kernel
theorem dL_law_3117 : decode cL_law 3117 = .ok (.iadd, 1) := by decide +kernel
theorem dL_law_3118 : decode cL_law 3118 = .ok (.iaload, 1) := by decide +kernel
theorem dL_law_3119 : decode cL_law 3119 = .ok (.aload_n 0, 1) := by decide +kernel
theorem dL_law_3120 : decode cL_law 3120 = .ok (.iload 5, 2) := by decide +kernel
theorem dL_law_3122 : decode cL_law 3122 = .ok (.iconst 2, 1) := by decide +kernel
theorem dL_law_3123 : decode cL_law 3123 = .ok (.iadd, 1) := by decide +kernel
theorem dL_law_3124 : decode cL_law 3124 = .ok (.iaload, 1) := by decide +kernel
theorem dL_law_3125 : decode cL_law 3125 = .ok (.aload_n 3, 1) := by decide +kernel
theorem dL_law_3126 : decode cL_law 3126 = .ok (.invokestatic 335, 3) := by decide +kernel
theorem dL_law_3129 : decode cL_law 3129 = .ok (.istore 6, 2) := by decide +kernel
theorem dL_law_3131 : decode cL_law 3131 = .ok (.aload_n 2, 1) := by decide +kernel
theorem dL_law_3132 : decode cL_law 3132 = .ok (.aload_n 0, 1) := by decide +kernel
theorem dL_law_3133 : decode cL_law 3133 = .ok (.iload 5, 2) := by decide +kernel
theorem dL_law_3135 : decode cL_law 3135 = .ok (.iconst 1, 1) := by decide +kernel
theorem dL_law_3136 : decode cL_law 3136 = .ok (.iadd, 1) := by decide +kernel
theorem dL_law_3137 : decode cL_law 3137 = .ok (.iaload, 1) := by decide +kernel
theorem dL_law_3138 : decode cL_law 3138 = .ok (.aload_n 0, 1) := by decide +kernel
theorem dL_law_3139 : decode cL_law 3139 = .ok (.iload 5, 2) := by decide +kernel
theorem dL_law_3141 : decode cL_law 3141 = .ok (.iconst 2, 1) := by decide +kernel
theorem dL_law_3142 : decode cL_law 3142 = .ok (.iadd, 1) := by decide +kernel
theorem dL_law_3143 : decode cL_law 3143 = .ok (.iaload, 1) := by decide +kernel
theorem dL_law_3144 : decode cL_law 3144 = .ok (.invokevirtual 337, 3) := by decide +kernel
theorem dL_law_3147 : decode cL_law 3147 = .ok (.istore 7, 2) := by decide +kernel
theorem dL_law_3149 : decode cL_law 3149 = .ok (.aload_n 2, 1) := by decide +kernel
theorem dL_law_3150 : decode cL_law 3150 = .ok (.invokevirtual 181, 3) := by decide +kernel
theorem dL_law_3153 : decode cL_law 3153 = .ok (.iload 6, 2) := by decide +kernel
theorem dL_law_3155 : decode cL_law 3155 = .ok (.if_icmp .eq 5, 3) := by decide +kernel
theorem dL_law_3158 : decode cL_law 3158 = .ok (.iconst 0, 1) := by decide +kernel
theorem dL_law_3159 : decode cL_law 3159 = .ok (.ireturn, 1) := by decide +kernel
theorem dL_law_3160 : decode cL_law 3160 = .ok (.iload 6, 2) := by decide +kernel
theorem dL_law_3162 : decode cL_law 3162 = .ok (.ifCond .ne 15, 3) := by decide +kernel
theorem dL_law_3165 : decode cL_law 3165 = .ok (.aload_n 3, 1) := by decide +kernel
theorem dL_law_3166 : decode cL_law 3166 = .ok (.iconst 0, 1) := by decide +kernel
theorem dL_law_3167 : decode cL_law 3167 = .ok (.laload, 1) := by decide +kernel
theorem dL_law_3168 : decode cL_law 3168 = .ok (.iload 7, 2) := by decide +kernel
theorem dL_law_3170 : decode cL_law 3170 = .ok (.i2l, 1) := by decide +kernel
theorem dL_law_3171 : decode cL_law 3171 = .ok (.lcmp, 1) := by decide +kernel
theorem dL_law_3172 : decode cL_law 3172 = .ok (.ifCond .eq 5, 3) := by decide +kernel
theorem dL_law_3175 : decode cL_law 3175 = .ok (.iconst 0, 1) := by decide +kernel
theorem dL_law_3176 : decode cL_law 3176 = .ok (.ireturn, 1) := by decide +kernel
theorem dL_law_3177 : decode cL_law 3177 = .ok (.goto 460, 3) := by decide +kernel
theorem dL_law_3180 : decode cL_law 3180 = .ok (.aload_n 1, 1) := by decide +kernel
theorem dL_law_3181 : decode cL_law 3181 = .ok (.aload_n 0, 1) := by decide +kernel
theorem dL_law_3182 : decode cL_law 3182 = .ok (.iload 5, 2) := by decide +kernel
theorem dL_law_3184 : decode cL_law 3184 = .ok (.iconst 1, 1) := by decide +kernel
theorem dL_law_3185 : decode cL_law 3185 = .ok (.iadd, 1) := by decide +kernel
theorem dL_law_3186 : decode cL_law 3186 = .ok (.iaload, 1) := by decide +kernel
theorem dL_law_3187 : decode cL_law 3187 = .ok (.aload_n 0, 1) := by decide +kernel
theorem dL_law_3188 : decode cL_law 3188 = .ok (.iload 5, 2) := by decide +kernel
theorem dL_law_3190 : decode cL_law 3190 = .ok (.iconst 2, 1) := by decide +kernel
theorem dL_law_3191 : decode cL_law 3191 = .ok (.iadd, 1) := by decide +kernel
theorem dL_law_3192 : decode cL_law 3192 = .ok (.iaload, 1) := by decide +kernel
theorem dL_law_3193 : decode cL_law 3193 = .ok (.aload_n 0, 1) := by decide +kernel
theorem dL_law_3194 : decode cL_law 3194 = .ok (.iload 5, 2) := by decide +kernel
theorem dL_law_3196 : decode cL_law 3196 = .ok (.iconst 3, 1) := by decide +kernel
theorem dL_law_3197 : decode cL_law 3197 = .ok (.iadd, 1) := by decide +kernel
theorem dL_law_3198 : decode cL_law 3198 = .ok (.iaload, 1) := by decide +kernel
theorem dL_law_3199 : decode cL_law 3199 = .ok (.aload_n 3, 1) := by decide +kernel
theorem dL_law_3200 : decode cL_law 3200 = .ok (.invokestatic 338, 3) := by decide +kernel
theorem dL_law_3203 : decode cL_law 3203 = .ok (.istore 6, 2) := by decide +kernel
theorem dL_law_3205 : decode cL_law 3205 = .ok (.aload_n 2, 1) := by decide +kernel
theorem dL_law_3206 : decode cL_law 3206 = .ok (.aload_n 0, 1) := by decide +kernel
theorem dL_law_3207 : decode cL_law 3207 = .ok (.iload 5, 2) := by decide +kernel
theorem dL_law_3209 : decode cL_law 3209 = .ok (.iconst 1, 1) := by decide +kernel
theorem dL_law_3210 : decode cL_law 3210 = .ok (.iadd, 1) := by decide +kernel
theorem dL_law_3211 : decode cL_law 3211 = .ok (.iaload, 1) := by decide +kernel
theorem dL_law_3212 : decode cL_law 3212 = .ok (.aload_n 0, 1) := by decide +kernel
theorem dL_law_3213 : decode cL_law 3213 = .ok (.iload 5, 2) := by decide +kernel
theorem dL_law_3215 : decode cL_law 3215 = .ok (.iconst 2, 1) := by decide +kernel
theorem dL_law_3216 : decode cL_law 3216 = .ok (.iadd, 1) := by decide +kernel
theorem dL_law_3217 : decode cL_law 3217 = .ok (.iaload, 1) := by decide +kernel
theorem dL_law_3218 : decode cL_law 3218 = .ok (.aload_n 0, 1) := by decide +kernel
theorem dL_law_3219 : decode cL_law 3219 = .ok (.iload 5, 2) := by decide +kernel
theorem dL_law_3221 : decode cL_law 3221 = .ok (.iconst 3, 1) := by decide +kernel
theorem dL_law_3222 : decode cL_law 3222 = .ok (.iadd, 1) := by decide +kernel
theorem dL_law_3223 : decode cL_law 3223 = .ok (.iaload, 1) := by decide +kernel
theorem dL_law_3224 : decode cL_law 3224 = .ok (.invokevirtual 340, 3) := by decide +kernel
theorem dL_law_3227 : decode cL_law 3227 = .ok (.istore 7, 2) := by decide +kernel
theorem dL_law_3229 : decode cL_law 3229 = .ok (.aload_n 2, 1) := by decide +kernel
theorem dL_law_3230 : decode cL_law 3230 = .ok (.invokevirtual 181, 3) := by decide +kernel
theorem dL_law_3233 : decode cL_law 3233 = .ok (.iload 6, 2) := by decide +kernel
theorem dL_law_3235 : decode cL_law 3235 = .ok (.if_icmp .eq 5, 3) := by decide +kernel
theorem dL_law_3238 : decode cL_law 3238 = .ok (.iconst 0, 1) := by decide +kernel
theorem dL_law_3239 : decode cL_law 3239 = .ok (.ireturn, 1) := by decide +kernel
theorem dL_law_3240 : decode cL_law 3240 = .ok (.iload 6, 2) := by decide +kernel
theorem dL_law_3242 : decode cL_law 3242 = .ok (.ifCond .ne 15, 3) := by decide +kernel
theorem dL_law_3245 : decode cL_law 3245 = .ok (.aload_n 3, 1) := by decide +kernel
theorem dL_law_3246 : decode cL_law 3246 = .ok (.iconst 0, 1) := by decide +kernel
theorem dL_law_3247 : decode cL_law 3247 = .ok (.laload, 1) := by decide +kernel
theorem dL_law_3248 : decode cL_law 3248 = .ok (.iload 7, 2) := by decide +kernel
theorem dL_law_3250 : decode cL_law 3250 = .ok (.i2l, 1) := by decide +kernel
theorem dL_law_3251 : decode cL_law 3251 = .ok (.lcmp, 1) := by decide +kernel
theorem dL_law_3252 : decode cL_law 3252 = .ok (.ifCond .eq 5, 3) := by decide +kernel
theorem dL_law_3255 : decode cL_law 3255 = .ok (.iconst 0, 1) := by decide +kernel
theorem dL_law_3256 : decode cL_law 3256 = .ok (.ireturn, 1) := by decide +kernel
theorem dL_law_3257 : decode cL_law 3257 = .ok (.goto 380, 3) := by decide +kernel
theorem dL_law_3260 : decode cL_law 3260 = .ok (.aload_n 1, 1) := by decide +kernel
theorem dL_law_3261 : decode cL_law 3261 = .ok (.aload_n 0, 1) := by decide +kernel
theorem dL_law_3262 : decode cL_law 3262 = .ok (.iload 5, 2) := by decide +kernel
theorem dL_law_3264 : decode cL_law 3264 = .ok (.iconst 1, 1) := by decide +kernel
theorem dL_law_3265 : decode cL_law 3265 = .ok (.iadd, 1) := by decide +kernel
theorem dL_law_3266 : decode cL_law 3266 = .ok (.iaload, 1) := by decide +kernel
theorem dL_law_3267 : decode cL_law 3267 = .ok (.aload_n 3, 1) := by decide +kernel
theorem dL_law_3268 : decode cL_law 3268 = .ok (.invokestatic 341, 3) := by decide +kernel
theorem dL_law_3271 : decode cL_law 3271 = .ok (.istore 6, 2) := by decide +kernel
theorem dL_law_3273 : decode cL_law 3273 = .ok (.aload_n 2, 1) := by decide +kernel
theorem dL_law_3274 : decode cL_law 3274 = .ok (.aload_n 0, 1) := by decide +kernel
theorem dL_law_3275 : decode cL_law 3275 = .ok (.iload 5, 2) := by decide +kernel
theorem dL_law_3277 : decode cL_law 3277 = .ok (.iconst 1, 1) := by decide +kernel
theorem dL_law_3278 : decode cL_law 3278 = .ok (.iadd, 1) := by decide +kernel
theorem dL_law_3279 : decode cL_law 3279 = .ok (.iaload, 1) := by decide +kernel
theorem dL_law_3280 : decode cL_law 3280 = .ok (.invokevirtual 343, 3) := by decide +kernel
theorem dL_law_3283 : decode cL_law 3283 = .ok (.istore 7, 2) := by decide +kernel
theorem dL_law_3285 : decode cL_law 3285 = .ok (.aload_n 2, 1) := by decide +kernel
theorem dL_law_3286 : decode cL_law 3286 = .ok (.invokevirtual 181, 3) := by decide +kernel
theorem dL_law_3289 : decode cL_law 3289 = .ok (.iload 6, 2) := by decide +kernel
theorem dL_law_3291 : decode cL_law 3291 = .ok (.if_icmp .eq 5, 3) := by decide +kernel
theorem dL_law_3294 : decode cL_law 3294 = .ok (.iconst 0, 1) := by decide +kernel
theorem dL_law_3295 : decode cL_law 3295 = .ok (.ireturn, 1) := by decide +kernel
theorem dL_law_3296 : decode cL_law 3296 = .ok (.iload 6, 2) := by decide +kernel
theorem dL_law_3298 : decode cL_law 3298 = .ok (.ifCond .ne 15, 3) := by decide +kernel
theorem dL_law_3301 : decode cL_law 3301 = .ok (.aload_n 3, 1) := by decide +kernel
theorem dL_law_3302 : decode cL_law 3302 = .ok (.iconst 0, 1) := by decide +kernel
theorem dL_law_3303 : decode cL_law 3303 = .ok (.laload, 1) := by decide +kernel
theorem dL_law_3304 : decode cL_law 3304 = .ok (.iload 7, 2) := by decide +kernel
theorem dL_law_3306 : decode cL_law 3306 = .ok (.i2l, 1) := by decide +kernel
theorem dL_law_3307 : decode cL_law 3307 = .ok (.lcmp, 1) := by decide +kernel
theorem dL_law_3308 : decode cL_law 3308 = .ok (.ifCond .eq 5, 3) := by decide +kernel
theorem dL_law_3311 : decode cL_law 3311 = .ok (.iconst 0, 1) := by decide +kernel
theorem dL_law_3312 : decode cL_law 3312 = .ok (.ireturn, 1) := by decide +kernel
theorem dL_law_3313 : decode cL_law 3313 = .ok (.goto 324, 3) := by decide +kernel
theorem dL_law_3316 : decode cL_law 3316 = .ok (.aload_n 1, 1) := by decide +kernel
theorem dL_law_3317 : decode cL_law 3317 = .ok (.aload_n 0, 1) := by decide +kernel
theorem dL_law_3318 : decode cL_law 3318 = .ok (.iload 5, 2) := by decide +kernel
theorem dL_law_3320 : decode cL_law 3320 = .ok (.iconst 1, 1) := by decide +kernel
theorem dL_law_3321 : decode cL_law 3321 = .ok (.iadd, 1) := by decide +kernel
theorem dL_law_3322 : decode cL_law 3322 = .ok (.iaload, 1) := by decide +kernel
theorem dL_law_3323 : decode cL_law 3323 = .ok (.ifCond .eq 7, 3) := by decide +kernel
theorem dL_law_3326 : decode cL_law 3326 = .ok (.iconst 1, 1) := by decide +kernel
theorem dL_law_3327 : decode cL_law 3327 = .ok (.goto 4, 3) := by decide +kernel
theorem dL_law_3330 : decode cL_law 3330 = .ok (.iconst 0, 1) := by decide +kernel
theorem dL_law_3331 : decode cL_law 3331 = .ok (.invokevirtual 344, 3) := by decide +kernel
theorem dL_law_3334 : decode cL_law 3334 = .ok (.aload_n 2, 1) := by decide +kernel
theorem dL_law_3335 : decode cL_law 3335 = .ok (.aload_n 0, 1) := by decide +kernel
theorem dL_law_3336 : decode cL_law 3336 = .ok (.iload 5, 2) := by decide +kernel
theorem dL_law_3338 : decode cL_law 3338 = .ok (.iconst 1, 1) := by decide +kernel
theorem dL_law_3339 : decode cL_law 3339 = .ok (.iadd, 1) := by decide +kernel
theorem dL_law_3340 : decode cL_law 3340 = .ok (.iaload, 1) := by decide +kernel
theorem dL_law_3341 : decode cL_law 3341 = .ok (.ifCond .eq 7, 3) := by decide +kernel
theorem dL_law_3344 : decode cL_law 3344 = .ok (.iconst 1, 1) := by decide +kernel
theorem dL_law_3345 : decode cL_law 3345 = .ok (.goto 4, 3) := by decide +kernel
theorem dL_law_3348 : decode cL_law 3348 = .ok (.iconst 0, 1) := by decide +kernel
theorem dL_law_3349 : decode cL_law 3349 = .ok (.invokevirtual 348, 3) := by decide +kernel
theorem dL_law_3352 : decode cL_law 3352 = .ok (.if_icmp .eq 285, 3) := by decide +kernel
theorem dL_law_3355 : decode cL_law 3355 = .ok (.iconst 0, 1) := by decide +kernel
theorem dL_law_3356 : decode cL_law 3356 = .ok (.ireturn, 1) := by decide +kernel
theorem dL_law_3357 : decode cL_law 3357 = .ok (.aload_n 1, 1) := by decide +kernel
theorem dL_law_3358 : decode cL_law 3358 = .ok (.aload_n 0, 1) := by decide +kernel
theorem dL_law_3359 : decode cL_law 3359 = .ok (.iload 5, 2) := by decide +kernel
theorem dL_law_3361 : decode cL_law 3361 = .ok (.iconst 1, 1) := by decide +kernel
theorem dL_law_3362 : decode cL_law 3362 = .ok (.iadd, 1) := by decide +kernel
theorem dL_law_3363 : decode cL_law 3363 = .ok (.iaload, 1) := by decide +kernel
theorem dL_law_3364 : decode cL_law 3364 = .ok (.aload_n 3, 1) := by decide +kernel
theorem dL_law_3365 : decode cL_law 3365 = .ok (.invokestatic 349, 3) := by decide +kernel
theorem dL_law_3368 : decode cL_law 3368 = .ok (.istore 6, 2) := by decide +kernel
theorem dL_law_3370 : decode cL_law 3370 = .ok (.aload_n 2, 1) := by decide +kernel
theorem dL_law_3371 : decode cL_law 3371 = .ok (.aload_n 0, 1) := by decide +kernel
theorem dL_law_3372 : decode cL_law 3372 = .ok (.iload 5, 2) := by decide +kernel
theorem dL_law_3374 : decode cL_law 3374 = .ok (.iconst 1, 1) := by decide +kernel
theorem dL_law_3375 : decode cL_law 3375 = .ok (.iadd, 1) := by decide +kernel
theorem dL_law_3376 : decode cL_law 3376 = .ok (.iaload, 1) := by decide +kernel
theorem dL_law_3377 : decode cL_law 3377 = .ok (.invokevirtual 351, 3) := by decide +kernel
theorem dL_law_3380 : decode cL_law 3380 = .ok (.istore 7, 2) := by decide +kernel
theorem dL_law_3382 : decode cL_law 3382 = .ok (.aload_n 2, 1) := by decide +kernel
theorem dL_law_3383 : decode cL_law 3383 = .ok (.invokevirtual 181, 3) := by decide +kernel
theorem dL_law_3386 : decode cL_law 3386 = .ok (.iload 6, 2) := by decide +kernel
theorem dL_law_3388 : decode cL_law 3388 = .ok (.if_icmp .eq 5, 3) := by decide +kernel
theorem dL_law_3391 : decode cL_law 3391 = .ok (.iconst 0, 1) := by decide +kernel
theorem dL_law_3392 : decode cL_law 3392 = .ok (.ireturn, 1) := by decide +kernel
theorem dL_law_3393 : decode cL_law 3393 = .ok (.iload 6, 2) := by decide +kernel
theorem dL_law_3395 : decode cL_law 3395 = .ok (.ifCond .ne 15, 3) := by decide +kernel
theorem dL_law_3398 : decode cL_law 3398 = .ok (.aload_n 3, 1) := by decide +kernel
theorem dL_law_3399 : decode cL_law 3399 = .ok (.iconst 0, 1) := by decide +kernel
theorem dL_law_3400 : decode cL_law 3400 = .ok (.laload, 1) := by decide +kernel
theorem dL_law_3401 : decode cL_law 3401 = .ok (.iload 7, 2) := by decide +kernel
theorem dL_law_3403 : decode cL_law 3403 = .ok (.i2l, 1) := by decide +kernel
theorem dL_law_3404 : decode cL_law 3404 = .ok (.lcmp, 1) := by decide +kernel
theorem dL_law_3405 : decode cL_law 3405 = .ok (.ifCond .eq 5, 3) := by decide +kernel
theorem dL_law_3408 : decode cL_law 3408 = .ok (.iconst 0, 1) := by decide +kernel
theorem dL_law_3409 : decode cL_law 3409 = .ok (.ireturn, 1) := by decide +kernel
theorem dL_law_3410 : decode cL_law 3410 = .ok (.goto 227, 3) := by decide +kernel
theorem dL_law_3413 : decode cL_law 3413 = .ok (.aload_n 1, 1) := by decide +kernel
theorem dL_law_3414 : decode cL_law 3414 = .ok (.aload_n 0, 1) := by decide +kernel
theorem dL_law_3415 : decode cL_law 3415 = .ok (.iload 5, 2) := by decide +kernel
theorem dL_law_3417 : decode cL_law 3417 = .ok (.iconst 1, 1) := by decide +kernel
theorem dL_law_3418 : decode cL_law 3418 = .ok (.iadd, 1) := by decide +kernel
theorem dL_law_3419 : decode cL_law 3419 = .ok (.iaload, 1) := by decide +kernel
theorem dL_law_3420 : decode cL_law 3420 = .ok (.aload_n 3, 1) := by decide +kernel
theorem dL_law_3421 : decode cL_law 3421 = .ok (.invokestatic 352, 3) := by decide +kernel
theorem dL_law_3424 : decode cL_law 3424 = .ok (.istore 6, 2) := by decide +kernel
theorem dL_law_3426 : decode cL_law 3426 = .ok (.aload_n 2, 1) := by decide +kernel
theorem dL_law_3427 : decode cL_law 3427 = .ok (.aload_n 0, 1) := by decide +kernel
theorem dL_law_3428 : decode cL_law 3428 = .ok (.iload 5, 2) := by decide +kernel
theorem dL_law_3430 : decode cL_law 3430 = .ok (.iconst 1, 1) := by decide +kernel
theorem dL_law_3431 : decode cL_law 3431 = .ok (.iadd, 1) := by decide +kernel
theorem dL_law_3432 : decode cL_law 3432 = .ok (.iaload, 1) := by decide +kernel
theorem dL_law_3433 : decode cL_law 3433 = .ok (.invokevirtual 354, 3) := by decide +kernel
theorem dL_law_3436 : decode cL_law 3436 = .ok (.istore 7, 2) := by decide +kernel
theorem dL_law_3438 : decode cL_law 3438 = .ok (.aload_n 2, 1) := by decide +kernel
theorem dL_law_3439 : decode cL_law 3439 = .ok (.invokevirtual 181, 3) := by decide +kernel
theorem dL_law_3442 : decode cL_law 3442 = .ok (.iload 6, 2) := by decide +kernel
theorem dL_law_3444 : decode cL_law 3444 = .ok (.if_icmp .eq 5, 3) := by decide +kernel
theorem dL_law_3447 : decode cL_law 3447 = .ok (.iconst 0, 1) := by decide +kernel
theorem dL_law_3448 : decode cL_law 3448 = .ok (.ireturn, 1) := by decide +kernel
theorem dL_law_3449 : decode cL_law 3449 = .ok (.iload 6, 2) := by decide +kernel
theorem dL_law_3451 : decode cL_law 3451 = .ok (.ifCond .ne 15, 3) := by decide +kernel
theorem dL_law_3454 : decode cL_law 3454 = .ok (.aload_n 3, 1) := by decide +kernel
theorem dL_law_3455 : decode cL_law 3455 = .ok (.iconst 0, 1) := by decide +kernel
theorem dL_law_3456 : decode cL_law 3456 = .ok (.laload, 1) := by decide +kernel
theorem dL_law_3457 : decode cL_law 3457 = .ok (.iload 7, 2) := by decide +kernel
theorem dL_law_3459 : decode cL_law 3459 = .ok (.i2l, 1) := by decide +kernel
theorem dL_law_3460 : decode cL_law 3460 = .ok (.lcmp, 1) := by decide +kernel
theorem dL_law_3461 : decode cL_law 3461 = .ok (.ifCond .eq 5, 3) := by decide +kernel
theorem dL_law_3464 : decode cL_law 3464 = .ok (.iconst 0, 1) := by decide +kernel
theorem dL_law_3465 : decode cL_law 3465 = .ok (.ireturn, 1) := by decide +kernel
theorem dL_law_3466 : decode cL_law 3466 = .ok (.goto 171, 3) := by decide +kernel
theorem dL_law_3469 : decode cL_law 3469 = .ok (.aload_n 1, 1) := by decide +kernel
theorem dL_law_3470 : decode cL_law 3470 = .ok (.aload_n 0, 1) := by decide +kernel
theorem dL_law_3471 : decode cL_law 3471 = .ok (.iload 5, 2) := by decide +kernel
theorem dL_law_3473 : decode cL_law 3473 = .ok (.iconst 1, 1) := by decide +kernel
theorem dL_law_3474 : decode cL_law 3474 = .ok (.iadd, 1) := by decide +kernel
theorem dL_law_3475 : decode cL_law 3475 = .ok (.iaload, 1) := by decide +kernel
theorem dL_law_3476 : decode cL_law 3476 = .ok (.aload_n 3, 1) := by decide +kernel
theorem dL_law_3477 : decode cL_law 3477 = .ok (.invokestatic 355, 3) := by decide +kernel
theorem dL_law_3480 : decode cL_law 3480 = .ok (.istore 6, 2) := by decide +kernel
theorem dL_law_3482 : decode cL_law 3482 = .ok (.aload_n 2, 1) := by decide +kernel
theorem dL_law_3483 : decode cL_law 3483 = .ok (.aload_n 0, 1) := by decide +kernel
theorem dL_law_3484 : decode cL_law 3484 = .ok (.iload 5, 2) := by decide +kernel
theorem dL_law_3486 : decode cL_law 3486 = .ok (.iconst 1, 1) := by decide +kernel
theorem dL_law_3487 : decode cL_law 3487 = .ok (.iadd, 1) := by decide +kernel
theorem dL_law_3488 : decode cL_law 3488 = .ok (.iaload, 1) := by decide +kernel
theorem dL_law_3489 : decode cL_law 3489 = .ok (.invokevirtual 357, 3) := by decide +kernel
theorem dL_law_3492 : decode cL_law 3492 = .ok (.istore 7, 2) := by decide +kernel
theorem dL_law_3494 : decode cL_law 3494 = .ok (.aload_n 2, 1) := by decide +kernel
theorem dL_law_3495 : decode cL_law 3495 = .ok (.invokevirtual 181, 3) := by decide +kernel
theorem dL_law_3498 : decode cL_law 3498 = .ok (.iload 6, 2) := by decide +kernel
theorem dL_law_3500 : decode cL_law 3500 = .ok (.if_icmp .eq 5, 3) := by decide +kernel
theorem dL_law_3503 : decode cL_law 3503 = .ok (.iconst 0, 1) := by decide +kernel
theorem dL_law_3504 : decode cL_law 3504 = .ok (.ireturn, 1) := by decide +kernel
theorem dL_law_3505 : decode cL_law 3505 = .ok (.iload 6, 2) := by decide +kernel
theorem dL_law_3507 : decode cL_law 3507 = .ok (.ifCond .ne 15, 3) := by decide +kernel
theorem dL_law_3510 : decode cL_law 3510 = .ok (.aload_n 3, 1) := by decide +kernel
theorem dL_law_3511 : decode cL_law 3511 = .ok (.iconst 0, 1) := by decide +kernel
theorem dL_law_3512 : decode cL_law 3512 = .ok (.laload, 1) := by decide +kernel
theorem dL_law_3513 : decode cL_law 3513 = .ok (.iload 7, 2) := by decide +kernel
theorem dL_law_3515 : decode cL_law 3515 = .ok (.i2l, 1) := by decide +kernel
theorem dL_law_3516 : decode cL_law 3516 = .ok (.lcmp, 1) := by decide +kernel
theorem dL_law_3517 : decode cL_law 3517 = .ok (.ifCond .eq 5, 3) := by decide +kernel
theorem dL_law_3520 : decode cL_law 3520 = .ok (.iconst 0, 1) := by decide +kernel
theorem dL_law_3521 : decode cL_law 3521 = .ok (.ireturn, 1) := by decide +kernel
theorem dL_law_3522 : decode cL_law 3522 = .ok (.goto 115, 3) := by decide +kernel
theorem dL_law_3525 : decode cL_law 3525 = .ok (.aload_n 1, 1) := by decide +kernel
theorem dL_law_3526 : decode cL_law 3526 = .ok (.invokevirtual 358, 3) := by decide +kernel
theorem dL_law_3529 : decode cL_law 3529 = .ok (.aload_n 2, 1) := by decide +kernel
theorem dL_law_3530 : decode cL_law 3530 = .ok (.invokevirtual 361, 3) := by decide +kernel
theorem dL_law_3533 : decode cL_law 3533 = .ok (.if_icmp .eq 104, 3) := by decide +kernel
theorem dL_law_3536 : decode cL_law 3536 = .ok (.iconst 0, 1) := by decide +kernel
theorem dL_law_3537 : decode cL_law 3537 = .ok (.ireturn, 1) := by decide +kernel
theorem dL_law_3538 : decode cL_law 3538 = .ok (.aload_n 1, 1) := by decide +kernel
theorem dL_law_3539 : decode cL_law 3539 = .ok (.aload_n 3, 1) := by decide +kernel
theorem dL_law_3540 : decode cL_law 3540 = .ok (.invokestatic 362, 3) := by decide +kernel
theorem dL_law_3543 : decode cL_law 3543 = .ok (.istore 6, 2) := by decide +kernel
theorem dL_law_3545 : decode cL_law 3545 = .ok (.aload_n 2, 1) := by decide +kernel
theorem dL_law_3546 : decode cL_law 3546 = .ok (.invokevirtual 365, 3) := by decide +kernel
theorem dL_law_3549 : decode cL_law 3549 = .ok (.istore 7, 2) := by decide +kernel
theorem dL_law_3551 : decode cL_law 3551 = .ok (.aload_n 2, 1) := by decide +kernel
theorem dL_law_3552 : decode cL_law 3552 = .ok (.invokevirtual 181, 3) := by decide +kernel
theorem dL_law_3555 : decode cL_law 3555 = .ok (.iload 6, 2) := by decide +kernel
theorem dL_law_3557 : decode cL_law 3557 = .ok (.if_icmp .eq 5, 3) := by decide +kernel
theorem dL_law_3560 : decode cL_law 3560 = .ok (.iconst 0, 1) := by decide +kernel
theorem dL_law_3561 : decode cL_law 3561 = .ok (.ireturn, 1) := by decide +kernel
theorem dL_law_3562 : decode cL_law 3562 = .ok (.iload 6, 2) := by decide +kernel
theorem dL_law_3564 : decode cL_law 3564 = .ok (.ifCond .ne 15, 3) := by decide +kernel
theorem dL_law_3567 : decode cL_law 3567 = .ok (.aload_n 3, 1) := by decide +kernel
theorem dL_law_3568 : decode cL_law 3568 = .ok (.iconst 0, 1) := by decide +kernel
theorem dL_law_3569 : decode cL_law 3569 = .ok (.laload, 1) := by decide +kernel
theorem dL_law_3570 : decode cL_law 3570 = .ok (.iload 7, 2) := by decide +kernel
theorem dL_law_3572 : decode cL_law 3572 = .ok (.i2l, 1) := by decide +kernel
theorem dL_law_3573 : decode cL_law 3573 = .ok (.lcmp, 1) := by decide +kernel
theorem dL_law_3574 : decode cL_law 3574 = .ok (.ifCond .eq 5, 3) := by decide +kernel
theorem dL_law_3577 : decode cL_law 3577 = .ok (.iconst 0, 1) := by decide +kernel
theorem dL_law_3578 : decode cL_law 3578 = .ok (.ireturn, 1) := by decide +kernel
theorem dL_law_3579 : decode cL_law 3579 = .ok (.goto 58, 3) := by decide +kernel
theorem dL_law_3582 : decode cL_law 3582 = .ok (.aload_n 1, 1) := by decide +kernel
theorem dL_law_3583 : decode cL_law 3583 = .ok (.invokevirtual 366, 3) := by decide +kernel
theorem dL_law_3586 : decode cL_law 3586 = .ok (.aload_n 2, 1) := by decide +kernel
theorem dL_law_3587 : decode cL_law 3587 = .ok (.invokevirtual 369, 3) := by decide +kernel
theorem dL_law_3590 : decode cL_law 3590 = .ok (.goto 47, 3) := by decide +kernel
theorem dL_law_3593 : decode cL_law 3593 = .ok (.aload_n 1, 1) := by decide +kernel
theorem dL_law_3594 : decode cL_law 3594 = .ok (.aload_n 3, 1) := by decide +kernel
theorem dL_law_3595 : decode cL_law 3595 = .ok (.invokestatic 370, 3) := by decide +kernel
theorem dL_law_3598 : decode cL_law 3598 = .ok (.istore 6, 2) := by decide +kernel
theorem dL_law_3600 : decode cL_law 3600 = .ok (.aload_n 2, 1) := by decide +kernel
theorem dL_law_3601 : decode cL_law 3601 = .ok (.invokevirtual 372, 3) := by decide +kernel
theorem dL_law_3604 : decode cL_law 3604 = .ok (.istore 7, 2) := by decide +kernel
theorem dL_law_3606 : decode cL_law 3606 = .ok (.aload_n 2, 1) := by decide +kernel
theorem dL_law_3607 : decode cL_law 3607 = .ok (.invokevirtual 181, 3) := by decide +kernel
theorem dL_law_3610 : decode cL_law 3610 = .ok (.iload 6, 2) := by decide +kernel
theorem dL_law_3612 : decode cL_law 3612 = .ok (.if_icmp .eq 5, 3) := by decide +kernel
theorem dL_law_3615 : decode cL_law 3615 = .ok (.iconst 0, 1) := by decide +kernel
theorem dL_law_3616 : decode cL_law 3616 = .ok (.ireturn, 1) := by decide +kernel
theorem dL_law_3617 : decode cL_law 3617 = .ok (.iload 6, 2) := by decide +kernel
theorem dL_law_3619 : decode cL_law 3619 = .ok (.ifCond .ne 15, 3) := by decide +kernel
theorem dL_law_3622 : decode cL_law 3622 = .ok (.aload_n 3, 1) := by decide +kernel
theorem dL_law_3623 : decode cL_law 3623 = .ok (.iconst 0, 1) := by decide +kernel
theorem dL_law_3624 : decode cL_law 3624 = .ok (.laload, 1) := by decide +kernel
theorem dL_law_3625 : decode cL_law 3625 = .ok (.iload 7, 2) := by decide +kernel
theorem dL_law_3627 : decode cL_law 3627 = .ok (.i2l, 1) := by decide +kernel
theorem dL_law_3628 : decode cL_law 3628 = .ok (.lcmp, 1) := by decide +kernel
theorem dL_law_3629 : decode cL_law 3629 = .ok (.ifCond .eq 5, 3) := by decide +kernel
theorem dL_law_3632 : decode cL_law 3632 = .ok (.iconst 0, 1) := by decide +kernel
theorem dL_law_3633 : decode cL_law 3633 = .ok (.ireturn, 1) := by decide +kernel
theorem dL_law_3634 : decode cL_law 3634 = .ok (.goto 3, 3) := by decide +kernel
theorem dL_law_3637 : decode cL_law 3637 = .ok (.iinc 5 6, 3) := by decide +kernel
theorem dL_law_3640 : decode cL_law 3640 = .ok (.goto (-3612), 3) := by decide +kernel
theorem dL_law_3643 : decode cL_law 3643 = .ok (.iconst 1, 1) := by decide +kernel
theorem dL_law_3644 : decode cL_law 3644 = .ok (.ireturn, 1) := by decide +kernel

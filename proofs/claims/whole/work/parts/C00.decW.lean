/-! THE WRAPPERS, DECODED -/
theorem dL_load_0 : decode cL_load 0 = .ok (.aload_n 2, 1) := by decide +kernel
theorem dL_load_1 : decode cL_load 1 = .ok (.iconst 0, 1) := by decide +kernel
theorem dL_load_2 : decode cL_load 2 = .ok (.aload_n 0, 1) := by decide +kernel
theorem dL_load_3 : decode cL_load 3 = .ok (.iload_n 1, 1) := by decide +kernel
theorem dL_load_4 : decode cL_load 4 = .ok (.invokevirtual 7, 3) := by decide +kernel
theorem dL_load_7 : decode cL_load 7 = .ok (.i2l, 1) := by decide +kernel
theorem dL_load_8 : decode cL_load 8 = .ok (.lastore, 1) := by decide +kernel
theorem dL_load_9 : decode cL_load 9 = .ok (.goto 9, 3) := by decide +kernel
theorem dL_load_12 : decode cL_load 12 = .ok (.astore_n 3, 1) := by decide +kernel
theorem dL_load_13 : decode cL_load 13 = .ok (.iconst 1, 1) := by decide +kernel
theorem dL_load_14 : decode cL_load 14 = .ok (.ireturn, 1) := by decide +kernel
theorem dL_load_15 : decode cL_load 15 = .ok (.astore_n 3, 1) := by decide +kernel
theorem dL_load_16 : decode cL_load 16 = .ok (.iconst 2, 1) := by decide +kernel
theorem dL_load_17 : decode cL_load 17 = .ok (.ireturn, 1) := by decide +kernel
theorem dL_load_18 : decode cL_load 18 = .ok (.iconst 0, 1) := by decide +kernel
theorem dL_load_19 : decode cL_load 19 = .ok (.ireturn, 1) := by decide +kernel
theorem dL_stateOf_0 : decode cL_stateOf 0 = .ok (.aload_n 2, 1) := by decide +kernel
theorem dL_stateOf_1 : decode cL_stateOf 1 = .ok (.iconst 0, 1) := by decide +kernel
theorem dL_stateOf_2 : decode cL_stateOf 2 = .ok (.aload_n 0, 1) := by decide +kernel
theorem dL_stateOf_3 : decode cL_stateOf 3 = .ok (.iload_n 1, 1) := by decide +kernel
theorem dL_stateOf_4 : decode cL_stateOf 4 = .ok (.invokevirtual 17, 3) := by decide +kernel
theorem dL_stateOf_7 : decode cL_stateOf 7 = .ok (.i2l, 1) := by decide +kernel
theorem dL_stateOf_8 : decode cL_stateOf 8 = .ok (.lastore, 1) := by decide +kernel
theorem dL_stateOf_9 : decode cL_stateOf 9 = .ok (.goto 9, 3) := by decide +kernel
theorem dL_stateOf_12 : decode cL_stateOf 12 = .ok (.astore_n 3, 1) := by decide +kernel
theorem dL_stateOf_13 : decode cL_stateOf 13 = .ok (.iconst 1, 1) := by decide +kernel
theorem dL_stateOf_14 : decode cL_stateOf 14 = .ok (.ireturn, 1) := by decide +kernel
theorem dL_stateOf_15 : decode cL_stateOf 15 = .ok (.astore_n 3, 1) := by decide +kernel
theorem dL_stateOf_16 : decode cL_stateOf 16 = .ok (.iconst 2, 1) := by decide +kernel
theorem dL_stateOf_17 : decode cL_stateOf 17 = .ok (.ireturn, 1) := by decide +kernel
theorem dL_stateOf_18 : decode cL_stateOf 18 = .ok (.iconst 0, 1) := by decide +kernel
theorem dL_stateOf_19 : decode cL_stateOf 19 = .ok (.ireturn, 1) := by decide +kernel
theorem dL_flightOf_0 : decode cL_flightOf 0 = .ok (.aload_n 2, 1) := by decide +kernel
theorem dL_flightOf_1 : decode cL_flightOf 1 = .ok (.iconst 0, 1) := by decide +kernel
theorem dL_flightOf_2 : decode cL_flightOf 2 = .ok (.aload_n 0, 1) := by decide +kernel
theorem dL_flightOf_3 : decode cL_flightOf 3 = .ok (.iload_n 1, 1) := by decide +kernel
theorem dL_flightOf_4 : decode cL_flightOf 4 = .ok (.invokevirtual 22, 3) := by decide +kernel
theorem dL_flightOf_7 : decode cL_flightOf 7 = .ok (.i2l, 1) := by decide +kernel
theorem dL_flightOf_8 : decode cL_flightOf 8 = .ok (.lastore, 1) := by decide +kernel
theorem dL_flightOf_9 : decode cL_flightOf 9 = .ok (.goto 9, 3) := by decide +kernel
theorem dL_flightOf_12 : decode cL_flightOf 12 = .ok (.astore_n 3, 1) := by decide +kernel
theorem dL_flightOf_13 : decode cL_flightOf 13 = .ok (.iconst 1, 1) := by decide +kernel
theorem dL_flightOf_14 : decode cL_flightOf 14 = .ok (.ireturn, 1) := by decide +kernel
theorem dL_flightOf_15 : decode cL_flightOf 15 = .ok (.astore_n 3, 1) := by decide +kernel
theorem dL_flightOf_16 : decode cL_flightOf 16 = .ok (.iconst 2, 1) := by decide +kernel
theorem dL_flightOf_17 : decode cL_flightOf 17 = .ok (.ireturn, 1) := by decide +kernel
theorem dL_flightOf_18 : decode cL_flightOf 18 = .ok (.iconst 0, 1) := by decide +kernel
theorem dL_flightOf_19 : decode cL_flightOf 19 = .ok (.ireturn, 1) := by decide +kernel
theorem dL_arrivalOf_0 : decode cL_arrivalOf 0 = .ok (.aload_n 2, 1) := by decide +kernel
theorem dL_arrivalOf_1 : decode cL_arrivalOf 1 = .ok (.iconst 0, 1) := by decide +kernel
theorem dL_arrivalOf_2 : decode cL_arrivalOf 2 = .ok (.aload_n 0, 1) := by decide +kernel
theorem dL_arrivalOf_3 : decode cL_arrivalOf 3 = .ok (.iload_n 1, 1) := by decide +kernel
theorem dL_arrivalOf_4 : decode cL_arrivalOf 4 = .ok (.invokevirtual 25, 3) := by decide +kernel
theorem dL_arrivalOf_7 : decode cL_arrivalOf 7 = .ok (.i2l, 1) := by decide +kernel
theorem dL_arrivalOf_8 : decode cL_arrivalOf 8 = .ok (.lastore, 1) := by decide +kernel
theorem dL_arrivalOf_9 : decode cL_arrivalOf 9 = .ok (.goto 9, 3) := by decide +kernel
theorem dL_arrivalOf_12 : decode cL_arrivalOf 12 = .ok (.astore_n 3, 1) := by decide +kernel
theorem dL_arrivalOf_13 : decode cL_arrivalOf 13 = .ok (.iconst 1, 1) := by decide +kernel
theorem dL_arrivalOf_14 : decode cL_arrivalOf 14 = .ok (.ireturn, 1) := by decide +kernel
theorem dL_arrivalOf_15 : decode cL_arrivalOf 15 = .ok (.astore_n 3, 1) := by decide +kernel
theorem dL_arrivalOf_16 : decode cL_arrivalOf 16 = .ok (.iconst 2, 1) := by decide +kernel
theorem dL_arrivalOf_17 : decode cL_arrivalOf 17 = .ok (.ireturn, 1) := by decide +kernel
theorem dL_arrivalOf_18 : decode cL_arrivalOf 18 = .ok (.iconst 0, 1) := by decide +kernel
theorem dL_arrivalOf_19 : decode cL_arrivalOf 19 = .ok (.ireturn, 1) := by decide +kernel
theorem dL_positionOf_0 : decode cL_positionOf 0 = .ok (.aload_n 2, 1) := by decide +kernel
theorem dL_positionOf_1 : decode cL_positionOf 1 = .ok (.iconst 0, 1) := by decide +kernel
theorem dL_positionOf_2 : decode cL_positionOf 2 = .ok (.aload_n 0, 1) := by decide +kernel
theorem dL_positionOf_3 : decode cL_positionOf 3 = .ok (.iload_n 1, 1) := by decide +kernel
theorem dL_positionOf_4 : decode cL_positionOf 4 = .ok (.invokevirtual 28, 3) := by decide +kernel
theorem dL_positionOf_7 : decode cL_positionOf 7 = .ok (.i2l, 1) := by decide +kernel
theorem dL_positionOf_8 : decode cL_positionOf 8 = .ok (.lastore, 1) := by decide +kernel
theorem dL_positionOf_9 : decode cL_positionOf 9 = .ok (.goto 9, 3) := by decide +kernel
theorem dL_positionOf_12 : decode cL_positionOf 12 = .ok (.astore_n 3, 1) := by decide +kernel
theorem dL_positionOf_13 : decode cL_positionOf 13 = .ok (.iconst 1, 1) := by decide +kernel
theorem dL_positionOf_14 : decode cL_positionOf 14 = .ok (.ireturn, 1) := by decide +kernel
theorem dL_positionOf_15 : decode cL_positionOf 15 = .ok (.astore_n 3, 1) := by decide +kernel
theorem dL_positionOf_16 : decode cL_positionOf 16 = .ok (.iconst 2, 1) := by decide +kernel
theorem dL_positionOf_17 : decode cL_positionOf 17 = .ok (.ireturn, 1) := by decide +kernel
theorem dL_positionOf_18 : decode cL_positionOf 18 = .ok (.iconst 0, 1) := by decide +kernel
theorem dL_positionOf_19 : decode cL_positionOf 19 = .ok (.ireturn, 1) := by decide +kernel
theorem dL_lapsOf_0 : decode cL_lapsOf 0 = .ok (.aload_n 2, 1) := by decide +kernel
theorem dL_lapsOf_1 : decode cL_lapsOf 1 = .ok (.iconst 0, 1) := by decide +kernel
theorem dL_lapsOf_2 : decode cL_lapsOf 2 = .ok (.aload_n 0, 1) := by decide +kernel
theorem dL_lapsOf_3 : decode cL_lapsOf 3 = .ok (.iload_n 1, 1) := by decide +kernel
theorem dL_lapsOf_4 : decode cL_lapsOf 4 = .ok (.invokevirtual 31, 3) := by decide +kernel
theorem dL_lapsOf_7 : decode cL_lapsOf 7 = .ok (.i2l, 1) := by decide +kernel
theorem dL_lapsOf_8 : decode cL_lapsOf 8 = .ok (.lastore, 1) := by decide +kernel
theorem dL_lapsOf_9 : decode cL_lapsOf 9 = .ok (.goto 9, 3) := by decide +kernel
theorem dL_lapsOf_12 : decode cL_lapsOf 12 = .ok (.astore_n 3, 1) := by decide +kernel
theorem dL_lapsOf_13 : decode cL_lapsOf 13 = .ok (.iconst 1, 1) := by decide +kernel
theorem dL_lapsOf_14 : decode cL_lapsOf 14 = .ok (.ireturn, 1) := by decide +kernel
theorem dL_lapsOf_15 : decode cL_lapsOf 15 = .ok (.astore_n 3, 1) := by decide +kernel
theorem dL_lapsOf_16 : decode cL_lapsOf 16 = .ok (.iconst 2, 1) := by decide +kernel
theorem dL_lapsOf_17 : decode cL_lapsOf 17 = .ok (.ireturn, 1) := by decide +kernel
theorem dL_lapsOf_18 : decode cL_lapsOf 18 = .ok (.iconst 0, 1) := by decide +kernel
theorem dL_lapsOf_19 : decode cL_lapsOf 19 = .ok (.ireturn, 1) := by decide +kernel
theorem dL_levelOf_0 : decode cL_levelOf 0 = .ok (.aload_n 2, 1) := by decide +kernel
theorem dL_levelOf_1 : decode cL_levelOf 1 = .ok (.iconst 0, 1) := by decide +kernel
theorem dL_levelOf_2 : decode cL_levelOf 2 = .ok (.aload_n 0, 1) := by decide +kernel
theorem dL_levelOf_3 : decode cL_levelOf 3 = .ok (.iload_n 1, 1) := by decide +kernel
theorem dL_levelOf_4 : decode cL_levelOf 4 = .ok (.invokevirtual 34, 3) := by decide +kernel
theorem dL_levelOf_7 : decode cL_levelOf 7 = .ok (.i2l, 1) := by decide +kernel
theorem dL_levelOf_8 : decode cL_levelOf 8 = .ok (.lastore, 1) := by decide +kernel
theorem dL_levelOf_9 : decode cL_levelOf 9 = .ok (.goto 9, 3) := by decide +kernel
theorem dL_levelOf_12 : decode cL_levelOf 12 = .ok (.astore_n 3, 1) := by decide +kernel
theorem dL_levelOf_13 : decode cL_levelOf 13 = .ok (.iconst 1, 1) := by decide +kernel
theorem dL_levelOf_14 : decode cL_levelOf 14 = .ok (.ireturn, 1) := by decide +kernel
theorem dL_levelOf_15 : decode cL_levelOf 15 = .ok (.astore_n 3, 1) := by decide +kernel
theorem dL_levelOf_16 : decode cL_levelOf 16 = .ok (.iconst 2, 1) := by decide +kernel
theorem dL_levelOf_17 : decode cL_levelOf 17 = .ok (.ireturn, 1) := by decide +kernel
theorem dL_levelOf_18 : decode cL_levelOf 18 = .ok (.iconst 0, 1) := by decide +kernel
theorem dL_levelOf_19 : decode cL_levelOf 19 = .ok (.ireturn, 1) := by decide +kernel
theorem dL_laneOf_0 : decode cL_laneOf 0 = .ok (.aload_n 2, 1) := by decide +kernel
theorem dL_laneOf_1 : decode cL_laneOf 1 = .ok (.iconst 0, 1) := by decide +kernel
theorem dL_laneOf_2 : decode cL_laneOf 2 = .ok (.aload_n 0, 1) := by decide +kernel
theorem dL_laneOf_3 : decode cL_laneOf 3 = .ok (.iload_n 1, 1) := by decide +kernel
theorem dL_laneOf_4 : decode cL_laneOf 4 = .ok (.invokevirtual 37, 3) := by decide +kernel
theorem dL_laneOf_7 : decode cL_laneOf 7 = .ok (.i2l, 1) := by decide +kernel
theorem dL_laneOf_8 : decode cL_laneOf 8 = .ok (.lastore, 1) := by decide +kernel
theorem dL_laneOf_9 : decode cL_laneOf 9 = .ok (.goto 9, 3) := by decide +kernel
theorem dL_laneOf_12 : decode cL_laneOf 12 = .ok (.astore_n 3, 1) := by decide +kernel
theorem dL_laneOf_13 : decode cL_laneOf 13 = .ok (.iconst 1, 1) := by decide +kernel
theorem dL_laneOf_14 : decode cL_laneOf 14 = .ok (.ireturn, 1) := by decide +kernel
theorem dL_laneOf_15 : decode cL_laneOf 15 = .ok (.astore_n 3, 1) := by decide +kernel
theorem dL_laneOf_16 : decode cL_laneOf 16 = .ok (.iconst 2, 1) := by decide +kernel
theorem dL_laneOf_17 : decode cL_laneOf 17 = .ok (.ireturn, 1) := by decide +kernel
theorem dL_laneOf_18 : decode cL_laneOf 18 = .ok (.iconst 0, 1) := by decide +kernel
theorem dL_laneOf_19 : decode cL_laneOf 19 = .ok (.ireturn, 1) := by decide +kernel
theorem dL_ticksTo_0 : decode cL_ticksTo 0 = .ok (.aload_n 2, 1) := by decide +kernel
theorem dL_ticksTo_1 : decode cL_ticksTo 1 = .ok (.iconst 0, 1) := by decide +kernel
theorem dL_ticksTo_2 : decode cL_ticksTo 2 = .ok (.aload_n 0, 1) := by decide +kernel
theorem dL_ticksTo_3 : decode cL_ticksTo 3 = .ok (.iload_n 1, 1) := by decide +kernel
theorem dL_ticksTo_4 : decode cL_ticksTo 4 = .ok (.invokevirtual 40, 3) := by decide +kernel
theorem dL_ticksTo_7 : decode cL_ticksTo 7 = .ok (.i2l, 1) := by decide +kernel
theorem dL_ticksTo_8 : decode cL_ticksTo 8 = .ok (.lastore, 1) := by decide +kernel
theorem dL_ticksTo_9 : decode cL_ticksTo 9 = .ok (.goto 9, 3) := by decide +kernel
theorem dL_ticksTo_12 : decode cL_ticksTo 12 = .ok (.astore_n 3, 1) := by decide +kernel
theorem dL_ticksTo_13 : decode cL_ticksTo 13 = .ok (.iconst 1, 1) := by decide +kernel
theorem dL_ticksTo_14 : decode cL_ticksTo 14 = .ok (.ireturn, 1) := by decide +kernel
theorem dL_ticksTo_15 : decode cL_ticksTo 15 = .ok (.astore_n 3, 1) := by decide +kernel
theorem dL_ticksTo_16 : decode cL_ticksTo 16 = .ok (.iconst 2, 1) := by decide +kernel
theorem dL_ticksTo_17 : decode cL_ticksTo 17 = .ok (.ireturn, 1) := by decide +kernel
theorem dL_ticksTo_18 : decode cL_ticksTo 18 = .ok (.iconst 0, 1) := by decide +kernel
theorem dL_ticksTo_19 : decode cL_ticksTo 19 = .ok (.ireturn, 1) := by decide +kernel
theorem dL_finishedAt_0 : decode cL_finishedAt 0 = .ok (.aload_n 2, 1) := by decide +kernel
theorem dL_finishedAt_1 : decode cL_finishedAt 1 = .ok (.iconst 0, 1) := by decide +kernel
theorem dL_finishedAt_2 : decode cL_finishedAt 2 = .ok (.aload_n 0, 1) := by decide +kernel
theorem dL_finishedAt_3 : decode cL_finishedAt 3 = .ok (.iload_n 1, 1) := by decide +kernel
theorem dL_finishedAt_4 : decode cL_finishedAt 4 = .ok (.invokevirtual 43, 3) := by decide +kernel
theorem dL_finishedAt_7 : decode cL_finishedAt 7 = .ok (.i2l, 1) := by decide +kernel
theorem dL_finishedAt_8 : decode cL_finishedAt 8 = .ok (.lastore, 1) := by decide +kernel
theorem dL_finishedAt_9 : decode cL_finishedAt 9 = .ok (.goto 9, 3) := by decide +kernel
theorem dL_finishedAt_12 : decode cL_finishedAt 12 = .ok (.astore_n 3, 1) := by decide +kernel
theorem dL_finishedAt_13 : decode cL_finishedAt 13 = .ok (.iconst 1, 1) := by decide +kernel
theorem dL_finishedAt_14 : decode cL_finishedAt 14 = .ok (.ireturn, 1) := by decide +kernel
theorem dL_finishedAt_15 : decode cL_finishedAt 15 = .ok (.astore_n 3, 1) := by decide +kernel
theorem dL_finishedAt_16 : decode cL_finishedAt 16 = .ok (.iconst 2, 1) := by decide +kernel
theorem dL_finishedAt_17 : decode cL_finishedAt 17 = .ok (.ireturn, 1) := by decide +kernel
theorem dL_finishedAt_18 : decode cL_finishedAt 18 = .ok (.iconst 0, 1) := by decide +kernel
theorem dL_finishedAt_19 : decode cL_finishedAt 19 = .ok (.ireturn, 1) := by decide +kernel
theorem dL_isHot_0 : decode cL_isHot 0 = .ok (.aload_n 2, 1) := by decide +kernel
theorem dL_isHot_1 : decode cL_isHot 1 = .ok (.iconst 0, 1) := by decide +kernel
theorem dL_isHot_2 : decode cL_isHot 2 = .ok (.aload_n 0, 1) := by decide +kernel
theorem dL_isHot_3 : decode cL_isHot 3 = .ok (.iload_n 1, 1) := by decide +kernel
theorem dL_isHot_4 : decode cL_isHot 4 = .ok (.invokevirtual 46, 3) := by decide +kernel
theorem dL_isHot_7 : decode cL_isHot 7 = .ok (.ifCond .eq 7, 3) := by decide +kernel
theorem dL_isHot_10 : decode cL_isHot 10 = .ok (.lconst 1, 1) := by decide +kernel
theorem dL_isHot_11 : decode cL_isHot 11 = .ok (.goto 4, 3) := by decide +kernel
theorem dL_isHot_14 : decode cL_isHot 14 = .ok (.lconst 0, 1) := by decide +kernel
theorem dL_isHot_15 : decode cL_isHot 15 = .ok (.lastore, 1) := by decide +kernel
theorem dL_isHot_16 : decode cL_isHot 16 = .ok (.goto 9, 3) := by decide +kernel
theorem dL_isHot_19 : decode cL_isHot 19 = .ok (.astore_n 3, 1) := by decide +kernel
theorem dL_isHot_20 : decode cL_isHot 20 = .ok (.iconst 1, 1) := by decide +kernel
theorem dL_isHot_21 : decode cL_isHot 21 = .ok (.ireturn, 1) := by decide +kernel
theorem dL_isHot_22 : decode cL_isHot 22 = .ok (.astore_n 3, 1) := by decide +kernel
theorem dL_isHot_23 : decode cL_isHot 23 = .ok (.iconst 2, 1) := by decide +kernel
theorem dL_isHot_24 : decode cL_isHot 24 = .ok (.ireturn, 1) := by decide +kernel
theorem dL_isHot_25 : decode cL_isHot 25 = .ok (.iconst 0, 1) := by decide +kernel
theorem dL_isHot_26 : decode cL_isHot 26 = .ok (.ireturn, 1) := by decide +kernel
theorem dL_isKept_0 : decode cL_isKept 0 = .ok (.aload_n 2, 1) := by decide +kernel
theorem dL_isKept_1 : decode cL_isKept 1 = .ok (.iconst 0, 1) := by decide +kernel
theorem dL_isKept_2 : decode cL_isKept 2 = .ok (.aload_n 0, 1) := by decide +kernel
theorem dL_isKept_3 : decode cL_isKept 3 = .ok (.iload_n 1, 1) := by decide +kernel
theorem dL_isKept_4 : decode cL_isKept 4 = .ok (.invokevirtual 50, 3) := by decide +kernel
theorem dL_isKept_7 : decode cL_isKept 7 = .ok (.ifCond .eq 7, 3) := by decide +kernel
theorem dL_isKept_10 : decode cL_isKept 10 = .ok (.lconst 1, 1) := by decide +kernel
theorem dL_isKept_11 : decode cL_isKept 11 = .ok (.goto 4, 3) := by decide +kernel
theorem dL_isKept_14 : decode cL_isKept 14 = .ok (.lconst 0, 1) := by decide +kernel
theorem dL_isKept_15 : decode cL_isKept 15 = .ok (.lastore, 1) := by decide +kernel
theorem dL_isKept_16 : decode cL_isKept 16 = .ok (.goto 9, 3) := by decide +kernel
theorem dL_isKept_19 : decode cL_isKept 19 = .ok (.astore_n 3, 1) := by decide +kernel
theorem dL_isKept_20 : decode cL_isKept 20 = .ok (.iconst 1, 1) := by decide +kernel
theorem dL_isKept_21 : decode cL_isKept 21 = .ok (.ireturn, 1) := by decide +kernel
theorem dL_isKept_22 : decode cL_isKept 22 = .ok (.astore_n 3, 1) := by decide +kernel
theorem dL_isKept_23 : decode cL_isKept 23 = .ok (.iconst 2, 1) := by decide +kernel
theorem dL_isKept_24 : decode cL_isKept 24 = .ok (.ireturn, 1) := by decide +kernel
theorem dL_isKept_25 : decode cL_isKept 25 = .ok (.iconst 0, 1) := by decide +kernel
theorem dL_isKept_26 : decode cL_isKept 26 = .ok (.ireturn, 1) := by decide +kernel
theorem dL_bagAt_0 : decode cL_bagAt 0 = .ok (.aload_n 2, 1) := by decide +kernel
theorem dL_bagAt_1 : decode cL_bagAt 1 = .ok (.iconst 0, 1) := by decide +kernel
theorem dL_bagAt_2 : decode cL_bagAt 2 = .ok (.aload_n 0, 1) := by decide +kernel
theorem dL_bagAt_3 : decode cL_bagAt 3 = .ok (.iload_n 1, 1) := by decide +kernel
theorem dL_bagAt_4 : decode cL_bagAt 4 = .ok (.invokevirtual 53, 3) := by decide +kernel
theorem dL_bagAt_7 : decode cL_bagAt 7 = .ok (.i2l, 1) := by decide +kernel
theorem dL_bagAt_8 : decode cL_bagAt 8 = .ok (.lastore, 1) := by decide +kernel
theorem dL_bagAt_9 : decode cL_bagAt 9 = .ok (.goto 9, 3) := by decide +kernel
theorem dL_bagAt_12 : decode cL_bagAt 12 = .ok (.astore_n 3, 1) := by decide +kernel
theorem dL_bagAt_13 : decode cL_bagAt 13 = .ok (.iconst 1, 1) := by decide +kernel
theorem dL_bagAt_14 : decode cL_bagAt 14 = .ok (.ireturn, 1) := by decide +kernel
theorem dL_bagAt_15 : decode cL_bagAt 15 = .ok (.astore_n 3, 1) := by decide +kernel
theorem dL_bagAt_16 : decode cL_bagAt 16 = .ok (.iconst 2, 1) := by decide +kernel
theorem dL_bagAt_17 : decode cL_bagAt 17 = .ok (.ireturn, 1) := by decide +kernel
theorem dL_bagAt_18 : decode cL_bagAt 18 = .ok (.iconst 0, 1) := by decide +kernel
theorem dL_bagAt_19 : decode cL_bagAt 19 = .ok (.ireturn, 1) := by decide +kernel
theorem dL_waiting_0 : decode cL_waiting 0 = .ok (.aload_n 2, 1) := by decide +kernel
theorem dL_waiting_1 : decode cL_waiting 1 = .ok (.iconst 0, 1) := by decide +kernel
theorem dL_waiting_2 : decode cL_waiting 2 = .ok (.aload_n 0, 1) := by decide +kernel
theorem dL_waiting_3 : decode cL_waiting 3 = .ok (.iload_n 1, 1) := by decide +kernel
theorem dL_waiting_4 : decode cL_waiting 4 = .ok (.invokevirtual 56, 3) := by decide +kernel
theorem dL_waiting_7 : decode cL_waiting 7 = .ok (.i2l, 1) := by decide +kernel
theorem dL_waiting_8 : decode cL_waiting 8 = .ok (.lastore, 1) := by decide +kernel
theorem dL_waiting_9 : decode cL_waiting 9 = .ok (.goto 9, 3) := by decide +kernel
theorem dL_waiting_12 : decode cL_waiting 12 = .ok (.astore_n 3, 1) := by decide +kernel
theorem dL_waiting_13 : decode cL_waiting 13 = .ok (.iconst 1, 1) := by decide +kernel
theorem dL_waiting_14 : decode cL_waiting 14 = .ok (.ireturn, 1) := by decide +kernel
theorem dL_waiting_15 : decode cL_waiting 15 = .ok (.astore_n 3, 1) := by decide +kernel
theorem dL_waiting_16 : decode cL_waiting 16 = .ok (.iconst 2, 1) := by decide +kernel
theorem dL_waiting_17 : decode cL_waiting 17 = .ok (.ireturn, 1) := by decide +kernel
theorem dL_waiting_18 : decode cL_waiting 18 = .ok (.iconst 0, 1) := by decide +kernel
theorem dL_waiting_19 : decode cL_waiting 19 = .ok (.ireturn, 1) := by decide +kernel
theorem dL_queueAt_0 : decode cL_queueAt 0 = .ok (.aload_n 3, 1) := by decide +kernel
theorem dL_queueAt_1 : decode cL_queueAt 1 = .ok (.iconst 0, 1) := by decide +kernel
theorem dL_queueAt_2 : decode cL_queueAt 2 = .ok (.aload_n 0, 1) := by decide +kernel
theorem dL_queueAt_3 : decode cL_queueAt 3 = .ok (.iload_n 1, 1) := by decide +kernel
theorem dL_queueAt_4 : decode cL_queueAt 4 = .ok (.iload_n 2, 1) := by decide +kernel
theorem dL_queueAt_5 : decode cL_queueAt 5 = .ok (.invokevirtual 59, 3) := by decide +kernel
theorem dL_queueAt_8 : decode cL_queueAt 8 = .ok (.i2l, 1) := by decide +kernel
theorem dL_queueAt_9 : decode cL_queueAt 9 = .ok (.lastore, 1) := by decide +kernel
theorem dL_queueAt_10 : decode cL_queueAt 10 = .ok (.goto 11, 3) := by decide +kernel
theorem dL_queueAt_13 : decode cL_queueAt 13 = .ok (.astore 4, 2) := by decide +kernel
theorem dL_queueAt_15 : decode cL_queueAt 15 = .ok (.iconst 1, 1) := by decide +kernel
theorem dL_queueAt_16 : decode cL_queueAt 16 = .ok (.ireturn, 1) := by decide +kernel
theorem dL_queueAt_17 : decode cL_queueAt 17 = .ok (.astore 4, 2) := by decide +kernel
theorem dL_queueAt_19 : decode cL_queueAt 19 = .ok (.iconst 2, 1) := by decide +kernel
theorem dL_queueAt_20 : decode cL_queueAt 20 = .ok (.ireturn, 1) := by decide +kernel
theorem dL_queueAt_21 : decode cL_queueAt 21 = .ok (.iconst 0, 1) := by decide +kernel
theorem dL_queueAt_22 : decode cL_queueAt 22 = .ok (.ireturn, 1) := by decide +kernel
theorem dL_machineAt_0 : decode cL_machineAt 0 = .ok (.aload_n 3, 1) := by decide +kernel
theorem dL_machineAt_1 : decode cL_machineAt 1 = .ok (.iconst 0, 1) := by decide +kernel
theorem dL_machineAt_2 : decode cL_machineAt 2 = .ok (.aload_n 0, 1) := by decide +kernel
theorem dL_machineAt_3 : decode cL_machineAt 3 = .ok (.iload_n 1, 1) := by decide +kernel
theorem dL_machineAt_4 : decode cL_machineAt 4 = .ok (.iload_n 2, 1) := by decide +kernel
theorem dL_machineAt_5 : decode cL_machineAt 5 = .ok (.invokevirtual 63, 3) := by decide +kernel
theorem dL_machineAt_8 : decode cL_machineAt 8 = .ok (.i2l, 1) := by decide +kernel
theorem dL_machineAt_9 : decode cL_machineAt 9 = .ok (.lastore, 1) := by decide +kernel
theorem dL_machineAt_10 : decode cL_machineAt 10 = .ok (.goto 11, 3) := by decide +kernel
theorem dL_machineAt_13 : decode cL_machineAt 13 = .ok (.astore 4, 2) := by decide +kernel
theorem dL_machineAt_15 : decode cL_machineAt 15 = .ok (.iconst 1, 1) := by decide +kernel
theorem dL_machineAt_16 : decode cL_machineAt 16 = .ok (.ireturn, 1) := by decide +kernel
theorem dL_machineAt_17 : decode cL_machineAt 17 = .ok (.astore 4, 2) := by decide +kernel
theorem dL_machineAt_19 : decode cL_machineAt 19 = .ok (.iconst 2, 1) := by decide +kernel
theorem dL_machineAt_20 : decode cL_machineAt 20 = .ok (.ireturn, 1) := by decide +kernel
theorem dL_machineAt_21 : decode cL_machineAt 21 = .ok (.iconst 0, 1) := by decide +kernel
theorem dL_machineAt_22 : decode cL_machineAt 22 = .ok (.ireturn, 1) := by decide +kernel
theorem dL_brokenUntil_0 : decode cL_brokenUntil 0 = .ok (.aload_n 3, 1) := by decide +kernel
theorem dL_brokenUntil_1 : decode cL_brokenUntil 1 = .ok (.iconst 0, 1) := by decide +kernel
theorem dL_brokenUntil_2 : decode cL_brokenUntil 2 = .ok (.aload_n 0, 1) := by decide +kernel
theorem dL_brokenUntil_3 : decode cL_brokenUntil 3 = .ok (.iload_n 1, 1) := by decide +kernel
theorem dL_brokenUntil_4 : decode cL_brokenUntil 4 = .ok (.iload_n 2, 1) := by decide +kernel
theorem dL_brokenUntil_5 : decode cL_brokenUntil 5 = .ok (.invokevirtual 66, 3) := by decide +kernel
theorem dL_brokenUntil_8 : decode cL_brokenUntil 8 = .ok (.i2l, 1) := by decide +kernel
theorem dL_brokenUntil_9 : decode cL_brokenUntil 9 = .ok (.lastore, 1) := by decide +kernel
theorem dL_brokenUntil_10 : decode cL_brokenUntil 10 = .ok (.goto 11, 3) := by decide +kernel
theorem dL_brokenUntil_13 : decode cL_brokenUntil 13 = .ok (.astore 4, 2) := by decide +kernel
theorem dL_brokenUntil_15 : decode cL_brokenUntil 15 = .ok (.iconst 1, 1) := by decide +kernel
theorem dL_brokenUntil_16 : decode cL_brokenUntil 16 = .ok (.ireturn, 1) := by decide +kernel
theorem dL_brokenUntil_17 : decode cL_brokenUntil 17 = .ok (.astore 4, 2) := by decide +kernel
theorem dL_brokenUntil_19 : decode cL_brokenUntil 19 = .ok (.iconst 2, 1) := by decide +kernel
theorem dL_brokenUntil_20 : decode cL_brokenUntil 20 = .ok (.ireturn, 1) := by decide +kernel
theorem dL_brokenUntil_21 : decode cL_brokenUntil 21 = .ok (.iconst 0, 1) := by decide +kernel
theorem dL_brokenUntil_22 : decode cL_brokenUntil 22 = .ok (.ireturn, 1) := by decide +kernel
theorem dL_laneSize_0 : decode cL_laneSize 0 = .ok (.aload_n 2, 1) := by decide +kernel
theorem dL_laneSize_1 : decode cL_laneSize 1 = .ok (.iconst 0, 1) := by decide +kernel
theorem dL_laneSize_2 : decode cL_laneSize 2 = .ok (.aload_n 0, 1) := by decide +kernel
theorem dL_laneSize_3 : decode cL_laneSize 3 = .ok (.iload_n 1, 1) := by decide +kernel
theorem dL_laneSize_4 : decode cL_laneSize 4 = .ok (.invokevirtual 69, 3) := by decide +kernel
theorem dL_laneSize_7 : decode cL_laneSize 7 = .ok (.i2l, 1) := by decide +kernel
theorem dL_laneSize_8 : decode cL_laneSize 8 = .ok (.lastore, 1) := by decide +kernel
theorem dL_laneSize_9 : decode cL_laneSize 9 = .ok (.goto 9, 3) := by decide +kernel
theorem dL_laneSize_12 : decode cL_laneSize 12 = .ok (.astore_n 3, 1) := by decide +kernel
theorem dL_laneSize_13 : decode cL_laneSize 13 = .ok (.iconst 1, 1) := by decide +kernel
theorem dL_laneSize_14 : decode cL_laneSize 14 = .ok (.ireturn, 1) := by decide +kernel
theorem dL_laneSize_15 : decode cL_laneSize 15 = .ok (.astore_n 3, 1) := by decide +kernel
theorem dL_laneSize_16 : decode cL_laneSize 16 = .ok (.iconst 2, 1) := by decide +kernel
theorem dL_laneSize_17 : decode cL_laneSize 17 = .ok (.ireturn, 1) := by decide +kernel
theorem dL_laneSize_18 : decode cL_laneSize 18 = .ok (.iconst 0, 1) := by decide +kernel
theorem dL_laneSize_19 : decode cL_laneSize 19 = .ok (.ireturn, 1) := by decide +kernel
theorem dL_laneAt_0 : decode cL_laneAt 0 = .ok (.aload_n 3, 1) := by decide +kernel
theorem dL_laneAt_1 : decode cL_laneAt 1 = .ok (.iconst 0, 1) := by decide +kernel
theorem dL_laneAt_2 : decode cL_laneAt 2 = .ok (.aload_n 0, 1) := by decide +kernel
theorem dL_laneAt_3 : decode cL_laneAt 3 = .ok (.iload_n 1, 1) := by decide +kernel
theorem dL_laneAt_4 : decode cL_laneAt 4 = .ok (.iload_n 2, 1) := by decide +kernel
theorem dL_laneAt_5 : decode cL_laneAt 5 = .ok (.invokevirtual 72, 3) := by decide +kernel
theorem dL_laneAt_8 : decode cL_laneAt 8 = .ok (.i2l, 1) := by decide +kernel
theorem dL_laneAt_9 : decode cL_laneAt 9 = .ok (.lastore, 1) := by decide +kernel
theorem dL_laneAt_10 : decode cL_laneAt 10 = .ok (.goto 11, 3) := by decide +kernel
theorem dL_laneAt_13 : decode cL_laneAt 13 = .ok (.astore 4, 2) := by decide +kernel
theorem dL_laneAt_15 : decode cL_laneAt 15 = .ok (.iconst 1, 1) := by decide +kernel
theorem dL_laneAt_16 : decode cL_laneAt 16 = .ok (.ireturn, 1) := by decide +kernel
theorem dL_laneAt_17 : decode cL_laneAt 17 = .ok (.astore 4, 2) := by decide +kernel
theorem dL_laneAt_19 : decode cL_laneAt 19 = .ok (.iconst 2, 1) := by decide +kernel
theorem dL_laneAt_20 : decode cL_laneAt 20 = .ok (.ireturn, 1) := by decide +kernel
theorem dL_laneAt_21 : decode cL_laneAt 21 = .ok (.iconst 0, 1) := by decide +kernel
theorem dL_laneAt_22 : decode cL_laneAt 22 = .ok (.ireturn, 1) := by decide +kernel
theorem dL_flightState_0 : decode cL_flightState 0 = .ok (.aload_n 2, 1) := by decide +kernel
theorem dL_flightState_1 : decode cL_flightState 1 = .ok (.iconst 0, 1) := by decide +kernel
theorem dL_flightState_2 : decode cL_flightState 2 = .ok (.aload_n 0, 1) := by decide +kernel
theorem dL_flightState_3 : decode cL_flightState 3 = .ok (.iload_n 1, 1) := by decide +kernel
theorem dL_flightState_4 : decode cL_flightState 4 = .ok (.invokevirtual 75, 3) := by decide +kernel
theorem dL_flightState_7 : decode cL_flightState 7 = .ok (.i2l, 1) := by decide +kernel
theorem dL_flightState_8 : decode cL_flightState 8 = .ok (.lastore, 1) := by decide +kernel
theorem dL_flightState_9 : decode cL_flightState 9 = .ok (.goto 9, 3) := by decide +kernel
theorem dL_flightState_12 : decode cL_flightState 12 = .ok (.astore_n 3, 1) := by decide +kernel
theorem dL_flightState_13 : decode cL_flightState 13 = .ok (.iconst 1, 1) := by decide +kernel
theorem dL_flightState_14 : decode cL_flightState 14 = .ok (.ireturn, 1) := by decide +kernel
theorem dL_flightState_15 : decode cL_flightState 15 = .ok (.astore_n 3, 1) := by decide +kernel
theorem dL_flightState_16 : decode cL_flightState 16 = .ok (.iconst 2, 1) := by decide +kernel
theorem dL_flightState_17 : decode cL_flightState 17 = .ok (.ireturn, 1) := by decide +kernel
theorem dL_flightState_18 : decode cL_flightState 18 = .ok (.iconst 0, 1) := by decide +kernel
theorem dL_flightState_19 : decode cL_flightState 19 = .ok (.ireturn, 1) := by decide +kernel
theorem dL_openOf_0 : decode cL_openOf 0 = .ok (.aload_n 2, 1) := by decide +kernel
theorem dL_openOf_1 : decode cL_openOf 1 = .ok (.iconst 0, 1) := by decide +kernel
theorem dL_openOf_2 : decode cL_openOf 2 = .ok (.aload_n 0, 1) := by decide +kernel
theorem dL_openOf_3 : decode cL_openOf 3 = .ok (.iload_n 1, 1) := by decide +kernel
theorem dL_openOf_4 : decode cL_openOf 4 = .ok (.invokevirtual 78, 3) := by decide +kernel
theorem dL_openOf_7 : decode cL_openOf 7 = .ok (.i2l, 1) := by decide +kernel
theorem dL_openOf_8 : decode cL_openOf 8 = .ok (.lastore, 1) := by decide +kernel
theorem dL_openOf_9 : decode cL_openOf 9 = .ok (.goto 9, 3) := by decide +kernel
theorem dL_openOf_12 : decode cL_openOf 12 = .ok (.astore_n 3, 1) := by decide +kernel
theorem dL_openOf_13 : decode cL_openOf 13 = .ok (.iconst 1, 1) := by decide +kernel
theorem dL_openOf_14 : decode cL_openOf 14 = .ok (.ireturn, 1) := by decide +kernel
theorem dL_openOf_15 : decode cL_openOf 15 = .ok (.astore_n 3, 1) := by decide +kernel
theorem dL_openOf_16 : decode cL_openOf 16 = .ok (.iconst 2, 1) := by decide +kernel
theorem dL_openOf_17 : decode cL_openOf 17 = .ok (.ireturn, 1) := by decide +kernel
theorem dL_openOf_18 : decode cL_openOf 18 = .ok (.iconst 0, 1) := by decide +kernel
theorem dL_openOf_19 : decode cL_openOf 19 = .ok (.ireturn, 1) := by decide +kernel
theorem dL_closeOf_0 : decode cL_closeOf 0 = .ok (.aload_n 2, 1) := by decide +kernel
theorem dL_closeOf_1 : decode cL_closeOf 1 = .ok (.iconst 0, 1) := by decide +kernel
theorem dL_closeOf_2 : decode cL_closeOf 2 = .ok (.aload_n 0, 1) := by decide +kernel
theorem dL_closeOf_3 : decode cL_closeOf 3 = .ok (.iload_n 1, 1) := by decide +kernel
theorem dL_closeOf_4 : decode cL_closeOf 4 = .ok (.invokevirtual 81, 3) := by decide +kernel
theorem dL_closeOf_7 : decode cL_closeOf 7 = .ok (.i2l, 1) := by decide +kernel
theorem dL_closeOf_8 : decode cL_closeOf 8 = .ok (.lastore, 1) := by decide +kernel
theorem dL_closeOf_9 : decode cL_closeOf 9 = .ok (.goto 9, 3) := by decide +kernel
theorem dL_closeOf_12 : decode cL_closeOf 12 = .ok (.astore_n 3, 1) := by decide +kernel
theorem dL_closeOf_13 : decode cL_closeOf 13 = .ok (.iconst 1, 1) := by decide +kernel
theorem dL_closeOf_14 : decode cL_closeOf 14 = .ok (.ireturn, 1) := by decide +kernel
theorem dL_closeOf_15 : decode cL_closeOf 15 = .ok (.astore_n 3, 1) := by decide +kernel
theorem dL_closeOf_16 : decode cL_closeOf 16 = .ok (.iconst 2, 1) := by decide +kernel
theorem dL_closeOf_17 : decode cL_closeOf 17 = .ok (.ireturn, 1) := by decide +kernel
theorem dL_closeOf_18 : decode cL_closeOf 18 = .ok (.iconst 0, 1) := by decide +kernel
theorem dL_closeOf_19 : decode cL_closeOf 19 = .ok (.ireturn, 1) := by decide +kernel
theorem dL_countOf_0 : decode cL_countOf 0 = .ok (.aload_n 3, 1) := by decide +kernel
theorem dL_countOf_1 : decode cL_countOf 1 = .ok (.iconst 0, 1) := by decide +kernel
theorem dL_countOf_2 : decode cL_countOf 2 = .ok (.aload_n 0, 1) := by decide +kernel
theorem dL_countOf_3 : decode cL_countOf 3 = .ok (.iload_n 1, 1) := by decide +kernel
theorem dL_countOf_4 : decode cL_countOf 4 = .ok (.iload_n 2, 1) := by decide +kernel
theorem dL_countOf_5 : decode cL_countOf 5 = .ok (.invokevirtual 84, 3) := by decide +kernel
theorem dL_countOf_8 : decode cL_countOf 8 = .ok (.i2l, 1) := by decide +kernel
theorem dL_countOf_9 : decode cL_countOf 9 = .ok (.lastore, 1) := by decide +kernel
theorem dL_countOf_10 : decode cL_countOf 10 = .ok (.goto 15, 3) := by decide +kernel
theorem dL_countOf_13 : decode cL_countOf 13 = .ok (.astore 4, 2) := by decide +kernel
theorem dL_countOf_15 : decode cL_countOf 15 = .ok (.iconst 1, 1) := by decide +kernel
theorem dL_countOf_16 : decode cL_countOf 16 = .ok (.ireturn, 1) := by decide +kernel
theorem dL_countOf_17 : decode cL_countOf 17 = .ok (.astore 4, 2) := by decide +kernel
theorem dL_countOf_19 : decode cL_countOf 19 = .ok (.iconst 2, 1) := by decide +kernel
theorem dL_countOf_20 : decode cL_countOf 20 = .ok (.ireturn, 1) := by decide +kernel
theorem dL_countOf_21 : decode cL_countOf 21 = .ok (.astore 4, 2) := by decide +kernel
theorem dL_countOf_23 : decode cL_countOf 23 = .ok (.iconst 3, 1) := by decide +kernel
theorem dL_countOf_24 : decode cL_countOf 24 = .ok (.ireturn, 1) := by decide +kernel
theorem dL_countOf_25 : decode cL_countOf 25 = .ok (.iconst 0, 1) := by decide +kernel
theorem dL_countOf_26 : decode cL_countOf 26 = .ok (.ireturn, 1) := by decide +kernel
theorem dL_missing_0 : decode cL_missing 0 = .ok (.aload_n 2, 1) := by decide +kernel
theorem dL_missing_1 : decode cL_missing 1 = .ok (.iconst 0, 1) := by decide +kernel
theorem dL_missing_2 : decode cL_missing 2 = .ok (.aload_n 0, 1) := by decide +kernel
theorem dL_missing_3 : decode cL_missing 3 = .ok (.iload_n 1, 1) := by decide +kernel
theorem dL_missing_4 : decode cL_missing 4 = .ok (.invokevirtual 87, 3) := by decide +kernel
theorem dL_missing_7 : decode cL_missing 7 = .ok (.i2l, 1) := by decide +kernel
theorem dL_missing_8 : decode cL_missing 8 = .ok (.lastore, 1) := by decide +kernel
theorem dL_missing_9 : decode cL_missing 9 = .ok (.goto 9, 3) := by decide +kernel
theorem dL_missing_12 : decode cL_missing 12 = .ok (.astore_n 3, 1) := by decide +kernel
theorem dL_missing_13 : decode cL_missing 13 = .ok (.iconst 1, 1) := by decide +kernel
theorem dL_missing_14 : decode cL_missing 14 = .ok (.ireturn, 1) := by decide +kernel
theorem dL_missing_15 : decode cL_missing 15 = .ok (.astore_n 3, 1) := by decide +kernel
theorem dL_missing_16 : decode cL_missing 16 = .ok (.iconst 2, 1) := by decide +kernel
theorem dL_missing_17 : decode cL_missing 17 = .ok (.ireturn, 1) := by decide +kernel
theorem dL_missing_18 : decode cL_missing 18 = .ok (.iconst 0, 1) := by decide +kernel
theorem dL_missing_19 : decode cL_missing 19 = .ok (.ireturn, 1) := by decide +kernel
theorem dL_loadedShare_0 : decode cL_loadedShare 0 = .ok (.aload_n 2, 1) := by decide +kernel
theorem dL_loadedShare_1 : decode cL_loadedShare 1 = .ok (.iconst 0, 1) := by decide +kernel
theorem dL_loadedShare_2 : decode cL_loadedShare 2 = .ok (.aload_n 0, 1) := by decide +kernel
theorem dL_loadedShare_3 : decode cL_loadedShare 3 = .ok (.iload_n 1, 1) := by decide +kernel
theorem dL_loadedShare_4 : decode cL_loadedShare 4 = .ok (.invokevirtual 90, 3) := by decide +kernel
theorem dL_loadedShare_7 : decode cL_loadedShare 7 = .ok (.f2d, 1) := by decide +kernel
theorem dL_loadedShare_8 : decode cL_loadedShare 8 = .ok (.dastore, 1) := by decide +kernel
theorem dL_loadedShare_9 : decode cL_loadedShare 9 = .ok (.goto 9, 3) := by decide +kernel
theorem dL_loadedShare_12 : decode cL_loadedShare 12 = .ok (.astore_n 3, 1) := by decide +kernel
theorem dL_loadedShare_13 : decode cL_loadedShare 13 = .ok (.iconst 1, 1) := by decide +kernel
theorem dL_loadedShare_14 : decode cL_loadedShare 14 = .ok (.ireturn, 1) := by decide +kernel
theorem dL_loadedShare_15 : decode cL_loadedShare 15 = .ok (.astore_n 3, 1) := by decide +kernel
theorem dL_loadedShare_16 : decode cL_loadedShare 16 = .ok (.iconst 2, 1) := by decide +kernel
theorem dL_loadedShare_17 : decode cL_loadedShare 17 = .ok (.ireturn, 1) := by decide +kernel
theorem dL_loadedShare_18 : decode cL_loadedShare 18 = .ok (.iconst 0, 1) := by decide +kernel
theorem dL_loadedShare_19 : decode cL_loadedShare 19 = .ok (.ireturn, 1) := by decide +kernel
theorem dL_percentile_0 : decode cL_percentile 0 = .ok (.aload_n 3, 1) := by decide +kernel
theorem dL_percentile_1 : decode cL_percentile 1 = .ok (.iconst 0, 1) := by decide +kernel
theorem dL_percentile_2 : decode cL_percentile 2 = .ok (.aload_n 0, 1) := by decide +kernel
theorem dL_percentile_3 : decode cL_percentile 3 = .ok (.iload_n 1, 1) := by decide +kernel
theorem dL_percentile_4 : decode cL_percentile 4 = .ok (.iload_n 2, 1) := by decide +kernel
theorem dL_percentile_5 : decode cL_percentile 5 = .ok (.invokevirtual 94, 3) := by decide +kernel
theorem dL_percentile_8 : decode cL_percentile 8 = .ok (.i2l, 1) := by decide +kernel
theorem dL_percentile_9 : decode cL_percentile 9 = .ok (.lastore, 1) := by decide +kernel
theorem dL_percentile_10 : decode cL_percentile 10 = .ok (.goto 15, 3) := by decide +kernel
theorem dL_percentile_13 : decode cL_percentile 13 = .ok (.astore 4, 2) := by decide +kernel
theorem dL_percentile_15 : decode cL_percentile 15 = .ok (.iconst 1, 1) := by decide +kernel
theorem dL_percentile_16 : decode cL_percentile 16 = .ok (.ireturn, 1) := by decide +kernel
theorem dL_percentile_17 : decode cL_percentile 17 = .ok (.astore 4, 2) := by decide +kernel
theorem dL_percentile_19 : decode cL_percentile 19 = .ok (.iconst 2, 1) := by decide +kernel
theorem dL_percentile_20 : decode cL_percentile 20 = .ok (.ireturn, 1) := by decide +kernel
theorem dL_percentile_21 : decode cL_percentile 21 = .ok (.astore 4, 2) := by decide +kernel
theorem dL_percentile_23 : decode cL_percentile 23 = .ok (.iconst 3, 1) := by decide +kernel
theorem dL_percentile_24 : decode cL_percentile 24 = .ok (.ireturn, 1) := by decide +kernel
theorem dL_percentile_25 : decode cL_percentile 25 = .ok (.iconst 0, 1) := by decide +kernel
theorem dL_percentile_26 : decode cL_percentile 26 = .ok (.ireturn, 1) := by decide +kernel
theorem dL_worstFlight_0 : decode cL_worstFlight 0 = .ok (.aload_n 2, 1) := by decide +kernel
theorem dL_worstFlight_1 : decode cL_worstFlight 1 = .ok (.iconst 0, 1) := by decide +kernel
theorem dL_worstFlight_2 : decode cL_worstFlight 2 = .ok (.aload_n 0, 1) := by decide +kernel
theorem dL_worstFlight_3 : decode cL_worstFlight 3 = .ok (.iload_n 1, 1) := by decide +kernel
theorem dL_worstFlight_4 : decode cL_worstFlight 4 = .ok (.invokevirtual 97, 3) := by decide +kernel
theorem dL_worstFlight_7 : decode cL_worstFlight 7 = .ok (.i2l, 1) := by decide +kernel
theorem dL_worstFlight_8 : decode cL_worstFlight 8 = .ok (.lastore, 1) := by decide +kernel
theorem dL_worstFlight_9 : decode cL_worstFlight 9 = .ok (.goto 9, 3) := by decide +kernel
theorem dL_worstFlight_12 : decode cL_worstFlight 12 = .ok (.astore_n 3, 1) := by decide +kernel
theorem dL_worstFlight_13 : decode cL_worstFlight 13 = .ok (.iconst 1, 1) := by decide +kernel
theorem dL_worstFlight_14 : decode cL_worstFlight 14 = .ok (.ireturn, 1) := by decide +kernel
theorem dL_worstFlight_15 : decode cL_worstFlight 15 = .ok (.astore_n 3, 1) := by decide +kernel
theorem dL_worstFlight_16 : decode cL_worstFlight 16 = .ok (.iconst 2, 1) := by decide +kernel
theorem dL_worstFlight_17 : decode cL_worstFlight 17 = .ok (.ireturn, 1) := by decide +kernel
theorem dL_worstFlight_18 : decode cL_worstFlight 18 = .ok (.iconst 0, 1) := by decide +kernel
theorem dL_worstFlight_19 : decode cL_worstFlight 19 = .ok (.ireturn, 1) := by decide +kernel
theorem dL_event_0 : decode cL_event 0 = .ok (.aload_n 3, 1) := by decide +kernel
theorem dL_event_1 : decode cL_event 1 = .ok (.iconst 0, 1) := by decide +kernel
theorem dL_event_2 : decode cL_event 2 = .ok (.aload_n 0, 1) := by decide +kernel
theorem dL_event_3 : decode cL_event 3 = .ok (.iload_n 1, 1) := by decide +kernel
theorem dL_event_4 : decode cL_event 4 = .ok (.iload_n 2, 1) := by decide +kernel
theorem dL_event_5 : decode cL_event 5 = .ok (.invokevirtual 100, 3) := by decide +kernel
theorem dL_event_8 : decode cL_event 8 = .ok (.i2l, 1) := by decide +kernel
theorem dL_event_9 : decode cL_event 9 = .ok (.lastore, 1) := by decide +kernel
theorem dL_event_10 : decode cL_event 10 = .ok (.goto 15, 3) := by decide +kernel
theorem dL_event_13 : decode cL_event 13 = .ok (.astore 4, 2) := by decide +kernel
theorem dL_event_15 : decode cL_event 15 = .ok (.iconst 1, 1) := by decide +kernel
theorem dL_event_16 : decode cL_event 16 = .ok (.ireturn, 1) := by decide +kernel
theorem dL_event_17 : decode cL_event 17 = .ok (.astore 4, 2) := by decide +kernel
theorem dL_event_19 : decode cL_event 19 = .ok (.iconst 2, 1) := by decide +kernel
theorem dL_event_20 : decode cL_event 20 = .ok (.ireturn, 1) := by decide +kernel
theorem dL_event_21 : decode cL_event 21 = .ok (.astore 4, 2) := by decide +kernel
theorem dL_event_23 : decode cL_event 23 = .ok (.iconst 3, 1) := by decide +kernel
theorem dL_event_24 : decode cL_event 24 = .ok (.ireturn, 1) := by decide +kernel
theorem dL_event_25 : decode cL_event 25 = .ok (.iconst 0, 1) := by decide +kernel
theorem dL_event_26 : decode cL_event 26 = .ok (.ireturn, 1) := by decide +kernel
theorem dL_report_0 : decode cL_report 0 = .ok (.aload_n 1, 1) := by decide +kernel
theorem dL_report_1 : decode cL_report 1 = .ok (.iconst 0, 1) := by decide +kernel
theorem dL_report_2 : decode cL_report 2 = .ok (.aload_n 0, 1) := by decide +kernel
theorem dL_report_3 : decode cL_report 3 = .ok (.invokevirtual 103, 3) := by decide +kernel
theorem dL_report_6 : decode cL_report 6 = .ok (.i2l, 1) := by decide +kernel
theorem dL_report_7 : decode cL_report 7 = .ok (.lastore, 1) := by decide +kernel
theorem dL_report_8 : decode cL_report 8 = .ok (.goto 6, 3) := by decide +kernel
theorem dL_report_11 : decode cL_report 11 = .ok (.astore_n 2, 1) := by decide +kernel
theorem dL_report_12 : decode cL_report 12 = .ok (.iconst 1, 1) := by decide +kernel
theorem dL_report_13 : decode cL_report 13 = .ok (.ireturn, 1) := by decide +kernel
theorem dL_report_14 : decode cL_report 14 = .ok (.iconst 0, 1) := by decide +kernel
theorem dL_report_15 : decode cL_report 15 = .ok (.ireturn, 1) := by decide +kernel
theorem dL_reportByte_0 : decode cL_reportByte 0 = .ok (.aload_n 2, 1) := by decide +kernel
theorem dL_reportByte_1 : decode cL_reportByte 1 = .ok (.iconst 0, 1) := by decide +kernel
theorem dL_reportByte_2 : decode cL_reportByte 2 = .ok (.aload_n 0, 1) := by decide +kernel
theorem dL_reportByte_3 : decode cL_reportByte 3 = .ok (.iload_n 1, 1) := by decide +kernel
theorem dL_reportByte_4 : decode cL_reportByte 4 = .ok (.invokevirtual 107, 3) := by decide +kernel
theorem dL_reportByte_7 : decode cL_reportByte 7 = .ok (.i2l, 1) := by decide +kernel
theorem dL_reportByte_8 : decode cL_reportByte 8 = .ok (.lastore, 1) := by decide +kernel
theorem dL_reportByte_9 : decode cL_reportByte 9 = .ok (.goto 6, 3) := by decide +kernel
theorem dL_reportByte_12 : decode cL_reportByte 12 = .ok (.astore_n 3, 1) := by decide +kernel
theorem dL_reportByte_13 : decode cL_reportByte 13 = .ok (.iconst 1, 1) := by decide +kernel
theorem dL_reportByte_14 : decode cL_reportByte 14 = .ok (.ireturn, 1) := by decide +kernel
theorem dL_reportByte_15 : decode cL_reportByte 15 = .ok (.iconst 0, 1) := by decide +kernel
theorem dL_reportByte_16 : decode cL_reportByte 16 = .ok (.ireturn, 1) := by decide +kernel
theorem dL_map_0 : decode cL_map 0 = .ok (.aload_n 1, 1) := by decide +kernel
theorem dL_map_1 : decode cL_map 1 = .ok (.iconst 0, 1) := by decide +kernel
theorem dL_map_2 : decode cL_map 2 = .ok (.aload_n 0, 1) := by decide +kernel
theorem dL_map_3 : decode cL_map 3 = .ok (.invokevirtual 110, 3) := by decide +kernel
theorem dL_map_6 : decode cL_map 6 = .ok (.i2l, 1) := by decide +kernel
theorem dL_map_7 : decode cL_map 7 = .ok (.lastore, 1) := by decide +kernel
theorem dL_map_8 : decode cL_map 8 = .ok (.goto 6, 3) := by decide +kernel
theorem dL_map_11 : decode cL_map 11 = .ok (.astore_n 2, 1) := by decide +kernel
theorem dL_map_12 : decode cL_map 12 = .ok (.iconst 1, 1) := by decide +kernel
theorem dL_map_13 : decode cL_map 13 = .ok (.ireturn, 1) := by decide +kernel
theorem dL_map_14 : decode cL_map 14 = .ok (.iconst 0, 1) := by decide +kernel
theorem dL_map_15 : decode cL_map 15 = .ok (.ireturn, 1) := by decide +kernel
theorem dL_mapByte_0 : decode cL_mapByte 0 = .ok (.aload_n 2, 1) := by decide +kernel
theorem dL_mapByte_1 : decode cL_mapByte 1 = .ok (.iconst 0, 1) := by decide +kernel
theorem dL_mapByte_2 : decode cL_mapByte 2 = .ok (.aload_n 0, 1) := by decide +kernel
theorem dL_mapByte_3 : decode cL_mapByte 3 = .ok (.iload_n 1, 1) := by decide +kernel
theorem dL_mapByte_4 : decode cL_mapByte 4 = .ok (.invokevirtual 113, 3) := by decide +kernel
theorem dL_mapByte_7 : decode cL_mapByte 7 = .ok (.i2l, 1) := by decide +kernel
theorem dL_mapByte_8 : decode cL_mapByte 8 = .ok (.lastore, 1) := by decide +kernel
theorem dL_mapByte_9 : decode cL_mapByte 9 = .ok (.goto 6, 3) := by decide +kernel
theorem dL_mapByte_12 : decode cL_mapByte 12 = .ok (.astore_n 3, 1) := by decide +kernel
theorem dL_mapByte_13 : decode cL_mapByte 13 = .ok (.iconst 1, 1) := by decide +kernel
theorem dL_mapByte_14 : decode cL_mapByte 14 = .ok (.ireturn, 1) := by decide +kernel
theorem dL_mapByte_15 : decode cL_mapByte 15 = .ok (.iconst 0, 1) := by decide +kernel
theorem dL_mapByte_16 : decode cL_mapByte 16 = .ok (.ireturn, 1) := by decide +kernel
theorem dL_timetable_0 : decode cL_timetable 0 = .ok (.aload_n 1, 1) := by decide +kernel
theorem dL_timetable_1 : decode cL_timetable 1 = .ok (.iconst 0, 1) := by decide +kernel
theorem dL_timetable_2 : decode cL_timetable 2 = .ok (.aload_n 0, 1) := by decide +kernel
theorem dL_timetable_3 : decode cL_timetable 3 = .ok (.invokevirtual 116, 3) := by decide +kernel
theorem dL_timetable_6 : decode cL_timetable 6 = .ok (.i2l, 1) := by decide +kernel
theorem dL_timetable_7 : decode cL_timetable 7 = .ok (.lastore, 1) := by decide +kernel
theorem dL_timetable_8 : decode cL_timetable 8 = .ok (.goto 6, 3) := by decide +kernel
theorem dL_timetable_11 : decode cL_timetable 11 = .ok (.astore_n 2, 1) := by decide +kernel
theorem dL_timetable_12 : decode cL_timetable 12 = .ok (.iconst 1, 1) := by decide +kernel
theorem dL_timetable_13 : decode cL_timetable 13 = .ok (.ireturn, 1) := by decide +kernel
theorem dL_timetable_14 : decode cL_timetable 14 = .ok (.iconst 0, 1) := by decide +kernel
theorem dL_timetable_15 : decode cL_timetable 15 = .ok (.ireturn, 1) := by decide +kernel
theorem dL_timetableByte_0 : decode cL_timetableByte 0 = .ok (.aload_n 2, 1) := by decide +kernel
theorem dL_timetableByte_1 : decode cL_timetableByte 1 = .ok (.iconst 0, 1) := by decide +kernel
theorem dL_timetableByte_2 : decode cL_timetableByte 2 = .ok (.aload_n 0, 1) := by decide +kernel
theorem dL_timetableByte_3 : decode cL_timetableByte 3 = .ok (.iload_n 1, 1) := by decide +kernel
theorem dL_timetableByte_4 : decode cL_timetableByte 4 = .ok (.invokevirtual 119, 3) := by decide +kernel
theorem dL_timetableByte_7 : decode cL_timetableByte 7 = .ok (.i2l, 1) := by decide +kernel
theorem dL_timetableByte_8 : decode cL_timetableByte 8 = .ok (.lastore, 1) := by decide +kernel
theorem dL_timetableByte_9 : decode cL_timetableByte 9 = .ok (.goto 6, 3) := by decide +kernel
theorem dL_timetableByte_12 : decode cL_timetableByte 12 = .ok (.astore_n 3, 1) := by decide +kernel
theorem dL_timetableByte_13 : decode cL_timetableByte 13 = .ok (.iconst 1, 1) := by decide +kernel
theorem dL_timetableByte_14 : decode cL_timetableByte 14 = .ok (.ireturn, 1) := by decide +kernel
theorem dL_timetableByte_15 : decode cL_timetableByte 15 = .ok (.iconst 0, 1) := by decide +kernel
theorem dL_timetableByte_16 : decode cL_timetableByte 16 = .ok (.ireturn, 1) := by decide +kernel
theorem dL_loadedIn_0 : decode cL_loadedIn 0 = .ok (.aload_n 2, 1) := by decide +kernel
theorem dL_loadedIn_1 : decode cL_loadedIn 1 = .ok (.iconst 0, 1) := by decide +kernel
theorem dL_loadedIn_2 : decode cL_loadedIn 2 = .ok (.aload_n 0, 1) := by decide +kernel
theorem dL_loadedIn_3 : decode cL_loadedIn 3 = .ok (.iload_n 1, 1) := by decide +kernel
theorem dL_loadedIn_4 : decode cL_loadedIn 4 = .ok (.invokevirtual 122, 3) := by decide +kernel
theorem dL_loadedIn_7 : decode cL_loadedIn 7 = .ok (.i2l, 1) := by decide +kernel
theorem dL_loadedIn_8 : decode cL_loadedIn 8 = .ok (.lastore, 1) := by decide +kernel
theorem dL_loadedIn_9 : decode cL_loadedIn 9 = .ok (.goto 9, 3) := by decide +kernel
theorem dL_loadedIn_12 : decode cL_loadedIn 12 = .ok (.astore_n 3, 1) := by decide +kernel
theorem dL_loadedIn_13 : decode cL_loadedIn 13 = .ok (.iconst 1, 1) := by decide +kernel
theorem dL_loadedIn_14 : decode cL_loadedIn 14 = .ok (.ireturn, 1) := by decide +kernel
theorem dL_loadedIn_15 : decode cL_loadedIn 15 = .ok (.astore_n 3, 1) := by decide +kernel
theorem dL_loadedIn_16 : decode cL_loadedIn 16 = .ok (.iconst 2, 1) := by decide +kernel
theorem dL_loadedIn_17 : decode cL_loadedIn 17 = .ok (.ireturn, 1) := by decide +kernel
theorem dL_loadedIn_18 : decode cL_loadedIn 18 = .ok (.iconst 0, 1) := by decide +kernel
theorem dL_loadedIn_19 : decode cL_loadedIn 19 = .ok (.ireturn, 1) := by decide +kernel
theorem dL_shortIn_0 : decode cL_shortIn 0 = .ok (.aload_n 2, 1) := by decide +kernel
theorem dL_shortIn_1 : decode cL_shortIn 1 = .ok (.iconst 0, 1) := by decide +kernel
theorem dL_shortIn_2 : decode cL_shortIn 2 = .ok (.aload_n 0, 1) := by decide +kernel
theorem dL_shortIn_3 : decode cL_shortIn 3 = .ok (.iload_n 1, 1) := by decide +kernel
theorem dL_shortIn_4 : decode cL_shortIn 4 = .ok (.invokevirtual 125, 3) := by decide +kernel
theorem dL_shortIn_7 : decode cL_shortIn 7 = .ok (.i2l, 1) := by decide +kernel
theorem dL_shortIn_8 : decode cL_shortIn 8 = .ok (.lastore, 1) := by decide +kernel
theorem dL_shortIn_9 : decode cL_shortIn 9 = .ok (.goto 9, 3) := by decide +kernel
theorem dL_shortIn_12 : decode cL_shortIn 12 = .ok (.astore_n 3, 1) := by decide +kernel
theorem dL_shortIn_13 : decode cL_shortIn 13 = .ok (.iconst 1, 1) := by decide +kernel
theorem dL_shortIn_14 : decode cL_shortIn 14 = .ok (.ireturn, 1) := by decide +kernel
theorem dL_shortIn_15 : decode cL_shortIn 15 = .ok (.astore_n 3, 1) := by decide +kernel
theorem dL_shortIn_16 : decode cL_shortIn 16 = .ok (.iconst 2, 1) := by decide +kernel
theorem dL_shortIn_17 : decode cL_shortIn 17 = .ok (.ireturn, 1) := by decide +kernel
theorem dL_shortIn_18 : decode cL_shortIn 18 = .ok (.iconst 0, 1) := by decide +kernel
theorem dL_shortIn_19 : decode cL_shortIn 19 = .ok (.ireturn, 1) := by decide +kernel
theorem dL_timeToClear_0 : decode cL_timeToClear 0 = .ok (.aload_n 2, 1) := by decide +kernel
theorem dL_timeToClear_1 : decode cL_timeToClear 1 = .ok (.iconst 0, 1) := by decide +kernel
theorem dL_timeToClear_2 : decode cL_timeToClear 2 = .ok (.aload_n 0, 1) := by decide +kernel
theorem dL_timeToClear_3 : decode cL_timeToClear 3 = .ok (.iload_n 1, 1) := by decide +kernel
theorem dL_timeToClear_4 : decode cL_timeToClear 4 = .ok (.invokevirtual 128, 3) := by decide +kernel
theorem dL_timeToClear_7 : decode cL_timeToClear 7 = .ok (.i2l, 1) := by decide +kernel
theorem dL_timeToClear_8 : decode cL_timeToClear 8 = .ok (.lastore, 1) := by decide +kernel
theorem dL_timeToClear_9 : decode cL_timeToClear 9 = .ok (.goto 9, 3) := by decide +kernel
theorem dL_timeToClear_12 : decode cL_timeToClear 12 = .ok (.astore_n 3, 1) := by decide +kernel
theorem dL_timeToClear_13 : decode cL_timeToClear 13 = .ok (.iconst 1, 1) := by decide +kernel
theorem dL_timeToClear_14 : decode cL_timeToClear 14 = .ok (.ireturn, 1) := by decide +kernel
theorem dL_timeToClear_15 : decode cL_timeToClear 15 = .ok (.astore_n 3, 1) := by decide +kernel
theorem dL_timeToClear_16 : decode cL_timeToClear 16 = .ok (.iconst 2, 1) := by decide +kernel
theorem dL_timeToClear_17 : decode cL_timeToClear 17 = .ok (.ireturn, 1) := by decide +kernel
theorem dL_timeToClear_18 : decode cL_timeToClear 18 = .ok (.iconst 0, 1) := by decide +kernel
theorem dL_timeToClear_19 : decode cL_timeToClear 19 = .ok (.ireturn, 1) := by decide +kernel
theorem dL_bestDelay_0 : decode cL_bestDelay 0 = .ok (.aload_n 3, 1) := by decide +kernel
theorem dL_bestDelay_1 : decode cL_bestDelay 1 = .ok (.iconst 0, 1) := by decide +kernel
theorem dL_bestDelay_2 : decode cL_bestDelay 2 = .ok (.aload_n 0, 1) := by decide +kernel
theorem dL_bestDelay_3 : decode cL_bestDelay 3 = .ok (.iload_n 1, 1) := by decide +kernel
theorem dL_bestDelay_4 : decode cL_bestDelay 4 = .ok (.iload_n 2, 1) := by decide +kernel
theorem dL_bestDelay_5 : decode cL_bestDelay 5 = .ok (.invokevirtual 131, 3) := by decide +kernel
theorem dL_bestDelay_8 : decode cL_bestDelay 8 = .ok (.i2l, 1) := by decide +kernel
theorem dL_bestDelay_9 : decode cL_bestDelay 9 = .ok (.lastore, 1) := by decide +kernel
theorem dL_bestDelay_10 : decode cL_bestDelay 10 = .ok (.goto 15, 3) := by decide +kernel
theorem dL_bestDelay_13 : decode cL_bestDelay 13 = .ok (.astore 4, 2) := by decide +kernel
theorem dL_bestDelay_15 : decode cL_bestDelay 15 = .ok (.iconst 1, 1) := by decide +kernel
theorem dL_bestDelay_16 : decode cL_bestDelay 16 = .ok (.ireturn, 1) := by decide +kernel
theorem dL_bestDelay_17 : decode cL_bestDelay 17 = .ok (.astore 4, 2) := by decide +kernel
theorem dL_bestDelay_19 : decode cL_bestDelay 19 = .ok (.iconst 2, 1) := by decide +kernel
theorem dL_bestDelay_20 : decode cL_bestDelay 20 = .ok (.ireturn, 1) := by decide +kernel
theorem dL_bestDelay_21 : decode cL_bestDelay 21 = .ok (.astore 4, 2) := by decide +kernel
theorem dL_bestDelay_23 : decode cL_bestDelay 23 = .ok (.iconst 3, 1) := by decide +kernel
theorem dL_bestDelay_24 : decode cL_bestDelay 24 = .ok (.ireturn, 1) := by decide +kernel
theorem dL_bestDelay_25 : decode cL_bestDelay 25 = .ok (.iconst 0, 1) := by decide +kernel
theorem dL_bestDelay_26 : decode cL_bestDelay 26 = .ok (.ireturn, 1) := by decide +kernel
theorem dL_withoutLane_0 : decode cL_withoutLane 0 = .ok (.aload_n 3, 1) := by decide +kernel
theorem dL_withoutLane_1 : decode cL_withoutLane 1 = .ok (.iconst 0, 1) := by decide +kernel
theorem dL_withoutLane_2 : decode cL_withoutLane 2 = .ok (.aload_n 0, 1) := by decide +kernel
theorem dL_withoutLane_3 : decode cL_withoutLane 3 = .ok (.iload_n 1, 1) := by decide +kernel
theorem dL_withoutLane_4 : decode cL_withoutLane 4 = .ok (.iload_n 2, 1) := by decide +kernel
theorem dL_withoutLane_5 : decode cL_withoutLane 5 = .ok (.invokevirtual 134, 3) := by decide +kernel
theorem dL_withoutLane_8 : decode cL_withoutLane 8 = .ok (.i2l, 1) := by decide +kernel
theorem dL_withoutLane_9 : decode cL_withoutLane 9 = .ok (.lastore, 1) := by decide +kernel
theorem dL_withoutLane_10 : decode cL_withoutLane 10 = .ok (.goto 15, 3) := by decide +kernel
theorem dL_withoutLane_13 : decode cL_withoutLane 13 = .ok (.astore 4, 2) := by decide +kernel
theorem dL_withoutLane_15 : decode cL_withoutLane 15 = .ok (.iconst 1, 1) := by decide +kernel
theorem dL_withoutLane_16 : decode cL_withoutLane 16 = .ok (.ireturn, 1) := by decide +kernel
theorem dL_withoutLane_17 : decode cL_withoutLane 17 = .ok (.astore 4, 2) := by decide +kernel
theorem dL_withoutLane_19 : decode cL_withoutLane 19 = .ok (.iconst 2, 1) := by decide +kernel
theorem dL_withoutLane_20 : decode cL_withoutLane 20 = .ok (.ireturn, 1) := by decide +kernel
theorem dL_withoutLane_21 : decode cL_withoutLane 21 = .ok (.astore 4, 2) := by decide +kernel
theorem dL_withoutLane_23 : decode cL_withoutLane 23 = .ok (.iconst 3, 1) := by decide +kernel
theorem dL_withoutLane_24 : decode cL_withoutLane 24 = .ok (.ireturn, 1) := by decide +kernel
theorem dL_withoutLane_25 : decode cL_withoutLane 25 = .ok (.iconst 0, 1) := by decide +kernel
theorem dL_withoutLane_26 : decode cL_withoutLane 26 = .ok (.ireturn, 1) := by decide +kernel
theorem dL_advance_0 : decode cL_advance 0 = .ok (.aload_n 2, 1) := by decide +kernel
theorem dL_advance_1 : decode cL_advance 1 = .ok (.iconst 0, 1) := by decide +kernel
theorem dL_advance_2 : decode cL_advance 2 = .ok (.aload_n 0, 1) := by decide +kernel
theorem dL_advance_3 : decode cL_advance 3 = .ok (.iload_n 1, 1) := by decide +kernel
theorem dL_advance_4 : decode cL_advance 4 = .ok (.invokevirtual 137, 3) := by decide +kernel
theorem dL_advance_7 : decode cL_advance 7 = .ok (.i2l, 1) := by decide +kernel
theorem dL_advance_8 : decode cL_advance 8 = .ok (.lastore, 1) := by decide +kernel
theorem dL_advance_9 : decode cL_advance 9 = .ok (.goto 9, 3) := by decide +kernel
theorem dL_advance_12 : decode cL_advance 12 = .ok (.astore_n 3, 1) := by decide +kernel
theorem dL_advance_13 : decode cL_advance 13 = .ok (.iconst 1, 1) := by decide +kernel
theorem dL_advance_14 : decode cL_advance 14 = .ok (.ireturn, 1) := by decide +kernel
theorem dL_advance_15 : decode cL_advance 15 = .ok (.astore_n 3, 1) := by decide +kernel
theorem dL_advance_16 : decode cL_advance 16 = .ok (.iconst 2, 1) := by decide +kernel
theorem dL_advance_17 : decode cL_advance 17 = .ok (.ireturn, 1) := by decide +kernel
theorem dL_advance_18 : decode cL_advance 18 = .ok (.iconst 0, 1) := by decide +kernel
theorem dL_advance_19 : decode cL_advance 19 = .ok (.ireturn, 1) := by decide +kernel
theorem dL_addBags_0 : decode cL_addBags 0 = .ok (.aload 4, 2) := by decide +kernel
theorem dL_addBags_2 : decode cL_addBags 2 = .ok (.iconst 0, 1) := by decide +kernel
theorem dL_addBags_3 : decode cL_addBags 3 = .ok (.aload_n 0, 1) := by decide +kernel
theorem dL_addBags_4 : decode cL_addBags 4 = .ok (.iload_n 1, 1) := by decide +kernel
theorem dL_addBags_5 : decode cL_addBags 5 = .ok (.iload_n 2, 1) := by decide +kernel
theorem dL_addBags_6 : decode cL_addBags 6 = .ok (.iload_n 3, 1) := by decide +kernel
theorem dL_addBags_7 : decode cL_addBags 7 = .ok (.invokevirtual 140, 3) := by decide +kernel
theorem dL_addBags_10 : decode cL_addBags 10 = .ok (.i2l, 1) := by decide +kernel
theorem dL_addBags_11 : decode cL_addBags 11 = .ok (.lastore, 1) := by decide +kernel
theorem dL_addBags_12 : decode cL_addBags 12 = .ok (.goto 15, 3) := by decide +kernel
theorem dL_addBags_15 : decode cL_addBags 15 = .ok (.astore 5, 2) := by decide +kernel
theorem dL_addBags_17 : decode cL_addBags 17 = .ok (.iconst 1, 1) := by decide +kernel
theorem dL_addBags_18 : decode cL_addBags 18 = .ok (.ireturn, 1) := by decide +kernel
theorem dL_addBags_19 : decode cL_addBags 19 = .ok (.astore 5, 2) := by decide +kernel
theorem dL_addBags_21 : decode cL_addBags 21 = .ok (.iconst 2, 1) := by decide +kernel
theorem dL_addBags_22 : decode cL_addBags 22 = .ok (.ireturn, 1) := by decide +kernel
theorem dL_addBags_23 : decode cL_addBags 23 = .ok (.astore 5, 2) := by decide +kernel
theorem dL_addBags_25 : decode cL_addBags 25 = .ok (.iconst 3, 1) := by decide +kernel
theorem dL_addBags_26 : decode cL_addBags 26 = .ok (.ireturn, 1) := by decide +kernel
theorem dL_addBags_27 : decode cL_addBags 27 = .ok (.iconst 0, 1) := by decide +kernel
theorem dL_addBags_28 : decode cL_addBags 28 = .ok (.ireturn, 1) := by decide +kernel
theorem dL_delay_0 : decode cL_delay 0 = .ok (.aload_n 3, 1) := by decide +kernel
theorem dL_delay_1 : decode cL_delay 1 = .ok (.iconst 0, 1) := by decide +kernel
theorem dL_delay_2 : decode cL_delay 2 = .ok (.aload_n 0, 1) := by decide +kernel
theorem dL_delay_3 : decode cL_delay 3 = .ok (.iload_n 1, 1) := by decide +kernel
theorem dL_delay_4 : decode cL_delay 4 = .ok (.iload_n 2, 1) := by decide +kernel
theorem dL_delay_5 : decode cL_delay 5 = .ok (.invokevirtual 144, 3) := by decide +kernel
theorem dL_delay_8 : decode cL_delay 8 = .ok (.i2l, 1) := by decide +kernel
theorem dL_delay_9 : decode cL_delay 9 = .ok (.lastore, 1) := by decide +kernel
theorem dL_delay_10 : decode cL_delay 10 = .ok (.goto 15, 3) := by decide +kernel
theorem dL_delay_13 : decode cL_delay 13 = .ok (.astore 4, 2) := by decide +kernel
theorem dL_delay_15 : decode cL_delay 15 = .ok (.iconst 1, 1) := by decide +kernel
theorem dL_delay_16 : decode cL_delay 16 = .ok (.ireturn, 1) := by decide +kernel
theorem dL_delay_17 : decode cL_delay 17 = .ok (.astore 4, 2) := by decide +kernel
theorem dL_delay_19 : decode cL_delay 19 = .ok (.iconst 2, 1) := by decide +kernel
theorem dL_delay_20 : decode cL_delay 20 = .ok (.ireturn, 1) := by decide +kernel
theorem dL_delay_21 : decode cL_delay 21 = .ok (.astore 4, 2) := by decide +kernel
theorem dL_delay_23 : decode cL_delay 23 = .ok (.iconst 3, 1) := by decide +kernel
theorem dL_delay_24 : decode cL_delay 24 = .ok (.ireturn, 1) := by decide +kernel
theorem dL_delay_25 : decode cL_delay 25 = .ok (.iconst 0, 1) := by decide +kernel
theorem dL_delay_26 : decode cL_delay 26 = .ok (.ireturn, 1) := by decide +kernel
theorem dL_offload_0 : decode cL_offload 0 = .ok (.aload_n 2, 1) := by decide +kernel
theorem dL_offload_1 : decode cL_offload 1 = .ok (.iconst 0, 1) := by decide +kernel
theorem dL_offload_2 : decode cL_offload 2 = .ok (.aload_n 0, 1) := by decide +kernel
theorem dL_offload_3 : decode cL_offload 3 = .ok (.iload_n 1, 1) := by decide +kernel
theorem dL_offload_4 : decode cL_offload 4 = .ok (.invokevirtual 147, 3) := by decide +kernel
theorem dL_offload_7 : decode cL_offload 7 = .ok (.i2l, 1) := by decide +kernel
theorem dL_offload_8 : decode cL_offload 8 = .ok (.lastore, 1) := by decide +kernel
theorem dL_offload_9 : decode cL_offload 9 = .ok (.goto 12, 3) := by decide +kernel
theorem dL_offload_12 : decode cL_offload 12 = .ok (.astore_n 3, 1) := by decide +kernel
theorem dL_offload_13 : decode cL_offload 13 = .ok (.iconst 1, 1) := by decide +kernel
theorem dL_offload_14 : decode cL_offload 14 = .ok (.ireturn, 1) := by decide +kernel
theorem dL_offload_15 : decode cL_offload 15 = .ok (.astore_n 3, 1) := by decide +kernel
theorem dL_offload_16 : decode cL_offload 16 = .ok (.iconst 2, 1) := by decide +kernel
theorem dL_offload_17 : decode cL_offload 17 = .ok (.ireturn, 1) := by decide +kernel
theorem dL_offload_18 : decode cL_offload 18 = .ok (.astore_n 3, 1) := by decide +kernel
theorem dL_offload_19 : decode cL_offload 19 = .ok (.iconst 3, 1) := by decide +kernel
theorem dL_offload_20 : decode cL_offload 20 = .ok (.ireturn, 1) := by decide +kernel
theorem dL_offload_21 : decode cL_offload 21 = .ok (.iconst 0, 1) := by decide +kernel
theorem dL_offload_22 : decode cL_offload 22 = .ok (.ireturn, 1) := by decide +kernel
theorem dL_block_0 : decode cL_block 0 = .ok (.aload_n 3, 1) := by decide +kernel
theorem dL_block_1 : decode cL_block 1 = .ok (.iconst 0, 1) := by decide +kernel
theorem dL_block_2 : decode cL_block 2 = .ok (.aload_n 0, 1) := by decide +kernel
theorem dL_block_3 : decode cL_block 3 = .ok (.iload_n 1, 1) := by decide +kernel
theorem dL_block_4 : decode cL_block 4 = .ok (.iload_n 2, 1) := by decide +kernel
theorem dL_block_5 : decode cL_block 5 = .ok (.invokevirtual 150, 3) := by decide +kernel
theorem dL_block_8 : decode cL_block 8 = .ok (.ifCond .eq 7, 3) := by decide +kernel
theorem dL_block_11 : decode cL_block 11 = .ok (.lconst 1, 1) := by decide +kernel
theorem dL_block_12 : decode cL_block 12 = .ok (.goto 4, 3) := by decide +kernel
theorem dL_block_15 : decode cL_block 15 = .ok (.lconst 0, 1) := by decide +kernel
theorem dL_block_16 : decode cL_block 16 = .ok (.lastore, 1) := by decide +kernel
theorem dL_block_17 : decode cL_block 17 = .ok (.goto 11, 3) := by decide +kernel
theorem dL_block_20 : decode cL_block 20 = .ok (.astore 4, 2) := by decide +kernel
theorem dL_block_22 : decode cL_block 22 = .ok (.iconst 1, 1) := by decide +kernel
theorem dL_block_23 : decode cL_block 23 = .ok (.ireturn, 1) := by decide +kernel
theorem dL_block_24 : decode cL_block 24 = .ok (.astore 4, 2) := by decide +kernel
theorem dL_block_26 : decode cL_block 26 = .ok (.iconst 2, 1) := by decide +kernel
theorem dL_block_27 : decode cL_block 27 = .ok (.ireturn, 1) := by decide +kernel
theorem dL_block_28 : decode cL_block 28 = .ok (.iconst 0, 1) := by decide +kernel
theorem dL_block_29 : decode cL_block 29 = .ok (.ireturn, 1) := by decide +kernel
theorem dL_setHot_0 : decode cL_setHot 0 = .ok (.aload_n 2, 1) := by decide +kernel
theorem dL_setHot_1 : decode cL_setHot 1 = .ok (.iconst 0, 1) := by decide +kernel
theorem dL_setHot_2 : decode cL_setHot 2 = .ok (.aload_n 0, 1) := by decide +kernel
theorem dL_setHot_3 : decode cL_setHot 3 = .ok (.iload_n 1, 1) := by decide +kernel
theorem dL_setHot_4 : decode cL_setHot 4 = .ok (.invokevirtual 154, 3) := by decide +kernel
theorem dL_setHot_7 : decode cL_setHot 7 = .ok (.i2l, 1) := by decide +kernel
theorem dL_setHot_8 : decode cL_setHot 8 = .ok (.lastore, 1) := by decide +kernel
theorem dL_setHot_9 : decode cL_setHot 9 = .ok (.goto 9, 3) := by decide +kernel
theorem dL_setHot_12 : decode cL_setHot 12 = .ok (.astore_n 3, 1) := by decide +kernel
theorem dL_setHot_13 : decode cL_setHot 13 = .ok (.iconst 1, 1) := by decide +kernel
theorem dL_setHot_14 : decode cL_setHot 14 = .ok (.ireturn, 1) := by decide +kernel
theorem dL_setHot_15 : decode cL_setHot 15 = .ok (.astore_n 3, 1) := by decide +kernel
theorem dL_setHot_16 : decode cL_setHot 16 = .ok (.iconst 2, 1) := by decide +kernel
theorem dL_setHot_17 : decode cL_setHot 17 = .ok (.ireturn, 1) := by decide +kernel
theorem dL_setHot_18 : decode cL_setHot 18 = .ok (.iconst 0, 1) := by decide +kernel
theorem dL_setHot_19 : decode cL_setHot 19 = .ok (.ireturn, 1) := by decide +kernel
theorem dL_breakMachine_0 : decode cL_breakMachine 0 = .ok (.aload 4, 2) := by decide +kernel
theorem dL_breakMachine_2 : decode cL_breakMachine 2 = .ok (.iconst 0, 1) := by decide +kernel
theorem dL_breakMachine_3 : decode cL_breakMachine 3 = .ok (.aload_n 0, 1) := by decide +kernel
theorem dL_breakMachine_4 : decode cL_breakMachine 4 = .ok (.iload_n 1, 1) := by decide +kernel
theorem dL_breakMachine_5 : decode cL_breakMachine 5 = .ok (.iload_n 2, 1) := by decide +kernel
theorem dL_breakMachine_6 : decode cL_breakMachine 6 = .ok (.iload_n 3, 1) := by decide +kernel
theorem dL_breakMachine_7 : decode cL_breakMachine 7 = .ok (.invokevirtual 157, 3) := by decide +kernel
theorem dL_breakMachine_10 : decode cL_breakMachine 10 = .ok (.ifCond .eq 7, 3) := by decide +kernel
theorem dL_breakMachine_13 : decode cL_breakMachine 13 = .ok (.lconst 1, 1) := by decide +kernel
theorem dL_breakMachine_14 : decode cL_breakMachine 14 = .ok (.goto 4, 3) := by decide +kernel
theorem dL_breakMachine_17 : decode cL_breakMachine 17 = .ok (.lconst 0, 1) := by decide +kernel
theorem dL_breakMachine_18 : decode cL_breakMachine 18 = .ok (.lastore, 1) := by decide +kernel
theorem dL_breakMachine_19 : decode cL_breakMachine 19 = .ok (.goto 15, 3) := by decide +kernel
theorem dL_breakMachine_22 : decode cL_breakMachine 22 = .ok (.astore 5, 2) := by decide +kernel
theorem dL_breakMachine_24 : decode cL_breakMachine 24 = .ok (.iconst 1, 1) := by decide +kernel
theorem dL_breakMachine_25 : decode cL_breakMachine 25 = .ok (.ireturn, 1) := by decide +kernel
theorem dL_breakMachine_26 : decode cL_breakMachine 26 = .ok (.astore 5, 2) := by decide +kernel
theorem dL_breakMachine_28 : decode cL_breakMachine 28 = .ok (.iconst 2, 1) := by decide +kernel
theorem dL_breakMachine_29 : decode cL_breakMachine 29 = .ok (.ireturn, 1) := by decide +kernel
theorem dL_breakMachine_30 : decode cL_breakMachine 30 = .ok (.astore 5, 2) := by decide +kernel
theorem dL_breakMachine_32 : decode cL_breakMachine 32 = .ok (.iconst 3, 1) := by decide +kernel
theorem dL_breakMachine_33 : decode cL_breakMachine 33 = .ok (.ireturn, 1) := by decide +kernel
theorem dL_breakMachine_34 : decode cL_breakMachine 34 = .ok (.iconst 0, 1) := by decide +kernel
theorem dL_breakMachine_35 : decode cL_breakMachine 35 = .ok (.ireturn, 1) := by decide +kernel
theorem dL_stopLoop_0 : decode cL_stopLoop 0 = .ok (.aload_n 2, 1) := by decide +kernel
theorem dL_stopLoop_1 : decode cL_stopLoop 1 = .ok (.iconst 0, 1) := by decide +kernel
theorem dL_stopLoop_2 : decode cL_stopLoop 2 = .ok (.aload_n 0, 1) := by decide +kernel
theorem dL_stopLoop_3 : decode cL_stopLoop 3 = .ok (.iload_n 1, 1) := by decide +kernel
theorem dL_stopLoop_4 : decode cL_stopLoop 4 = .ok (.invokevirtual 161, 3) := by decide +kernel
theorem dL_stopLoop_7 : decode cL_stopLoop 7 = .ok (.i2l, 1) := by decide +kernel
theorem dL_stopLoop_8 : decode cL_stopLoop 8 = .ok (.lastore, 1) := by decide +kernel
theorem dL_stopLoop_9 : decode cL_stopLoop 9 = .ok (.goto 9, 3) := by decide +kernel
theorem dL_stopLoop_12 : decode cL_stopLoop 12 = .ok (.astore_n 3, 1) := by decide +kernel
theorem dL_stopLoop_13 : decode cL_stopLoop 13 = .ok (.iconst 1, 1) := by decide +kernel
theorem dL_stopLoop_14 : decode cL_stopLoop 14 = .ok (.ireturn, 1) := by decide +kernel
theorem dL_stopLoop_15 : decode cL_stopLoop 15 = .ok (.astore_n 3, 1) := by decide +kernel
theorem dL_stopLoop_16 : decode cL_stopLoop 16 = .ok (.iconst 2, 1) := by decide +kernel
theorem dL_stopLoop_17 : decode cL_stopLoop 17 = .ok (.ireturn, 1) := by decide +kernel
theorem dL_stopLoop_18 : decode cL_stopLoop 18 = .ok (.iconst 0, 1) := by decide +kernel
theorem dL_stopLoop_19 : decode cL_stopLoop 19 = .ok (.ireturn, 1) := by decide +kernel
theorem dL_reroute_0 : decode cL_reroute 0 = .ok (.aload_n 3, 1) := by decide +kernel
theorem dL_reroute_1 : decode cL_reroute 1 = .ok (.iconst 0, 1) := by decide +kernel
theorem dL_reroute_2 : decode cL_reroute 2 = .ok (.aload_n 0, 1) := by decide +kernel
theorem dL_reroute_3 : decode cL_reroute 3 = .ok (.iload_n 1, 1) := by decide +kernel
theorem dL_reroute_4 : decode cL_reroute 4 = .ok (.iload_n 2, 1) := by decide +kernel
theorem dL_reroute_5 : decode cL_reroute 5 = .ok (.invokevirtual 164, 3) := by decide +kernel
theorem dL_reroute_8 : decode cL_reroute 8 = .ok (.i2l, 1) := by decide +kernel
theorem dL_reroute_9 : decode cL_reroute 9 = .ok (.lastore, 1) := by decide +kernel
theorem dL_reroute_10 : decode cL_reroute 10 = .ok (.goto 15, 3) := by decide +kernel
theorem dL_reroute_13 : decode cL_reroute 13 = .ok (.astore 4, 2) := by decide +kernel
theorem dL_reroute_15 : decode cL_reroute 15 = .ok (.iconst 1, 1) := by decide +kernel
theorem dL_reroute_16 : decode cL_reroute 16 = .ok (.ireturn, 1) := by decide +kernel
theorem dL_reroute_17 : decode cL_reroute 17 = .ok (.astore 4, 2) := by decide +kernel
theorem dL_reroute_19 : decode cL_reroute 19 = .ok (.iconst 2, 1) := by decide +kernel
theorem dL_reroute_20 : decode cL_reroute 20 = .ok (.ireturn, 1) := by decide +kernel
theorem dL_reroute_21 : decode cL_reroute 21 = .ok (.astore 4, 2) := by decide +kernel
theorem dL_reroute_23 : decode cL_reroute 23 = .ok (.iconst 3, 1) := by decide +kernel
theorem dL_reroute_24 : decode cL_reroute 24 = .ok (.ireturn, 1) := by decide +kernel
theorem dL_reroute_25 : decode cL_reroute 25 = .ok (.iconst 0, 1) := by decide +kernel
theorem dL_reroute_26 : decode cL_reroute 26 = .ok (.ireturn, 1) := by decide +kernel
theorem dL_undo_0 : decode cL_undo 0 = .ok (.aload_n 1, 1) := by decide +kernel
theorem dL_undo_1 : decode cL_undo 1 = .ok (.iconst 0, 1) := by decide +kernel
theorem dL_undo_2 : decode cL_undo 2 = .ok (.aload_n 0, 1) := by decide +kernel
theorem dL_undo_3 : decode cL_undo 3 = .ok (.invokevirtual 167, 3) := by decide +kernel
theorem dL_undo_6 : decode cL_undo 6 = .ok (.i2l, 1) := by decide +kernel
theorem dL_undo_7 : decode cL_undo 7 = .ok (.lastore, 1) := by decide +kernel
theorem dL_undo_8 : decode cL_undo 8 = .ok (.goto 6, 3) := by decide +kernel
theorem dL_undo_11 : decode cL_undo 11 = .ok (.astore_n 2, 1) := by decide +kernel
theorem dL_undo_12 : decode cL_undo 12 = .ok (.iconst 1, 1) := by decide +kernel
theorem dL_undo_13 : decode cL_undo 13 = .ok (.ireturn, 1) := by decide +kernel
theorem dL_undo_14 : decode cL_undo 14 = .ok (.iconst 0, 1) := by decide +kernel
theorem dL_undo_15 : decode cL_undo 15 = .ok (.ireturn, 1) := by decide +kernel
theorem dL_save_0 : decode cL_save 0 = .ok (.aload_n 2, 1) := by decide +kernel
theorem dL_save_1 : decode cL_save 1 = .ok (.iconst 0, 1) := by decide +kernel
theorem dL_save_2 : decode cL_save 2 = .ok (.aload_n 0, 1) := by decide +kernel
theorem dL_save_3 : decode cL_save 3 = .ok (.iload_n 1, 1) := by decide +kernel
theorem dL_save_4 : decode cL_save 4 = .ok (.invokevirtual 170, 3) := by decide +kernel
theorem dL_save_7 : decode cL_save 7 = .ok (.i2l, 1) := by decide +kernel
theorem dL_save_8 : decode cL_save 8 = .ok (.lastore, 1) := by decide +kernel
theorem dL_save_9 : decode cL_save 9 = .ok (.goto 9, 3) := by decide +kernel
theorem dL_save_12 : decode cL_save 12 = .ok (.astore_n 3, 1) := by decide +kernel
theorem dL_save_13 : decode cL_save 13 = .ok (.iconst 1, 1) := by decide +kernel
theorem dL_save_14 : decode cL_save 14 = .ok (.ireturn, 1) := by decide +kernel
theorem dL_save_15 : decode cL_save 15 = .ok (.astore_n 3, 1) := by decide +kernel
theorem dL_save_16 : decode cL_save 16 = .ok (.iconst 2, 1) := by decide +kernel
theorem dL_save_17 : decode cL_save 17 = .ok (.ireturn, 1) := by decide +kernel
theorem dL_save_18 : decode cL_save 18 = .ok (.iconst 0, 1) := by decide +kernel
theorem dL_save_19 : decode cL_save 19 = .ok (.ireturn, 1) := by decide +kernel
theorem dL_restore_0 : decode cL_restore 0 = .ok (.aload_n 2, 1) := by decide +kernel
theorem dL_restore_1 : decode cL_restore 1 = .ok (.iconst 0, 1) := by decide +kernel
theorem dL_restore_2 : decode cL_restore 2 = .ok (.aload_n 0, 1) := by decide +kernel
theorem dL_restore_3 : decode cL_restore 3 = .ok (.iload_n 1, 1) := by decide +kernel
theorem dL_restore_4 : decode cL_restore 4 = .ok (.invokevirtual 173, 3) := by decide +kernel
theorem dL_restore_7 : decode cL_restore 7 = .ok (.i2l, 1) := by decide +kernel
theorem dL_restore_8 : decode cL_restore 8 = .ok (.lastore, 1) := by decide +kernel
theorem dL_restore_9 : decode cL_restore 9 = .ok (.goto 9, 3) := by decide +kernel
theorem dL_restore_12 : decode cL_restore 12 = .ok (.astore_n 3, 1) := by decide +kernel
theorem dL_restore_13 : decode cL_restore 13 = .ok (.iconst 1, 1) := by decide +kernel
theorem dL_restore_14 : decode cL_restore 14 = .ok (.ireturn, 1) := by decide +kernel
theorem dL_restore_15 : decode cL_restore 15 = .ok (.astore_n 3, 1) := by decide +kernel
theorem dL_restore_16 : decode cL_restore 16 = .ok (.iconst 2, 1) := by decide +kernel
theorem dL_restore_17 : decode cL_restore 17 = .ok (.ireturn, 1) := by decide +kernel
theorem dL_restore_18 : decode cL_restore 18 = .ok (.iconst 0, 1) := by decide +kernel
theorem dL_restore_19 : decode cL_restore 19 = .ok (.ireturn, 1) := by decide +kernel

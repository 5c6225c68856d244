theorem dX6_sideAt_23 : decode cX6_sideAt 23 = .ok (.areturn, 1) := by decide +kernel
theorem dX6_isLayer_0 : decode cX6_isLayer 0 = .ok (.iload_n 1, 1) := by decide +kernel
theorem dX6_isLayer_1 : decode cX6_isLayer 1 = .ok (.ifCond .lt 15, 3) := by decide +kernel
theorem dX6_isLayer_4 : decode cX6_isLayer 4 = .ok (.iload_n 1, 1) := by decide +kernel
theorem dX6_isLayer_5 : decode cX6_isLayer 5 = .ok (.aload_n 0, 1) := by decide +kernel
theorem dX6_isLayer_6 : decode cX6_isLayer 6 = .ok (.getfield 28, 3) := by decide +kernel
theorem dX6_isLayer_9 : decode cX6_isLayer 9 = .ok (.if_icmp .ge 7, 3) := by decide +kernel
theorem dX6_isLayer_12 : decode cX6_isLayer 12 = .ok (.iconst 1, 1) := by decide +kernel
theorem dX6_isLayer_13 : decode cX6_isLayer 13 = .ok (.goto 4, 3) := by decide +kernel
theorem dX6_isLayer_16 : decode cX6_isLayer 16 = .ok (.iconst 0, 1) := by decide +kernel
theorem dX6_isLayer_17 : decode cX6_isLayer 17 = .ok (.ireturn, 1) := by decide +kernel
theorem dX6_allParts_0 : decode cX6_allParts 0 = .ok (.lconst 0, 1) := by decide +kernel
theorem dX6_allParts_1 : decode cX6_allParts 1 = .ok (.lstore_n 1, 1) := by decide +kernel
theorem dX6_allParts_2 : decode cX6_allParts 2 = .ok (.aload_n 0, 1) := by decide +kernel
theorem dX6_allParts_3 : decode cX6_allParts 3 = .ok (.getfield 31, 3) := by decide +kernel
theorem dX6_allParts_6 : decode cX6_allParts 6 = .ok (.astore_n 3, 1) := by decide +kernel
theorem dX6_allParts_7 : decode cX6_allParts 7 = .ok (.aload_n 3, 1) := by decide +kernel
theorem dX6_allParts_8 : decode cX6_allParts 8 = .ok (.arraylength, 1) := by decide +kernel
theorem dX6_allParts_9 : decode cX6_allParts 9 = .ok (.istore 4, 2) := by decide +kernel
theorem dX6_allParts_11 : decode cX6_allParts 11 = .ok (.iconst 0, 1) := by decide +kernel
theorem dX6_allParts_12 : decode cX6_allParts 12 = .ok (.istore 5, 2) := by decide +kernel
theorem dX6_allParts_14 : decode cX6_allParts 14 = .ok (.iload 5, 2) := by decide +kernel
theorem dX6_allParts_16 : decode cX6_allParts 16 = .ok (.iload 4, 2) := by decide +kernel
theorem dX6_allParts_18 : decode cX6_allParts 18 = .ok (.if_icmp .ge 23, 3) := by decide +kernel
theorem dX6_allParts_21 : decode cX6_allParts 21 = .ok (.aload_n 3, 1) := by decide +kernel
theorem dX6_allParts_22 : decode cX6_allParts 22 = .ok (.iload 5, 2) := by decide +kernel
theorem dX6_allParts_24 : decode cX6_allParts 24 = .ok (.aaload, 1) := by decide +kernel
theorem dX6_allParts_25 : decode cX6_allParts 25 = .ok (.astore 6, 2) := by decide +kernel
theorem dX6_allParts_27 : decode cX6_allParts 27 = .ok (.lload_n 1, 1) := by decide +kernel
theorem dX6_allParts_28 : decode cX6_allParts 28 = .ok (.aload 6, 2) := by decide +kernel
theorem dX6_allParts_30 : decode cX6_allParts 30 = .ok (.getfield 94, 3) := by decide +kernel
theorem dX6_allParts_33 : decode cX6_allParts 33 = .ok (.ladd, 1) := by decide +kernel
theorem dX6_allParts_34 : decode cX6_allParts 34 = .ok (.lstore_n 1, 1) := by decide +kernel
theorem dX6_allParts_35 : decode cX6_allParts 35 = .ok (.iinc 5 1, 3) := by decide +kernel
theorem dX6_allParts_38 : decode cX6_allParts 38 = .ok (.goto (-24), 3) := by decide +kernel
theorem dX6_allParts_41 : decode cX6_allParts 41 = .ok (.lload_n 1, 1) := by decide +kernel
theorem dX6_allParts_42 : decode cX6_allParts 42 = .ok (.lreturn, 1) := by decide +kernel
theorem dX6_limbOf_0 : decode cX6_limbOf 0 = .ok (.iload_n 2, 1) := by decide +kernel
theorem dX6_limbOf_1 : decode cX6_limbOf 1 = .ok (.ifCond .ne 9, 3) := by decide +kernel
theorem dX6_limbOf_4 : decode cX6_limbOf 4 = .ok (.lload_n 0, 1) := by decide +kernel
theorem dX6_limbOf_5 : decode cX6_limbOf 5 = .ok (.ldc2_w 310, 3) := by decide +kernel
theorem dX6_limbOf_8 : decode cX6_limbOf 8 = .ok (.land, 1) := by decide +kernel
theorem dX6_limbOf_9 : decode cX6_limbOf 9 = .ok (.lreturn, 1) := by decide +kernel
theorem dX6_limbOf_10 : decode cX6_limbOf 10 = .ok (.iload_n 2, 1) := by decide +kernel
theorem dX6_limbOf_11 : decode cX6_limbOf 11 = .ok (.iconst 1, 1) := by decide +kernel
theorem dX6_limbOf_12 : decode cX6_limbOf 12 = .ok (.if_icmp .ne 10, 3) := by decide +kernel
theorem dX6_limbOf_15 : decode cX6_limbOf 15 = .ok (.lload_n 0, 1) := by decide +kernel
theorem dX6_limbOf_16 : decode cX6_limbOf 16 = .ok (.bipush 32, 2) := by decide +kernel
theorem dX6_limbOf_18 : decode cX6_limbOf 18 = .ok (.lshr, 1) := by decide +kernel
theorem dX6_limbOf_19 : decode cX6_limbOf 19 = .ok (.goto 6, 3) := by decide +kernel
theorem dX6_limbOf_22 : decode cX6_limbOf 22 = .ok (.ldc2_w 175, 3) := by decide +kernel
theorem dX6_limbOf_25 : decode cX6_limbOf 25 = .ok (.lreturn, 1) := by decide +kernel
theorem dX6_noReading_0 : decode cX6_noReading 0 = .ok (.ldc2_w 312, 3) := by decide +kernel
theorem dX6_noReading_3 : decode cX6_noReading 3 = .ok (.dreturn, 1) := by decide +kernel
theorem dX6_between_0 : decode cX6_between 0 = .ok (.iconst 1, 1) := by decide +kernel
theorem dX6_between_1 : decode cX6_between 1 = .ok (.iload_n 0, 1) := by decide +kernel
theorem dX6_between_2 : decode cX6_between 2 = .ok (.iload_n 1, 1) := by decide +kernel
theorem dX6_between_3 : decode cX6_between 3 = .ok (.invokestatic 314, 3) := by decide +kernel
theorem dX6_between_6 : decode cX6_between 6 = .ok (.invokestatic 317, 3) := by decide +kernel
theorem dX6_between_9 : decode cX6_between 9 = .ok (.ireturn, 1) := by decide +kernel
theorem dX6_inside_0 : decode cX6_inside 0 = .ok (.dload_n 0, 1) := by decide +kernel
theorem dX6_inside_1 : decode cX6_inside 1 = .ok (.dload_n 2, 1) := by decide +kernel
theorem dX6_inside_2 : decode cX6_inside 2 = .ok (.dcmp .l, 1) := by decide +kernel
theorem dX6_inside_3 : decode cX6_inside 3 = .ok (.ifCond .lt 14, 3) := by decide +kernel
theorem dX6_inside_6 : decode cX6_inside 6 = .ok (.dload_n 0, 1) := by decide +kernel
theorem dX6_inside_7 : decode cX6_inside 7 = .ok (.dload 4, 2) := by decide +kernel
theorem dX6_inside_9 : decode cX6_inside 9 = .ok (.dcmp .g, 1) := by decide +kernel
theorem dX6_inside_10 : decode cX6_inside 10 = .ok (.ifCond .gt 7, 3) := by decide +kernel
theorem dX6_inside_13 : decode cX6_inside 13 = .ok (.iconst 1, 1) := by decide +kernel
theorem dX6_inside_14 : decode cX6_inside 14 = .ok (.goto 4, 3) := by decide +kernel
theorem dX6_inside_17 : decode cX6_inside 17 = .ok (.iconst 0, 1) := by decide +kernel
theorem dX6_inside_18 : decode cX6_inside 18 = .ok (.ireturn, 1) := by decide +kernel
theorem dX6_sizeOf_0 : decode cX6_sizeOf 0 = .ok (.dload_n 0, 1) := by decide +kernel
theorem dX6_sizeOf_1 : decode cX6_sizeOf 1 = .ok (.dconst 0, 1) := by decide +kernel
theorem dX6_sizeOf_2 : decode cX6_sizeOf 2 = .ok (.dcmp .g, 1) := by decide +kernel
theorem dX6_sizeOf_3 : decode cX6_sizeOf 3 = .ok (.ifCond .ge 8, 3) := by decide +kernel
theorem dX6_sizeOf_6 : decode cX6_sizeOf 6 = .ok (.dload_n 0, 1) := by decide +kernel
theorem dX6_sizeOf_7 : decode cX6_sizeOf 7 = .ok (.dneg, 1) := by decide +kernel
theorem dX6_sizeOf_8 : decode cX6_sizeOf 8 = .ok (.goto 4, 3) := by decide +kernel
theorem dX6_sizeOf_11 : decode cX6_sizeOf 11 = .ok (.dload_n 0, 1) := by decide +kernel
theorem dX6_sizeOf_12 : decode cX6_sizeOf 12 = .ok (.dreturn, 1) := by decide +kernel
theorem dX6_saw_0 : decode cX6_saw 0 = .ok (.dload_n 0, 1) := by decide +kernel
theorem dX6_saw_1 : decode cX6_saw 1 = .ok (.dload_n 0, 1) := by decide +kernel
theorem dX6_saw_2 : decode cX6_saw 2 = .ok (.d2l, 1) := by decide +kernel
theorem dX6_saw_3 : decode cX6_saw 3 = .ok (.l2d, 1) := by decide +kernel
theorem dX6_saw_4 : decode cX6_saw 4 = .ok (.dsub, 1) := by decide +kernel
theorem dX6_saw_5 : decode cX6_saw 5 = .ok (.dstore_n 2, 1) := by decide +kernel
theorem dX6_saw_6 : decode cX6_saw 6 = .ok (.dload_n 2, 1) := by decide +kernel
theorem dX6_saw_7 : decode cX6_saw 7 = .ok (.ldc2_w 186, 3) := by decide +kernel
theorem dX6_saw_10 : decode cX6_saw 10 = .ok (.dcmp .g, 1) := by decide +kernel
theorem dX6_saw_11 : decode cX6_saw 11 = .ok (.ifCond .ge 13, 3) := by decide +kernel
theorem dX6_saw_14 : decode cX6_saw 14 = .ok (.dconst 1, 1) := by decide +kernel
theorem dX6_saw_15 : decode cX6_saw 15 = .ok (.ldc2_w 320, 3) := by decide +kernel
theorem dX6_saw_18 : decode cX6_saw 18 = .ok (.dload_n 2, 1) := by decide +kernel
theorem dX6_saw_19 : decode cX6_saw 19 = .ok (.dmul, 1) := by decide +kernel
theorem dX6_saw_20 : decode cX6_saw 20 = .ok (.dsub, 1) := by decide +kernel
theorem dX6_saw_21 : decode cX6_saw 21 = .ok (.goto 12, 3) := by decide +kernel
theorem dX6_saw_24 : decode cX6_saw 24 = .ok (.ldc2_w 320, 3) := by decide +kernel
theorem dX6_saw_27 : decode cX6_saw 27 = .ok (.dload_n 2, 1) := by decide +kernel
theorem dX6_saw_28 : decode cX6_saw 28 = .ok (.dmul, 1) := by decide +kernel
theorem dX6_saw_29 : decode cX6_saw 29 = .ok (.ldc2_w 322, 3) := by decide +kernel
theorem dX6_saw_32 : decode cX6_saw 32 = .ok (.dsub, 1) := by decide +kernel
theorem dX6_saw_33 : decode cX6_saw 33 = .ok (.dreturn, 1) := by decide +kernel
theorem dX6_newCells_0 : decode cX6_newCells 0 = .ok (.iload_n 0, 1) := by decide +kernel
theorem dX6_newCells_1 : decode cX6_newCells 1 = .ok (.anewarray 95, 3) := by decide +kernel
theorem dX6_newCells_4 : decode cX6_newCells 4 = .ok (.astore_n 1, 1) := by decide +kernel
theorem dX6_newCells_5 : decode cX6_newCells 5 = .ok (.iconst 0, 1) := by decide +kernel
theorem dX6_newCells_6 : decode cX6_newCells 6 = .ok (.istore_n 2, 1) := by decide +kernel
theorem dX6_newCells_7 : decode cX6_newCells 7 = .ok (.iload_n 2, 1) := by decide +kernel
theorem dX6_newCells_8 : decode cX6_newCells 8 = .ok (.aload_n 1, 1) := by decide +kernel
theorem dX6_newCells_9 : decode cX6_newCells 9 = .ok (.arraylength, 1) := by decide +kernel
theorem dX6_newCells_10 : decode cX6_newCells 10 = .ok (.if_icmp .ge 19, 3) := by decide +kernel
theorem dX6_newCells_13 : decode cX6_newCells 13 = .ok (.aload_n 1, 1) := by decide +kernel
theorem dX6_newCells_14 : decode cX6_newCells 14 = .ok (.iload_n 2, 1) := by decide +kernel
theorem dX6_newCells_15 : decode cX6_newCells 15 = .ok (.new 95, 3) := by decide +kernel
theorem dX6_newCells_18 : decode cX6_newCells 18 = .ok (.dup, 1) := by decide +kernel
theorem dX6_newCells_19 : decode cX6_newCells 19 = .ok (.invokespecial 324, 3) := by decide +kernel
theorem dX6_newCells_22 : decode cX6_newCells 22 = .ok (.aastore, 1) := by decide +kernel
theorem dX6_newCells_23 : decode cX6_newCells 23 = .ok (.iinc 2 1, 3) := by decide +kernel
theorem dX6_newCells_26 : decode cX6_newCells 26 = .ok (.goto (-19), 3) := by decide +kernel
theorem dX6_newCells_29 : decode cX6_newCells 29 = .ok (.aload_n 1, 1) := by decide +kernel
theorem dX6_newCells_30 : decode cX6_newCells 30 = .ok (.areturn, 1) := by decide +kernel
theorem dX6_newSides_0 : decode cX6_newSides 0 = .ok (.iconst 4, 1) := by decide +kernel
theorem dX6_newSides_1 : decode cX6_newSides 1 = .ok (.anewarray 119, 3) := by decide +kernel
theorem dX6_newSides_4 : decode cX6_newSides 4 = .ok (.astore_n 0, 1) := by decide +kernel
theorem dX6_newSides_5 : decode cX6_newSides 5 = .ok (.iconst 0, 1) := by decide +kernel
theorem dX6_newSides_6 : decode cX6_newSides 6 = .ok (.istore_n 1, 1) := by decide +kernel
theorem dX6_newSides_7 : decode cX6_newSides 7 = .ok (.iload_n 1, 1) := by decide +kernel
theorem dX6_newSides_8 : decode cX6_newSides 8 = .ok (.aload_n 0, 1) := by decide +kernel
theorem dX6_newSides_9 : decode cX6_newSides 9 = .ok (.arraylength, 1) := by decide +kernel
theorem dX6_newSides_10 : decode cX6_newSides 10 = .ok (.if_icmp .ge 19, 3) := by decide +kernel
theorem dX6_newSides_13 : decode cX6_newSides 13 = .ok (.aload_n 0, 1) := by decide +kernel
theorem dX6_newSides_14 : decode cX6_newSides 14 = .ok (.iload_n 1, 1) := by decide +kernel
theorem dX6_newSides_15 : decode cX6_newSides 15 = .ok (.new 119, 3) := by decide +kernel
theorem dX6_newSides_18 : decode cX6_newSides 18 = .ok (.dup, 1) := by decide +kernel
theorem dX6_newSides_19 : decode cX6_newSides 19 = .ok (.invokespecial 325, 3) := by decide +kernel
theorem dX6_newSides_22 : decode cX6_newSides 22 = .ok (.aastore, 1) := by decide +kernel
theorem dX6_newSides_23 : decode cX6_newSides 23 = .ok (.iinc 1 1, 3) := by decide +kernel
theorem dX6_newSides_26 : decode cX6_newSides 26 = .ok (.goto (-19), 3) := by decide +kernel
theorem dX6_newSides_29 : decode cX6_newSides 29 = .ok (.aload_n 0, 1) := by decide +kernel
theorem dX6_newSides_30 : decode cX6_newSides 30 = .ok (.areturn, 1) := by decide +kernel
theorem dX6_newNests_0 : decode cX6_newNests 0 = .ok (.bipush 10, 2) := by decide +kernel
theorem dX6_newNests_2 : decode cX6_newNests 2 = .ok (.anewarray 204, 3) := by decide +kernel
theorem dX6_newNests_5 : decode cX6_newNests 5 = .ok (.astore_n 0, 1) := by decide +kernel
theorem dX6_newNests_6 : decode cX6_newNests 6 = .ok (.iconst 0, 1) := by decide +kernel
theorem dX6_newNests_7 : decode cX6_newNests 7 = .ok (.istore_n 1, 1) := by decide +kernel
theorem dX6_newNests_8 : decode cX6_newNests 8 = .ok (.iload_n 1, 1) := by decide +kernel
theorem dX6_newNests_9 : decode cX6_newNests 9 = .ok (.aload_n 0, 1) := by decide +kernel
theorem dX6_newNests_10 : decode cX6_newNests 10 = .ok (.arraylength, 1) := by decide +kernel
theorem dX6_newNests_11 : decode cX6_newNests 11 = .ok (.if_icmp .ge 19, 3) := by decide +kernel
theorem dX6_newNests_14 : decode cX6_newNests 14 = .ok (.aload_n 0, 1) := by decide +kernel
theorem dX6_newNests_15 : decode cX6_newNests 15 = .ok (.iload_n 1, 1) := by decide +kernel
theorem dX6_newNests_16 : decode cX6_newNests 16 = .ok (.new 204, 3) := by decide +kernel
theorem dX6_newNests_19 : decode cX6_newNests 19 = .ok (.dup, 1) := by decide +kernel
theorem dX6_newNests_20 : decode cX6_newNests 20 = .ok (.invokespecial 326, 3) := by decide +kernel
theorem dX6_newNests_23 : decode cX6_newNests 23 = .ok (.aastore, 1) := by decide +kernel
theorem dX6_newNests_24 : decode cX6_newNests 24 = .ok (.iinc 1 1, 3) := by decide +kernel
theorem dX6_newNests_27 : decode cX6_newNests 27 = .ok (.goto (-19), 3) := by decide +kernel
theorem dX6_newNests_30 : decode cX6_newNests 30 = .ok (.aload_n 0, 1) := by decide +kernel
theorem dX6_newNests_31 : decode cX6_newNests 31 = .ok (.areturn, 1) := by decide +kernel
theorem dX6_newStates_0 : decode cX6_newStates 0 = .ok (.iconst 4, 1) := by decide +kernel
theorem dX6_newStates_1 : decode cX6_newStates 1 = .ok (.anewarray 235, 3) := by decide +kernel
theorem dX6_newStates_4 : decode cX6_newStates 4 = .ok (.astore_n 2, 1) := by decide +kernel
theorem dX6_newStates_5 : decode cX6_newStates 5 = .ok (.iconst 0, 1) := by decide +kernel
theorem dX6_newStates_6 : decode cX6_newStates 6 = .ok (.istore_n 3, 1) := by decide +kernel
theorem dX6_newStates_7 : decode cX6_newStates 7 = .ok (.iload_n 3, 1) := by decide +kernel
theorem dX6_newStates_8 : decode cX6_newStates 8 = .ok (.aload_n 2, 1) := by decide +kernel
theorem dX6_newStates_9 : decode cX6_newStates 9 = .ok (.arraylength, 1) := by decide +kernel
theorem dX6_newStates_10 : decode cX6_newStates 10 = .ok (.if_icmp .ge 21, 3) := by decide +kernel
theorem dX6_newStates_13 : decode cX6_newStates 13 = .ok (.aload_n 2, 1) := by decide +kernel
theorem dX6_newStates_14 : decode cX6_newStates 14 = .ok (.iload_n 3, 1) := by decide +kernel
theorem dX6_newStates_15 : decode cX6_newStates 15 = .ok (.new 235, 3) := by decide +kernel
theorem dX6_newStates_18 : decode cX6_newStates 18 = .ok (.dup, 1) := by decide +kernel
theorem dX6_newStates_19 : decode cX6_newStates 19 = .ok (.iload_n 0, 1) := by decide +kernel
theorem dX6_newStates_20 : decode cX6_newStates 20 = .ok (.iload_n 1, 1) := by decide +kernel
theorem dX6_newStates_21 : decode cX6_newStates 21 = .ok (.invokespecial 327, 3) := by decide +kernel
theorem dX6_newStates_24 : decode cX6_newStates 24 = .ok (.aastore, 1) := by decide +kernel
theorem dX6_newStates_25 : decode cX6_newStates 25 = .ok (.iinc 3 1, 3) := by decide +kernel
theorem dX6_newStates_28 : decode cX6_newStates 28 = .ok (.goto (-21), 3) := by decide +kernel
theorem dX6_newStates_31 : decode cX6_newStates 31 = .ok (.aload_n 2, 1) := by decide +kernel
theorem dX6_newStates_32 : decode cX6_newStates 32 = .ok (.areturn, 1) := by decide +kernel
theorem dX6_faceCount_0 : decode cX6_faceCount 0 = .ok (.iload_n 0, 1) := by decide +kernel
theorem dX6_faceCount_1 : decode cX6_faceCount 1 = .ok (.iconst 1, 1) := by decide +kernel
theorem dX6_faceCount_2 : decode cX6_faceCount 2 = .ok (.isub, 1) := by decide +kernel
theorem dX6_faceCount_3 : decode cX6_faceCount 3 = .ok (.iload_n 1, 1) := by decide +kernel
theorem dX6_faceCount_4 : decode cX6_faceCount 4 = .ok (.imul, 1) := by decide +kernel
theorem dX6_faceCount_5 : decode cX6_faceCount 5 = .ok (.iload_n 0, 1) := by decide +kernel
theorem dX6_faceCount_6 : decode cX6_faceCount 6 = .ok (.iload_n 1, 1) := by decide +kernel
theorem dX6_faceCount_7 : decode cX6_faceCount 7 = .ok (.iconst 1, 1) := by decide +kernel
theorem dX6_faceCount_8 : decode cX6_faceCount 8 = .ok (.isub, 1) := by decide +kernel
theorem dX6_faceCount_9 : decode cX6_faceCount 9 = .ok (.imul, 1) := by decide +kernel
theorem dX6_faceCount_10 : decode cX6_faceCount 10 = .ok (.iadd, 1) := by decide +kernel
theorem dX6_faceCount_11 : decode cX6_faceCount 11 = .ok (.iconst 2, 1) := by decide +kernel
theorem dX6_faceCount_12 : decode cX6_faceCount 12 = .ok (.iload_n 0, 1) := by decide +kernel
theorem dX6_faceCount_13 : decode cX6_faceCount 13 = .ok (.imul, 1) := by decide +kernel
theorem dX6_faceCount_14 : decode cX6_faceCount 14 = .ok (.iadd, 1) := by decide +kernel
theorem dX6_faceCount_15 : decode cX6_faceCount 15 = .ok (.iconst 2, 1) := by decide +kernel
theorem dX6_faceCount_16 : decode cX6_faceCount 16 = .ok (.iload_n 1, 1) := by decide +kernel
theorem dX6_faceCount_17 : decode cX6_faceCount 17 = .ok (.imul, 1) := by decide +kernel
theorem dX6_faceCount_18 : decode cX6_faceCount 18 = .ok (.iadd, 1) := by decide +kernel
theorem dX6_faceCount_19 : decode cX6_faceCount 19 = .ok (.ireturn, 1) := by decide +kernel
theorem dX6_newFaces_0 : decode cX6_newFaces 0 = .ok (.iload_n 2, 1) := by decide +kernel
theorem dX6_newFaces_1 : decode cX6_newFaces 1 = .ok (.iload_n 3, 1) := by decide +kernel
theorem dX6_newFaces_2 : decode cX6_newFaces 2 = .ok (.invokestatic 62, 3) := by decide +kernel
theorem dX6_newFaces_5 : decode cX6_newFaces 5 = .ok (.anewarray 104, 3) := by decide +kernel
theorem dX6_newFaces_8 : decode cX6_newFaces 8 = .ok (.astore 4, 2) := by decide +kernel
theorem dX6_newFaces_10 : decode cX6_newFaces 10 = .ok (.iconst 0, 1) := by decide +kernel
theorem dX6_newFaces_11 : decode cX6_newFaces 11 = .ok (.istore 5, 2) := by decide +kernel
theorem dX6_newFaces_13 : decode cX6_newFaces 13 = .ok (.iconst 0, 1) := by decide +kernel
theorem dX6_newFaces_14 : decode cX6_newFaces 14 = .ok (.istore 6, 2) := by decide +kernel
theorem dX6_newFaces_16 : decode cX6_newFaces 16 = .ok (.iload 6, 2) := by decide +kernel
theorem dX6_newFaces_18 : decode cX6_newFaces 18 = .ok (.iload_n 3, 1) := by decide +kernel
theorem dX6_newFaces_19 : decode cX6_newFaces 19 = .ok (.if_icmp .ge 60, 3) := by decide +kernel
theorem dX6_newFaces_22 : decode cX6_newFaces 22 = .ok (.iconst 0, 1) := by decide +kernel
theorem dX6_newFaces_23 : decode cX6_newFaces 23 = .ok (.istore 7, 2) := by decide +kernel
theorem dX6_newFaces_25 : decode cX6_newFaces 25 = .ok (.iload 7, 2) := by decide +kernel
theorem dX6_newFaces_27 : decode cX6_newFaces 27 = .ok (.iconst 1, 1) := by decide +kernel
theorem dX6_newFaces_28 : decode cX6_newFaces 28 = .ok (.iadd, 1) := by decide +kernel
theorem dX6_newFaces_29 : decode cX6_newFaces 29 = .ok (.iload_n 2, 1) := by decide +kernel
theorem dX6_newFaces_30 : decode cX6_newFaces 30 = .ok (.if_icmp .ge 43, 3) := by decide +kernel
theorem dX6_newFaces_33 : decode cX6_newFaces 33 = .ok (.iload 6, 2) := by decide +kernel
theorem dX6_newFaces_35 : decode cX6_newFaces 35 = .ok (.iload_n 2, 1) := by decide +kernel
theorem dX6_newFaces_36 : decode cX6_newFaces 36 = .ok (.imul, 1) := by decide +kernel
theorem dX6_newFaces_37 : decode cX6_newFaces 37 = .ok (.iload 7, 2) := by decide +kernel
theorem dX6_newFaces_39 : decode cX6_newFaces 39 = .ok (.iadd, 1) := by decide +kernel
theorem dX6_newFaces_40 : decode cX6_newFaces 40 = .ok (.istore 8, 2) := by decide +kernel
theorem dX6_newFaces_42 : decode cX6_newFaces 42 = .ok (.aload 4, 2) := by decide +kernel
theorem dX6_newFaces_44 : decode cX6_newFaces 44 = .ok (.iload 5, 2) := by decide +kernel
theorem dX6_newFaces_46 : decode cX6_newFaces 46 = .ok (.new 104, 3) := by decide +kernel
theorem dX6_newFaces_49 : decode cX6_newFaces 49 = .ok (.dup, 1) := by decide +kernel
theorem dX6_newFaces_50 : decode cX6_newFaces 50 = .ok (.aload_n 0, 1) := by decide +kernel
theorem dX6_newFaces_51 : decode cX6_newFaces 51 = .ok (.iload 8, 2) := by decide +kernel
theorem dX6_newFaces_53 : decode cX6_newFaces 53 = .ok (.iload 8, 2) := by decide +kernel
theorem dX6_newFaces_55 : decode cX6_newFaces 55 = .ok (.iconst 1, 1) := by decide +kernel
theorem dX6_newFaces_56 : decode cX6_newFaces 56 = .ok (.iadd, 1) := by decide +kernel
theorem dX6_newFaces_57 : decode cX6_newFaces 57 = .ok (.aconst_null, 1) := by decide +kernel
theorem dX6_newFaces_58 : decode cX6_newFaces 58 = .ok (.iconst 0, 1) := by decide +kernel
theorem dX6_newFaces_59 : decode cX6_newFaces 59 = .ok (.invokespecial 330, 3) := by decide +kernel
theorem dX6_newFaces_62 : decode cX6_newFaces 62 = .ok (.invokestatic 333, 3) := by decide +kernel
theorem dX6_newFaces_65 : decode cX6_newFaces 65 = .ok (.istore 5, 2) := by decide +kernel
theorem dX6_newFaces_67 : decode cX6_newFaces 67 = .ok (.iinc 7 1, 3) := by decide +kernel
theorem dX6_newFaces_70 : decode cX6_newFaces 70 = .ok (.goto (-45), 3) := by decide +kernel
theorem dX6_newFaces_73 : decode cX6_newFaces 73 = .ok (.iinc 6 1, 3) := by decide +kernel
theorem dX6_newFaces_76 : decode cX6_newFaces 76 = .ok (.goto (-60), 3) := by decide +kernel
theorem dX6_newFaces_79 : decode cX6_newFaces 79 = .ok (.iconst 0, 1) := by decide +kernel
theorem dX6_newFaces_80 : decode cX6_newFaces 80 = .ok (.istore 6, 2) := by decide +kernel
theorem dX6_newFaces_82 : decode cX6_newFaces 82 = .ok (.iload 6, 2) := by decide +kernel
theorem dX6_newFaces_84 : decode cX6_newFaces 84 = .ok (.iconst 1, 1) := by decide +kernel
theorem dX6_newFaces_85 : decode cX6_newFaces 85 = .ok (.iadd, 1) := by decide +kernel
theorem dX6_newFaces_86 : decode cX6_newFaces 86 = .ok (.iload_n 3, 1) := by decide +kernel
theorem dX6_newFaces_87 : decode cX6_newFaces 87 = .ok (.if_icmp .ge 58, 3) := by decide +kernel
theorem dX6_newFaces_90 : decode cX6_newFaces 90 = .ok (.iconst 0, 1) := by decide +kernel
theorem dX6_newFaces_91 : decode cX6_newFaces 91 = .ok (.istore 7, 2) := by decide +kernel
theorem dX6_newFaces_93 : decode cX6_newFaces 93 = .ok (.iload 7, 2) := by decide +kernel
theorem dX6_newFaces_95 : decode cX6_newFaces 95 = .ok (.iload_n 2, 1) := by decide +kernel
theorem dX6_newFaces_96 : decode cX6_newFaces 96 = .ok (.if_icmp .ge 43, 3) := by decide +kernel
theorem dX6_newFaces_99 : decode cX6_newFaces 99 = .ok (.iload 6, 2) := by decide +kernel
theorem dX6_newFaces_101 : decode cX6_newFaces 101 = .ok (.iload_n 2, 1) := by decide +kernel
theorem dX6_newFaces_102 : decode cX6_newFaces 102 = .ok (.imul, 1) := by decide +kernel
theorem dX6_newFaces_103 : decode cX6_newFaces 103 = .ok (.iload 7, 2) := by decide +kernel
theorem dX6_newFaces_105 : decode cX6_newFaces 105 = .ok (.iadd, 1) := by decide +kernel
theorem dX6_newFaces_106 : decode cX6_newFaces 106 = .ok (.istore 8, 2) := by decide +kernel
theorem dX6_newFaces_108 : decode cX6_newFaces 108 = .ok (.aload 4, 2) := by decide +kernel
theorem dX6_newFaces_110 : decode cX6_newFaces 110 = .ok (.iload 5, 2) := by decide +kernel
theorem dX6_newFaces_112 : decode cX6_newFaces 112 = .ok (.new 104, 3) := by decide +kernel
theorem dX6_newFaces_115 : decode cX6_newFaces 115 = .ok (.dup, 1) := by decide +kernel
theorem dX6_newFaces_116 : decode cX6_newFaces 116 = .ok (.aload_n 0, 1) := by decide +kernel
theorem dX6_newFaces_117 : decode cX6_newFaces 117 = .ok (.iload 8, 2) := by decide +kernel
theorem dX6_newFaces_119 : decode cX6_newFaces 119 = .ok (.iload 8, 2) := by decide +kernel
theorem dX6_newFaces_121 : decode cX6_newFaces 121 = .ok (.iload_n 2, 1) := by decide +kernel
theorem dX6_newFaces_122 : decode cX6_newFaces 122 = .ok (.iadd, 1) := by decide +kernel
theorem dX6_newFaces_123 : decode cX6_newFaces 123 = .ok (.aconst_null, 1) := by decide +kernel
theorem dX6_newFaces_124 : decode cX6_newFaces 124 = .ok (.iconst 1, 1) := by decide +kernel
theorem dX6_newFaces_125 : decode cX6_newFaces 125 = .ok (.invokespecial 330, 3) := by decide +kernel
theorem dX6_newFaces_128 : decode cX6_newFaces 128 = .ok (.invokestatic 333, 3) := by decide +kernel
theorem dX6_newFaces_131 : decode cX6_newFaces 131 = .ok (.istore 5, 2) := by decide +kernel
theorem dX6_newFaces_133 : decode cX6_newFaces 133 = .ok (.iinc 7 1, 3) := by decide +kernel
theorem dX6_newFaces_136 : decode cX6_newFaces 136 = .ok (.goto (-43), 3) := by decide +kernel
theorem dX6_newFaces_139 : decode cX6_newFaces 139 = .ok (.iinc 6 1, 3) := by decide +kernel
theorem dX6_newFaces_142 : decode cX6_newFaces 142 = .ok (.goto (-60), 3) := by decide +kernel
theorem dX6_newFaces_145 : decode cX6_newFaces 145 = .ok (.iconst 0, 1) := by decide +kernel
theorem dX6_newFaces_146 : decode cX6_newFaces 146 = .ok (.istore 6, 2) := by decide +kernel
theorem dX6_newFaces_148 : decode cX6_newFaces 148 = .ok (.iload 6, 2) := by decide +kernel
theorem dX6_newFaces_150 : decode cX6_newFaces 150 = .ok (.iload_n 3, 1) := by decide +kernel
theorem dX6_newFaces_151 : decode cX6_newFaces 151 = .ok (.if_icmp .ge 35, 3) := by decide +kernel
theorem dX6_newFaces_154 : decode cX6_newFaces 154 = .ok (.aload 4, 2) := by decide +kernel
theorem dX6_newFaces_156 : decode cX6_newFaces 156 = .ok (.iload 5, 2) := by decide +kernel
theorem dX6_newFaces_158 : decode cX6_newFaces 158 = .ok (.new 104, 3) := by decide +kernel
theorem dX6_newFaces_161 : decode cX6_newFaces 161 = .ok (.dup, 1) := by decide +kernel
theorem dX6_newFaces_162 : decode cX6_newFaces 162 = .ok (.aload_n 0, 1) := by decide +kernel
theorem dX6_newFaces_163 : decode cX6_newFaces 163 = .ok (.iconst (-1), 1) := by decide +kernel
theorem dX6_newFaces_164 : decode cX6_newFaces 164 = .ok (.iload 6, 2) := by decide +kernel
theorem dX6_newFaces_166 : decode cX6_newFaces 166 = .ok (.iload_n 2, 1) := by decide +kernel
theorem dX6_newFaces_167 : decode cX6_newFaces 167 = .ok (.imul, 1) := by decide +kernel
theorem dX6_newFaces_168 : decode cX6_newFaces 168 = .ok (.aload_n 1, 1) := by decide +kernel
theorem dX6_newFaces_169 : decode cX6_newFaces 169 = .ok (.iconst 0, 1) := by decide +kernel
theorem dX6_newFaces_170 : decode cX6_newFaces 170 = .ok (.aaload, 1) := by decide +kernel
theorem dX6_newFaces_171 : decode cX6_newFaces 171 = .ok (.iconst 0, 1) := by decide +kernel
theorem dX6_newFaces_172 : decode cX6_newFaces 172 = .ok (.invokespecial 330, 3) := by decide +kernel
theorem dX6_newFaces_175 : decode cX6_newFaces 175 = .ok (.invokestatic 333, 3) := by decide +kernel
theorem dX6_newFaces_178 : decode cX6_newFaces 178 = .ok (.istore 5, 2) := by decide +kernel
theorem dX6_newFaces_180 : decode cX6_newFaces 180 = .ok (.iinc 6 1, 3) := by decide +kernel
theorem dX6_newFaces_183 : decode cX6_newFaces 183 = .ok (.goto (-35), 3) := by decide +kernel
theorem dX6_newFaces_186 : decode cX6_newFaces 186 = .ok (.iconst 0, 1) := by decide +kernel
theorem dX6_newFaces_187 : decode cX6_newFaces 187 = .ok (.istore 6, 2) := by decide +kernel
theorem dX6_newFaces_189 : decode cX6_newFaces 189 = .ok (.iload 6, 2) := by decide +kernel
theorem dX6_newFaces_191 : decode cX6_newFaces 191 = .ok (.iload_n 3, 1) := by decide +kernel
theorem dX6_newFaces_192 : decode cX6_newFaces 192 = .ok (.if_icmp .ge 39, 3) := by decide +kernel
theorem dX6_newFaces_195 : decode cX6_newFaces 195 = .ok (.aload 4, 2) := by decide +kernel
theorem dX6_newFaces_197 : decode cX6_newFaces 197 = .ok (.iload 5, 2) := by decide +kernel
theorem dX6_newFaces_199 : decode cX6_newFaces 199 = .ok (.new 104, 3) := by decide +kernel
theorem dX6_newFaces_202 : decode cX6_newFaces 202 = .ok (.dup, 1) := by decide +kernel
theorem dX6_newFaces_203 : decode cX6_newFaces 203 = .ok (.aload_n 0, 1) := by decide +kernel
theorem dX6_newFaces_204 : decode cX6_newFaces 204 = .ok (.iload 6, 2) := by decide +kernel
theorem dX6_newFaces_206 : decode cX6_newFaces 206 = .ok (.iload_n 2, 1) := by decide +kernel
theorem dX6_newFaces_207 : decode cX6_newFaces 207 = .ok (.imul, 1) := by decide +kernel
theorem dX6_newFaces_208 : decode cX6_newFaces 208 = .ok (.iload_n 2, 1) := by decide +kernel
theorem dX6_newFaces_209 : decode cX6_newFaces 209 = .ok (.iadd, 1) := by decide +kernel
theorem dX6_newFaces_210 : decode cX6_newFaces 210 = .ok (.iconst 1, 1) := by decide +kernel
theorem dX6_newFaces_211 : decode cX6_newFaces 211 = .ok (.isub, 1) := by decide +kernel
theorem dX6_newFaces_212 : decode cX6_newFaces 212 = .ok (.iconst (-1), 1) := by decide +kernel
theorem dX6_newFaces_213 : decode cX6_newFaces 213 = .ok (.aload_n 1, 1) := by decide +kernel
theorem dX6_newFaces_214 : decode cX6_newFaces 214 = .ok (.iconst 1, 1) := by decide +kernel
theorem dX6_newFaces_215 : decode cX6_newFaces 215 = .ok (.aaload, 1) := by decide +kernel
theorem dX6_newFaces_216 : decode cX6_newFaces 216 = .ok (.iconst 0, 1) := by decide +kernel
theorem dX6_newFaces_217 : decode cX6_newFaces 217 = .ok (.invokespecial 330, 3) := by decide +kernel
theorem dX6_newFaces_220 : decode cX6_newFaces 220 = .ok (.invokestatic 333, 3) := by decide +kernel
theorem dX6_newFaces_223 : decode cX6_newFaces 223 = .ok (.istore 5, 2) := by decide +kernel
theorem dX6_newFaces_225 : decode cX6_newFaces 225 = .ok (.iinc 6 1, 3) := by decide +kernel
theorem dX6_newFaces_228 : decode cX6_newFaces 228 = .ok (.goto (-39), 3) := by decide +kernel
theorem dX6_newFaces_231 : decode cX6_newFaces 231 = .ok (.iconst 0, 1) := by decide +kernel
theorem dX6_newFaces_232 : decode cX6_newFaces 232 = .ok (.istore 6, 2) := by decide +kernel
theorem dX6_newFaces_234 : decode cX6_newFaces 234 = .ok (.iload 6, 2) := by decide +kernel
theorem dX6_newFaces_236 : decode cX6_newFaces 236 = .ok (.iload_n 2, 1) := by decide +kernel
theorem dX6_newFaces_237 : decode cX6_newFaces 237 = .ok (.if_icmp .ge 33, 3) := by decide +kernel
theorem dX6_newFaces_240 : decode cX6_newFaces 240 = .ok (.aload 4, 2) := by decide +kernel
theorem dX6_newFaces_242 : decode cX6_newFaces 242 = .ok (.iload 5, 2) := by decide +kernel
theorem dX6_newFaces_244 : decode cX6_newFaces 244 = .ok (.new 104, 3) := by decide +kernel
theorem dX6_newFaces_247 : decode cX6_newFaces 247 = .ok (.dup, 1) := by decide +kernel
theorem dX6_newFaces_248 : decode cX6_newFaces 248 = .ok (.aload_n 0, 1) := by decide +kernel
theorem dX6_newFaces_249 : decode cX6_newFaces 249 = .ok (.iconst (-1), 1) := by decide +kernel
theorem dX6_newFaces_250 : decode cX6_newFaces 250 = .ok (.iload 6, 2) := by decide +kernel
theorem dX6_newFaces_252 : decode cX6_newFaces 252 = .ok (.aload_n 1, 1) := by decide +kernel
theorem dX6_newFaces_253 : decode cX6_newFaces 253 = .ok (.iconst 2, 1) := by decide +kernel
theorem dX6_newFaces_254 : decode cX6_newFaces 254 = .ok (.aaload, 1) := by decide +kernel
theorem dX6_newFaces_255 : decode cX6_newFaces 255 = .ok (.iconst 1, 1) := by decide +kernel
theorem dX6_newFaces_256 : decode cX6_newFaces 256 = .ok (.invokespecial 330, 3) := by decide +kernel
theorem dX6_newFaces_259 : decode cX6_newFaces 259 = .ok (.invokestatic 333, 3) := by decide +kernel
theorem dX6_newFaces_262 : decode cX6_newFaces 262 = .ok (.istore 5, 2) := by decide +kernel
theorem dX6_newFaces_264 : decode cX6_newFaces 264 = .ok (.iinc 6 1, 3) := by decide +kernel
theorem dX6_newFaces_267 : decode cX6_newFaces 267 = .ok (.goto (-33), 3) := by decide +kernel
theorem dX6_newFaces_270 : decode cX6_newFaces 270 = .ok (.iconst 0, 1) := by decide +kernel
theorem dX6_newFaces_271 : decode cX6_newFaces 271 = .ok (.istore 6, 2) := by decide +kernel
theorem dX6_newFaces_273 : decode cX6_newFaces 273 = .ok (.iload 6, 2) := by decide +kernel
theorem dX6_newFaces_275 : decode cX6_newFaces 275 = .ok (.iload_n 2, 1) := by decide +kernel
theorem dX6_newFaces_276 : decode cX6_newFaces 276 = .ok (.if_icmp .ge 39, 3) := by decide +kernel
theorem dX6_newFaces_279 : decode cX6_newFaces 279 = .ok (.aload 4, 2) := by decide +kernel
theorem dX6_newFaces_281 : decode cX6_newFaces 281 = .ok (.iload 5, 2) := by decide +kernel
theorem dX6_newFaces_283 : decode cX6_newFaces 283 = .ok (.new 104, 3) := by decide +kernel
theorem dX6_newFaces_286 : decode cX6_newFaces 286 = .ok (.dup, 1) := by decide +kernel
theorem dX6_newFaces_287 : decode cX6_newFaces 287 = .ok (.aload_n 0, 1) := by decide +kernel
theorem dX6_newFaces_288 : decode cX6_newFaces 288 = .ok (.iload_n 3, 1) := by decide +kernel
theorem dX6_newFaces_289 : decode cX6_newFaces 289 = .ok (.iconst 1, 1) := by decide +kernel
theorem dX6_newFaces_290 : decode cX6_newFaces 290 = .ok (.isub, 1) := by decide +kernel
theorem dX6_newFaces_291 : decode cX6_newFaces 291 = .ok (.iload_n 2, 1) := by decide +kernel
theorem dX6_newFaces_292 : decode cX6_newFaces 292 = .ok (.imul, 1) := by decide +kernel
theorem dX6_newFaces_293 : decode cX6_newFaces 293 = .ok (.iload 6, 2) := by decide +kernel
theorem dX6_newFaces_295 : decode cX6_newFaces 295 = .ok (.iadd, 1) := by decide +kernel
theorem dX6_newFaces_296 : decode cX6_newFaces 296 = .ok (.iconst (-1), 1) := by decide +kernel
theorem dX6_newFaces_297 : decode cX6_newFaces 297 = .ok (.aload_n 1, 1) := by decide +kernel
theorem dX6_newFaces_298 : decode cX6_newFaces 298 = .ok (.iconst 3, 1) := by decide +kernel
theorem dX6_newFaces_299 : decode cX6_newFaces 299 = .ok (.aaload, 1) := by decide +kernel
theorem dX6_newFaces_300 : decode cX6_newFaces 300 = .ok (.iconst 1, 1) := by decide +kernel
theorem dX6_newFaces_301 : decode cX6_newFaces 301 = .ok (.invokespecial 330, 3) := by decide +kernel
theorem dX6_newFaces_304 : decode cX6_newFaces 304 = .ok (.invokestatic 333, 3) := by decide +kernel
theorem dX6_newFaces_307 : decode cX6_newFaces 307 = .ok (.istore 5, 2) := by decide +kernel
theorem dX6_newFaces_309 : decode cX6_newFaces 309 = .ok (.iinc 6 1, 3) := by decide +kernel
theorem dX6_newFaces_312 : decode cX6_newFaces 312 = .ok (.goto (-39), 3) := by decide +kernel
theorem dX6_newFaces_315 : decode cX6_newFaces 315 = .ok (.aload 4, 2) := by decide +kernel
theorem dX6_newFaces_317 : decode cX6_newFaces 317 = .ok (.areturn, 1) := by decide +kernel
theorem dX6_put_0 : decode cX6_put 0 = .ok (.iload_n 1, 1) := by decide +kernel
theorem dX6_put_1 : decode cX6_put 1 = .ok (.ifCond .lt 13, 3) := by decide +kernel
theorem dX6_put_4 : decode cX6_put 4 = .ok (.iload_n 1, 1) := by decide +kernel
theorem dX6_put_5 : decode cX6_put 5 = .ok (.aload_n 0, 1) := by decide +kernel
theorem dX6_put_6 : decode cX6_put 6 = .ok (.arraylength, 1) := by decide +kernel
theorem dX6_put_7 : decode cX6_put 7 = .ok (.if_icmp .ge 7, 3) := by decide +kernel
theorem dX6_put_10 : decode cX6_put 10 = .ok (.aload_n 0, 1) := by decide +kernel
theorem dX6_put_11 : decode cX6_put 11 = .ok (.iload_n 1, 1) := by decide +kernel
theorem dX6_put_12 : decode cX6_put 12 = .ok (.aload_n 2, 1) := by decide +kernel
theorem dX6_put_13 : decode cX6_put 13 = .ok (.aastore, 1) := by decide +kernel
theorem dX6_put_14 : decode cX6_put 14 = .ok (.iload_n 1, 1) := by decide +kernel
theorem dX6_put_15 : decode cX6_put 15 = .ok (.iconst 1, 1) := by decide +kernel
theorem dX6_put_16 : decode cX6_put 16 = .ok (.iadd, 1) := by decide +kernel
theorem dX6_put_17 : decode cX6_put 17 = .ok (.ireturn, 1) := by decide +kernel

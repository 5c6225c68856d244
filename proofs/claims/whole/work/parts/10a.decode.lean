theorem dX0_init_0 : decode cX0_init 0 = .ok (.aload_n 0, 1) := by decide +kernel
theorem dX0_init_1 : decode cX0_init 1 = .ok (.invokespecial 3, 3) := by decide +kernel
theorem dX0_init_4 : decode cX0_init 4 = .ok (.return_, 1) := by decide +kernel
theorem dX0_become_0 : decode cX0_become 0 = .ok (.aload_n 0, 1) := by decide +kernel
theorem dX0_become_1 : decode cX0_become 1 = .ok (.dload_n 1, 1) := by decide +kernel
theorem dX0_become_2 : decode cX0_become 2 = .ok (.dconst 0, 1) := by decide +kernel
theorem dX0_become_3 : decode cX0_become 3 = .ok (.dcmp .l, 1) := by decide +kernel
theorem dX0_become_4 : decode cX0_become 4 = .ok (.ifCond .le 7, 3) := by decide +kernel
theorem dX0_become_7 : decode cX0_become 7 = .ok (.iconst 1, 1) := by decide +kernel
theorem dX0_become_8 : decode cX0_become 8 = .ok (.goto 4, 3) := by decide +kernel
theorem dX0_become_11 : decode cX0_become 11 = .ok (.iconst 0, 1) := by decide +kernel
theorem dX0_become_12 : decode cX0_become 12 = .ok (.putfield 9, 3) := by decide +kernel
theorem dX0_become_15 : decode cX0_become 15 = .ok (.aload_n 0, 1) := by decide +kernel
theorem dX0_become_16 : decode cX0_become 16 = .ok (.dload_n 1, 1) := by decide +kernel
theorem dX0_become_17 : decode cX0_become 17 = .ok (.putfield 15, 3) := by decide +kernel
theorem dX0_become_20 : decode cX0_become 20 = .ok (.aload_n 0, 1) := by decide +kernel
theorem dX0_become_21 : decode cX0_become 21 = .ok (.dload_n 1, 1) := by decide +kernel
theorem dX0_become_22 : decode cX0_become 22 = .ok (.ldc2_w 19, 3) := by decide +kernel
theorem dX0_become_25 : decode cX0_become 25 = .ok (.dmul, 1) := by decide +kernel
theorem dX0_become_26 : decode cX0_become 26 = .ok (.d2l, 1) := by decide +kernel
theorem dX0_become_27 : decode cX0_become 27 = .ok (.putfield 21, 3) := by decide +kernel
theorem dX0_become_30 : decode cX0_become 30 = .ok (.aload_n 0, 1) := by decide +kernel
theorem dX0_become_31 : decode cX0_become 31 = .ok (.ldc2_w 25, 3) := by decide +kernel
theorem dX0_become_34 : decode cX0_become 34 = .ok (.putfield 27, 3) := by decide +kernel
theorem dX0_become_37 : decode cX0_become 37 = .ok (.aload_n 0, 1) := by decide +kernel
theorem dX0_become_38 : decode cX0_become 38 = .ok (.ldc2_w 30, 3) := by decide +kernel
theorem dX0_become_41 : decode cX0_become 41 = .ok (.putfield 32, 3) := by decide +kernel
theorem dX0_become_44 : decode cX0_become 44 = .ok (.aload_n 0, 1) := by decide +kernel
theorem dX0_become_45 : decode cX0_become 45 = .ok (.dconst 0, 1) := by decide +kernel
theorem dX0_become_46 : decode cX0_become 46 = .ok (.putfield 35, 3) := by decide +kernel
theorem dX0_become_49 : decode cX0_become 49 = .ok (.aload_n 0, 1) := by decide +kernel
theorem dX0_become_50 : decode cX0_become 50 = .ok (.getfield 38, 3) := by decide +kernel
theorem dX0_become_53 : decode cX0_become 53 = .ok (.ifnull 15, 3) := by decide +kernel
theorem dX0_become_56 : decode cX0_become 56 = .ok (.aload_n 0, 1) := by decide +kernel
theorem dX0_become_57 : decode cX0_become 57 = .ok (.getfield 38, 3) := by decide +kernel
theorem dX0_become_60 : decode cX0_become 60 = .ok (.invokevirtual 42, 3) := by decide +kernel
theorem dX0_become_63 : decode cX0_become 63 = .ok (.aload_n 0, 1) := by decide +kernel
theorem dX0_become_64 : decode cX0_become 64 = .ok (.aconst_null, 1) := by decide +kernel
theorem dX0_become_65 : decode cX0_become 65 = .ok (.putfield 38, 3) := by decide +kernel
theorem dX0_become_68 : decode cX0_become 68 = .ok (.return_, 1) := by decide +kernel
theorem dX0_surface_0 : decode cX0_surface 0 = .ok (.aload_n 0, 1) := by decide +kernel
theorem dX0_surface_1 : decode cX0_surface 1 = .ok (.getfield 21, 3) := by decide +kernel
theorem dX0_surface_4 : decode cX0_surface 4 = .ok (.l2d, 1) := by decide +kernel
theorem dX0_surface_5 : decode cX0_surface 5 = .ok (.ldc2_w 47, 3) := by decide +kernel
theorem dX0_surface_8 : decode cX0_surface 8 = .ok (.dmul, 1) := by decide +kernel
theorem dX0_surface_9 : decode cX0_surface 9 = .ok (.aload_n 0, 1) := by decide +kernel
theorem dX0_surface_10 : decode cX0_surface 10 = .ok (.getfield 15, 3) := by decide +kernel
theorem dX0_surface_13 : decode cX0_surface 13 = .ok (.dsub, 1) := by decide +kernel
theorem dX0_surface_14 : decode cX0_surface 14 = .ok (.dreturn, 1) := by decide +kernel
theorem dX0_isDry_0 : decode cX0_isDry 0 = .ok (.aload_n 0, 1) := by decide +kernel
theorem dX0_isDry_1 : decode cX0_isDry 1 = .ok (.getfield 21, 3) := by decide +kernel
theorem dX0_isDry_4 : decode cX0_isDry 4 = .ok (.ldc2_w 49, 3) := by decide +kernel
theorem dX0_isDry_7 : decode cX0_isDry 7 = .ok (.lcmp, 1) := by decide +kernel
theorem dX0_isDry_8 : decode cX0_isDry 8 = .ok (.ifCond .ge 7, 3) := by decide +kernel
theorem dX0_isDry_11 : decode cX0_isDry 11 = .ok (.iconst 1, 1) := by decide +kernel
theorem dX0_isDry_12 : decode cX0_isDry 12 = .ok (.goto 4, 3) := by decide +kernel
theorem dX0_isDry_15 : decode cX0_isDry 15 = .ok (.iconst 0, 1) := by decide +kernel
theorem dX0_isDry_16 : decode cX0_isDry 16 = .ok (.ireturn, 1) := by decide +kernel
theorem dX0_beginStep_0 : decode cX0_beginStep 0 = .ok (.aload_n 0, 1) := by decide +kernel
theorem dX0_beginStep_1 : decode cX0_beginStep 1 = .ok (.aload_n 0, 1) := by decide +kernel
theorem dX0_beginStep_2 : decode cX0_beginStep 2 = .ok (.getfield 21, 3) := by decide +kernel
theorem dX0_beginStep_5 : decode cX0_beginStep 5 = .ok (.putfield 51, 3) := by decide +kernel
theorem dX0_beginStep_8 : decode cX0_beginStep 8 = .ok (.aload_n 0, 1) := by decide +kernel
theorem dX0_beginStep_9 : decode cX0_beginStep 9 = .ok (.aload_n 0, 1) := by decide +kernel
theorem dX0_beginStep_10 : decode cX0_beginStep 10 = .ok (.invokevirtual 54, 3) := by decide +kernel
theorem dX0_beginStep_13 : decode cX0_beginStep 13 = .ok (.putfield 58, 3) := by decide +kernel
theorem dX0_beginStep_16 : decode cX0_beginStep 16 = .ok (.aload_n 0, 1) := by decide +kernel
theorem dX0_beginStep_17 : decode cX0_beginStep 17 = .ok (.aload_n 0, 1) := by decide +kernel
theorem dX0_beginStep_18 : decode cX0_beginStep 18 = .ok (.getfield 27, 3) := by decide +kernel
theorem dX0_beginStep_21 : decode cX0_beginStep 21 = .ok (.aload_n 0, 1) := by decide +kernel
theorem dX0_beginStep_22 : decode cX0_beginStep 22 = .ok (.getfield 21, 3) := by decide +kernel
theorem dX0_beginStep_25 : decode cX0_beginStep 25 = .ok (.l2d, 1) := by decide +kernel
theorem dX0_beginStep_26 : decode cX0_beginStep 26 = .ok (.dmul, 1) := by decide +kernel
theorem dX0_beginStep_27 : decode cX0_beginStep 27 = .ok (.putfield 61, 3) := by decide +kernel
theorem dX0_beginStep_30 : decode cX0_beginStep 30 = .ok (.aload_n 0, 1) := by decide +kernel
theorem dX0_beginStep_31 : decode cX0_beginStep 31 = .ok (.aload_n 0, 1) := by decide +kernel
theorem dX0_beginStep_32 : decode cX0_beginStep 32 = .ok (.getfield 32, 3) := by decide +kernel
theorem dX0_beginStep_35 : decode cX0_beginStep 35 = .ok (.aload_n 0, 1) := by decide +kernel
theorem dX0_beginStep_36 : decode cX0_beginStep 36 = .ok (.getfield 21, 3) := by decide +kernel
theorem dX0_beginStep_39 : decode cX0_beginStep 39 = .ok (.l2d, 1) := by decide +kernel
theorem dX0_beginStep_40 : decode cX0_beginStep 40 = .ok (.dmul, 1) := by decide +kernel
theorem dX0_beginStep_41 : decode cX0_beginStep 41 = .ok (.putfield 64, 3) := by decide +kernel
theorem dX0_beginStep_44 : decode cX0_beginStep 44 = .ok (.aload_n 0, 1) := by decide +kernel
theorem dX0_beginStep_45 : decode cX0_beginStep 45 = .ok (.dconst 0, 1) := by decide +kernel
theorem dX0_beginStep_46 : decode cX0_beginStep 46 = .ok (.putfield 67, 3) := by decide +kernel
theorem dX0_beginStep_49 : decode cX0_beginStep 49 = .ok (.return_, 1) := by decide +kernel
theorem dX0_feel_0 : decode cX0_feel 0 = .ok (.dload_n 1, 1) := by decide +kernel
theorem dX0_feel_1 : decode cX0_feel 1 = .ok (.invokestatic 70, 3) := by decide +kernel
theorem dX0_feel_4 : decode cX0_feel 4 = .ok (.dstore_n 3, 1) := by decide +kernel
theorem dX0_feel_5 : decode cX0_feel 5 = .ok (.dload_n 3, 1) := by decide +kernel
theorem dX0_feel_6 : decode cX0_feel 6 = .ok (.aload_n 0, 1) := by decide +kernel
theorem dX0_feel_7 : decode cX0_feel 7 = .ok (.getfield 67, 3) := by decide +kernel
theorem dX0_feel_10 : decode cX0_feel 10 = .ok (.dcmp .l, 1) := by decide +kernel
theorem dX0_feel_11 : decode cX0_feel 11 = .ok (.ifCond .le 8, 3) := by decide +kernel
theorem dX0_feel_14 : decode cX0_feel 14 = .ok (.aload_n 0, 1) := by decide +kernel
theorem dX0_feel_15 : decode cX0_feel 15 = .ok (.dload_n 3, 1) := by decide +kernel
theorem dX0_feel_16 : decode cX0_feel 16 = .ok (.putfield 67, 3) := by decide +kernel
theorem dX0_feel_19 : decode cX0_feel 19 = .ok (.return_, 1) := by decide +kernel
theorem dX0_gain_0 : decode cX0_gain 0 = .ok (.aload_n 0, 1) := by decide +kernel
theorem dX0_gain_1 : decode cX0_gain 1 = .ok (.aload_n 0, 1) := by decide +kernel
theorem dX0_gain_2 : decode cX0_gain 2 = .ok (.getfield 21, 3) := by decide +kernel
theorem dX0_gain_5 : decode cX0_gain 5 = .ok (.lload_n 1, 1) := by decide +kernel
theorem dX0_gain_6 : decode cX0_gain 6 = .ok (.ladd, 1) := by decide +kernel
theorem dX0_gain_7 : decode cX0_gain 7 = .ok (.putfield 21, 3) := by decide +kernel
theorem dX0_gain_10 : decode cX0_gain 10 = .ok (.aload_n 0, 1) := by decide +kernel
theorem dX0_gain_11 : decode cX0_gain 11 = .ok (.aload_n 0, 1) := by decide +kernel
theorem dX0_gain_12 : decode cX0_gain 12 = .ok (.getfield 61, 3) := by decide +kernel
theorem dX0_gain_15 : decode cX0_gain 15 = .ok (.lload_n 1, 1) := by decide +kernel
theorem dX0_gain_16 : decode cX0_gain 16 = .ok (.l2d, 1) := by decide +kernel
theorem dX0_gain_17 : decode cX0_gain 17 = .ok (.dload_n 3, 1) := by decide +kernel
theorem dX0_gain_18 : decode cX0_gain 18 = .ok (.dmul, 1) := by decide +kernel
theorem dX0_gain_19 : decode cX0_gain 19 = .ok (.dadd, 1) := by decide +kernel
theorem dX0_gain_20 : decode cX0_gain 20 = .ok (.putfield 61, 3) := by decide +kernel
theorem dX0_gain_23 : decode cX0_gain 23 = .ok (.aload_n 0, 1) := by decide +kernel
theorem dX0_gain_24 : decode cX0_gain 24 = .ok (.aload_n 0, 1) := by decide +kernel
theorem dX0_gain_25 : decode cX0_gain 25 = .ok (.getfield 64, 3) := by decide +kernel
theorem dX0_gain_28 : decode cX0_gain 28 = .ok (.lload_n 1, 1) := by decide +kernel
theorem dX0_gain_29 : decode cX0_gain 29 = .ok (.l2d, 1) := by decide +kernel
theorem dX0_gain_30 : decode cX0_gain 30 = .ok (.dload 5, 2) := by decide +kernel
theorem dX0_gain_32 : decode cX0_gain 32 = .ok (.dmul, 1) := by decide +kernel
theorem dX0_gain_33 : decode cX0_gain 33 = .ok (.dadd, 1) := by decide +kernel
theorem dX0_gain_34 : decode cX0_gain 34 = .ok (.putfield 64, 3) := by decide +kernel
theorem dX0_gain_37 : decode cX0_gain 37 = .ok (.return_, 1) := by decide +kernel
theorem dX0_lose_0 : decode cX0_lose 0 = .ok (.aload_n 0, 1) := by decide +kernel
theorem dX0_lose_1 : decode cX0_lose 1 = .ok (.aload_n 0, 1) := by decide +kernel
theorem dX0_lose_2 : decode cX0_lose 2 = .ok (.getfield 21, 3) := by decide +kernel
theorem dX0_lose_5 : decode cX0_lose 5 = .ok (.lload_n 1, 1) := by decide +kernel
theorem dX0_lose_6 : decode cX0_lose 6 = .ok (.lsub, 1) := by decide +kernel
theorem dX0_lose_7 : decode cX0_lose 7 = .ok (.putfield 21, 3) := by decide +kernel
theorem dX0_lose_10 : decode cX0_lose 10 = .ok (.aload_n 0, 1) := by decide +kernel
theorem dX0_lose_11 : decode cX0_lose 11 = .ok (.aload_n 0, 1) := by decide +kernel
theorem dX0_lose_12 : decode cX0_lose 12 = .ok (.getfield 61, 3) := by decide +kernel
theorem dX0_lose_15 : decode cX0_lose 15 = .ok (.lload_n 1, 1) := by decide +kernel
theorem dX0_lose_16 : decode cX0_lose 16 = .ok (.l2d, 1) := by decide +kernel
theorem dX0_lose_17 : decode cX0_lose 17 = .ok (.aload_n 0, 1) := by decide +kernel
theorem dX0_lose_18 : decode cX0_lose 18 = .ok (.getfield 27, 3) := by decide +kernel
theorem dX0_lose_21 : decode cX0_lose 21 = .ok (.dmul, 1) := by decide +kernel
theorem dX0_lose_22 : decode cX0_lose 22 = .ok (.dsub, 1) := by decide +kernel
theorem dX0_lose_23 : decode cX0_lose 23 = .ok (.putfield 61, 3) := by decide +kernel
theorem dX0_lose_26 : decode cX0_lose 26 = .ok (.aload_n 0, 1) := by decide +kernel
theorem dX0_lose_27 : decode cX0_lose 27 = .ok (.aload_n 0, 1) := by decide +kernel
theorem dX0_lose_28 : decode cX0_lose 28 = .ok (.getfield 64, 3) := by decide +kernel
theorem dX0_lose_31 : decode cX0_lose 31 = .ok (.lload_n 1, 1) := by decide +kernel
theorem dX0_lose_32 : decode cX0_lose 32 = .ok (.l2d, 1) := by decide +kernel
theorem dX0_lose_33 : decode cX0_lose 33 = .ok (.aload_n 0, 1) := by decide +kernel
theorem dX0_lose_34 : decode cX0_lose 34 = .ok (.getfield 32, 3) := by decide +kernel
theorem dX0_lose_37 : decode cX0_lose 37 = .ok (.dmul, 1) := by decide +kernel
theorem dX0_lose_38 : decode cX0_lose 38 = .ok (.dsub, 1) := by decide +kernel
theorem dX0_lose_39 : decode cX0_lose 39 = .ok (.putfield 64, 3) := by decide +kernel
theorem dX0_lose_42 : decode cX0_lose 42 = .ok (.return_, 1) := by decide +kernel
theorem dX0_takeRiver_0 : decode cX0_takeRiver 0 = .ok (.aload_n 0, 1) := by decide +kernel
theorem dX0_takeRiver_1 : decode cX0_takeRiver 1 = .ok (.getfield 9, 3) := by decide +kernel
theorem dX0_takeRiver_4 : decode cX0_takeRiver 4 = .ok (.ifCond .ne 5, 3) := by decide +kernel
theorem dX0_takeRiver_7 : decode cX0_takeRiver 7 = .ok (.lconst 0, 1) := by decide +kernel
theorem dX0_takeRiver_8 : decode cX0_takeRiver 8 = .ok (.lreturn, 1) := by decide +kernel
theorem dX0_takeRiver_9 : decode cX0_takeRiver 9 = .ok (.aload_n 0, 1) := by decide +kernel
theorem dX0_takeRiver_10 : decode cX0_takeRiver 10 = .ok (.getfield 74, 3) := by decide +kernel
theorem dX0_takeRiver_13 : decode cX0_takeRiver 13 = .ok (.dload_n 1, 1) := by decide +kernel
theorem dX0_takeRiver_14 : decode cX0_takeRiver 14 = .ok (.dmul, 1) := by decide +kernel
theorem dX0_takeRiver_15 : decode cX0_takeRiver 15 = .ok (.d2l, 1) := by decide +kernel
theorem dX0_takeRiver_16 : decode cX0_takeRiver 16 = .ok (.lstore_n 3, 1) := by decide +kernel
theorem dX0_takeRiver_17 : decode cX0_takeRiver 17 = .ok (.aload_n 0, 1) := by decide +kernel
theorem dX0_takeRiver_18 : decode cX0_takeRiver 18 = .ok (.lload_n 3, 1) := by decide +kernel
theorem dX0_takeRiver_19 : decode cX0_takeRiver 19 = .ok (.ldc2_w 77, 3) := by decide +kernel
theorem dX0_takeRiver_22 : decode cX0_takeRiver 22 = .ok (.dconst 0, 1) := by decide +kernel
theorem dX0_takeRiver_23 : decode cX0_takeRiver 23 = .ok (.invokevirtual 79, 3) := by decide +kernel
theorem dX0_takeRiver_26 : decode cX0_takeRiver 26 = .ok (.lload_n 3, 1) := by decide +kernel
theorem dX0_takeRiver_27 : decode cX0_takeRiver 27 = .ok (.lreturn, 1) := by decide +kernel
theorem dX0_endStep_0 : decode cX0_endStep 0 = .ok (.aload_n 0, 1) := by decide +kernel
theorem dX0_endStep_1 : decode cX0_endStep 1 = .ok (.getfield 21, 3) := by decide +kernel
theorem dX0_endStep_4 : decode cX0_endStep 4 = .ok (.lconst 0, 1) := by decide +kernel
theorem dX0_endStep_5 : decode cX0_endStep 5 = .ok (.lcmp, 1) := by decide +kernel
theorem dX0_endStep_6 : decode cX0_endStep 6 = .ok (.ifCond .le 31, 3) := by decide +kernel
theorem dX0_endStep_9 : decode cX0_endStep 9 = .ok (.aload_n 0, 1) := by decide +kernel
theorem dX0_endStep_10 : decode cX0_endStep 10 = .ok (.aload_n 0, 1) := by decide +kernel
theorem dX0_endStep_11 : decode cX0_endStep 11 = .ok (.getfield 61, 3) := by decide +kernel
theorem dX0_endStep_14 : decode cX0_endStep 14 = .ok (.aload_n 0, 1) := by decide +kernel
theorem dX0_endStep_15 : decode cX0_endStep 15 = .ok (.getfield 21, 3) := by decide +kernel
theorem dX0_endStep_18 : decode cX0_endStep 18 = .ok (.l2d, 1) := by decide +kernel
theorem dX0_endStep_19 : decode cX0_endStep 19 = .ok (.ddiv, 1) := by decide +kernel
theorem dX0_endStep_20 : decode cX0_endStep 20 = .ok (.putfield 27, 3) := by decide +kernel
theorem dX0_endStep_23 : decode cX0_endStep 23 = .ok (.aload_n 0, 1) := by decide +kernel
theorem dX0_endStep_24 : decode cX0_endStep 24 = .ok (.aload_n 0, 1) := by decide +kernel
theorem dX0_endStep_25 : decode cX0_endStep 25 = .ok (.getfield 64, 3) := by decide +kernel
theorem dX0_endStep_28 : decode cX0_endStep 28 = .ok (.aload_n 0, 1) := by decide +kernel
theorem dX0_endStep_29 : decode cX0_endStep 29 = .ok (.getfield 21, 3) := by decide +kernel
theorem dX0_endStep_32 : decode cX0_endStep 32 = .ok (.l2d, 1) := by decide +kernel
theorem dX0_endStep_33 : decode cX0_endStep 33 = .ok (.ddiv, 1) := by decide +kernel
theorem dX0_endStep_34 : decode cX0_endStep 34 = .ok (.putfield 32, 3) := by decide +kernel
theorem dX0_endStep_37 : decode cX0_endStep 37 = .ok (.aload_n 0, 1) := by decide +kernel
theorem dX0_endStep_38 : decode cX0_endStep 38 = .ok (.getfield 67, 3) := by decide +kernel
theorem dX0_endStep_41 : decode cX0_endStep 41 = .ok (.ldc2_w 83, 3) := by decide +kernel
theorem dX0_endStep_44 : decode cX0_endStep 44 = .ok (.dcmp .l, 1) := by decide +kernel
theorem dX0_endStep_45 : decode cX0_endStep 45 = .ok (.ifCond .le 26, 3) := by decide +kernel
theorem dX0_endStep_48 : decode cX0_endStep 48 = .ok (.aload_n 0, 1) := by decide +kernel
theorem dX0_endStep_49 : decode cX0_endStep 49 = .ok (.aload_n 0, 1) := by decide +kernel
theorem dX0_endStep_50 : decode cX0_endStep 50 = .ok (.getfield 35, 3) := by decide +kernel
theorem dX0_endStep_53 : decode cX0_endStep 53 = .ok (.ldc2_w 47, 3) := by decide +kernel
theorem dX0_endStep_56 : decode cX0_endStep 56 = .ok (.dload_n 1, 1) := by decide +kernel
theorem dX0_endStep_57 : decode cX0_endStep 57 = .ok (.dmul, 1) := by decide +kernel
theorem dX0_endStep_58 : decode cX0_endStep 58 = .ok (.aload_n 0, 1) := by decide +kernel
theorem dX0_endStep_59 : decode cX0_endStep 59 = .ok (.getfield 67, 3) := by decide +kernel
theorem dX0_endStep_62 : decode cX0_endStep 62 = .ok (.ldc2_w 83, 3) := by decide +kernel
theorem dX0_endStep_65 : decode cX0_endStep 65 = .ok (.dsub, 1) := by decide +kernel
theorem dX0_endStep_66 : decode cX0_endStep 66 = .ok (.dmul, 1) := by decide +kernel
theorem dX0_endStep_67 : decode cX0_endStep 67 = .ok (.dadd, 1) := by decide +kernel
theorem dX0_endStep_68 : decode cX0_endStep 68 = .ok (.putfield 35, 3) := by decide +kernel
theorem dX0_endStep_71 : decode cX0_endStep 71 = .ok (.aload_n 0, 1) := by decide +kernel
theorem dX0_endStep_72 : decode cX0_endStep 72 = .ok (.getfield 38, 3) := by decide +kernel
theorem dX0_endStep_75 : decode cX0_endStep 75 = .ok (.ifnull 19, 3) := by decide +kernel
theorem dX0_endStep_78 : decode cX0_endStep 78 = .ok (.aload_n 0, 1) := by decide +kernel
theorem dX0_endStep_79 : decode cX0_endStep 79 = .ok (.getfield 38, 3) := by decide +kernel
theorem dX0_endStep_82 : decode cX0_endStep 82 = .ok (.aload_n 0, 1) := by decide +kernel
theorem dX0_endStep_83 : decode cX0_endStep 83 = .ok (.getfield 21, 3) := by decide +kernel
theorem dX0_endStep_86 : decode cX0_endStep 86 = .ok (.aload_n 0, 1) := by decide +kernel
theorem dX0_endStep_87 : decode cX0_endStep 87 = .ok (.getfield 51, 3) := by decide +kernel
theorem dX0_endStep_90 : decode cX0_endStep 90 = .ok (.lsub, 1) := by decide +kernel
theorem dX0_endStep_91 : decode cX0_endStep 91 = .ok (.invokevirtual 85, 3) := by decide +kernel
theorem dX0_endStep_94 : decode cX0_endStep 94 = .ok (.return_, 1) := by decide +kernel

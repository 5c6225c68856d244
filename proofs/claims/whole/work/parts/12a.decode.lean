theorem dX2_init_0 : decode cX2_init 0 = .ok (.aload_n 0, 1) := by decide +kernel
theorem dX2_init_1 : decode cX2_init 1 = .ok (.invokespecial 3, 3) := by decide +kernel
theorem dX2_init_4 : decode cX2_init 4 = .ok (.aload_n 0, 1) := by decide +kernel
theorem dX2_init_5 : decode cX2_init 5 = .ok (.bipush 8, 2) := by decide +kernel
theorem dX2_init_7 : decode cX2_init 7 = .ok (.newarray .long, 2) := by decide +kernel
theorem dX2_init_9 : decode cX2_init 9 = .ok (.putfield 9, 3) := by decide +kernel
theorem dX2_init_12 : decode cX2_init 12 = .ok (.return_, 1) := by decide +kernel
theorem dX2_settleIn_0 : decode cX2_settleIn 0 = .ok (.aload_n 0, 1) := by decide +kernel
theorem dX2_settleIn_1 : decode cX2_settleIn 1 = .ok (.aload_n 1, 1) := by decide +kernel
theorem dX2_settleIn_2 : decode cX2_settleIn 2 = .ok (.putfield 15, 3) := by decide +kernel
theorem dX2_settleIn_5 : decode cX2_settleIn 5 = .ok (.aload_n 0, 1) := by decide +kernel
theorem dX2_settleIn_6 : decode cX2_settleIn 6 = .ok (.iload_n 2, 1) := by decide +kernel
theorem dX2_settleIn_7 : decode cX2_settleIn 7 = .ok (.putfield 19, 3) := by decide +kernel
theorem dX2_settleIn_10 : decode cX2_settleIn 10 = .ok (.aload_n 1, 1) := by decide +kernel
theorem dX2_settleIn_11 : decode cX2_settleIn 11 = .ok (.aload_n 0, 1) := by decide +kernel
theorem dX2_settleIn_12 : decode cX2_settleIn 12 = .ok (.putfield 23, 3) := by decide +kernel
theorem dX2_settleIn_15 : decode cX2_settleIn 15 = .ok (.aload_n 0, 1) := by decide +kernel
theorem dX2_settleIn_16 : decode cX2_settleIn 16 = .ok (.aload_n 1, 1) := by decide +kernel
theorem dX2_settleIn_17 : decode cX2_settleIn 17 = .ok (.getfield 29, 3) := by decide +kernel
theorem dX2_settleIn_20 : decode cX2_settleIn 20 = .ok (.invokevirtual 33, 3) := by decide +kernel
theorem dX2_settleIn_23 : decode cX2_settleIn 23 = .ok (.return_, 1) := by decide +kernel
theorem dX2_leave_0 : decode cX2_leave 0 = .ok (.aload_n 0, 1) := by decide +kernel
theorem dX2_leave_1 : decode cX2_leave 1 = .ok (.aconst_null, 1) := by decide +kernel
theorem dX2_leave_2 : decode cX2_leave 2 = .ok (.putfield 15, 3) := by decide +kernel
theorem dX2_leave_5 : decode cX2_leave 5 = .ok (.return_, 1) := by decide +kernel
theorem dX2_grow_0 : decode cX2_grow 0 = .ok (.aload_n 0, 1) := by decide +kernel
theorem dX2_grow_1 : decode cX2_grow 1 = .ok (.getfield 19, 3) := by decide +kernel
theorem dX2_grow_4 : decode cX2_grow 4 = .ok (.iconst 1, 1) := by decide +kernel
theorem dX2_grow_5 : decode cX2_grow 5 = .ok (.if_icmp .ge 4, 3) := by decide +kernel
theorem dX2_grow_8 : decode cX2_grow 8 = .ok (.return_, 1) := by decide +kernel
theorem dX2_grow_9 : decode cX2_grow 9 = .ok (.lload_n 1, 1) := by decide +kernel
theorem dX2_grow_10 : decode cX2_grow 10 = .ok (.aload_n 0, 1) := by decide +kernel
theorem dX2_grow_11 : decode cX2_grow 11 = .ok (.getfield 19, 3) := by decide +kernel
theorem dX2_grow_14 : decode cX2_grow 14 = .ok (.i2l, 1) := by decide +kernel
theorem dX2_grow_15 : decode cX2_grow 15 = .ok (.ldiv, 1) := by decide +kernel
theorem dX2_grow_16 : decode cX2_grow 16 = .ok (.lstore_n 3, 1) := by decide +kernel
theorem dX2_grow_17 : decode cX2_grow 17 = .ok (.lload_n 1, 1) := by decide +kernel
theorem dX2_grow_18 : decode cX2_grow 18 = .ok (.aload_n 0, 1) := by decide +kernel
theorem dX2_grow_19 : decode cX2_grow 19 = .ok (.getfield 19, 3) := by decide +kernel
theorem dX2_grow_22 : decode cX2_grow 22 = .ok (.i2l, 1) := by decide +kernel
theorem dX2_grow_23 : decode cX2_grow 23 = .ok (.lrem, 1) := by decide +kernel
theorem dX2_grow_24 : decode cX2_grow 24 = .ok (.lstore 5, 2) := by decide +kernel
theorem dX2_grow_26 : decode cX2_grow 26 = .ok (.lload 5, 2) := by decide +kernel
theorem dX2_grow_28 : decode cX2_grow 28 = .ok (.lconst 0, 1) := by decide +kernel
theorem dX2_grow_29 : decode cX2_grow 29 = .ok (.lcmp, 1) := by decide +kernel
theorem dX2_grow_30 : decode cX2_grow 30 = .ok (.ifCond .ge 9, 3) := by decide +kernel
theorem dX2_grow_33 : decode cX2_grow 33 = .ok (.ldc2_w 37, 3) := by decide +kernel
theorem dX2_grow_36 : decode cX2_grow 36 = .ok (.goto 4, 3) := by decide +kernel
theorem dX2_grow_39 : decode cX2_grow 39 = .ok (.lconst 1, 1) := by decide +kernel
theorem dX2_grow_40 : decode cX2_grow 40 = .ok (.lstore 7, 2) := by decide +kernel
theorem dX2_grow_42 : decode cX2_grow 42 = .ok (.iconst 0, 1) := by decide +kernel
theorem dX2_grow_43 : decode cX2_grow 43 = .ok (.istore 9, 2) := by decide +kernel
theorem dX2_grow_45 : decode cX2_grow 45 = .ok (.iload 9, 2) := by decide +kernel
theorem dX2_grow_47 : decode cX2_grow 47 = .ok (.aload_n 0, 1) := by decide +kernel
theorem dX2_grow_48 : decode cX2_grow 48 = .ok (.getfield 19, 3) := by decide +kernel
theorem dX2_grow_51 : decode cX2_grow 51 = .ok (.if_icmp .ge 54, 3) := by decide +kernel
theorem dX2_grow_54 : decode cX2_grow 54 = .ok (.iload 9, 2) := by decide +kernel
theorem dX2_grow_56 : decode cX2_grow 56 = .ok (.aload_n 0, 1) := by decide +kernel
theorem dX2_grow_57 : decode cX2_grow 57 = .ok (.getfield 9, 3) := by decide +kernel
theorem dX2_grow_60 : decode cX2_grow 60 = .ok (.arraylength, 1) := by decide +kernel
theorem dX2_grow_61 : decode cX2_grow 61 = .ok (.if_icmp .ge 44, 3) := by decide +kernel
theorem dX2_grow_64 : decode cX2_grow 64 = .ok (.aload_n 0, 1) := by decide +kernel
theorem dX2_grow_65 : decode cX2_grow 65 = .ok (.getfield 9, 3) := by decide +kernel
theorem dX2_grow_68 : decode cX2_grow 68 = .ok (.iload 9, 2) := by decide +kernel
theorem dX2_grow_70 : decode cX2_grow 70 = .ok (.aload_n 0, 1) := by decide +kernel
theorem dX2_grow_71 : decode cX2_grow 71 = .ok (.getfield 9, 3) := by decide +kernel
theorem dX2_grow_74 : decode cX2_grow 74 = .ok (.iload 9, 2) := by decide +kernel
theorem dX2_grow_76 : decode cX2_grow 76 = .ok (.laload, 1) := by decide +kernel
theorem dX2_grow_77 : decode cX2_grow 77 = .ok (.lload_n 3, 1) := by decide +kernel
theorem dX2_grow_78 : decode cX2_grow 78 = .ok (.ladd, 1) := by decide +kernel
theorem dX2_grow_79 : decode cX2_grow 79 = .ok (.iload 9, 2) := by decide +kernel
theorem dX2_grow_81 : decode cX2_grow 81 = .ok (.i2l, 1) := by decide +kernel
theorem dX2_grow_82 : decode cX2_grow 82 = .ok (.lload 5, 2) := by decide +kernel
theorem dX2_grow_84 : decode cX2_grow 84 = .ok (.lload 7, 2) := by decide +kernel
theorem dX2_grow_86 : decode cX2_grow 86 = .ok (.lmul, 1) := by decide +kernel
theorem dX2_grow_87 : decode cX2_grow 87 = .ok (.lcmp, 1) := by decide +kernel
theorem dX2_grow_88 : decode cX2_grow 88 = .ok (.ifCond .ge 8, 3) := by decide +kernel
theorem dX2_grow_91 : decode cX2_grow 91 = .ok (.lload 7, 2) := by decide +kernel
theorem dX2_grow_93 : decode cX2_grow 93 = .ok (.goto 4, 3) := by decide +kernel
theorem dX2_grow_96 : decode cX2_grow 96 = .ok (.lconst 0, 1) := by decide +kernel
theorem dX2_grow_97 : decode cX2_grow 97 = .ok (.ladd, 1) := by decide +kernel
theorem dX2_grow_98 : decode cX2_grow 98 = .ok (.lastore, 1) := by decide +kernel
theorem dX2_grow_99 : decode cX2_grow 99 = .ok (.iinc 9 1, 3) := by decide +kernel
theorem dX2_grow_102 : decode cX2_grow 102 = .ok (.goto (-57), 3) := by decide +kernel
theorem dX2_grow_105 : decode cX2_grow 105 = .ok (.return_, 1) := by decide +kernel
theorem dX2_agrees_0 : decode cX2_agrees 0 = .ok (.aload_n 0, 1) := by decide +kernel
theorem dX2_agrees_1 : decode cX2_agrees 1 = .ok (.getfield 15, 3) := by decide +kernel
theorem dX2_agrees_4 : decode cX2_agrees 4 = .ok (.ifnonnull 5, 3) := by decide +kernel
theorem dX2_agrees_7 : decode cX2_agrees 7 = .ok (.iconst 0, 1) := by decide +kernel
theorem dX2_agrees_8 : decode cX2_agrees 8 = .ok (.ireturn, 1) := by decide +kernel
theorem dX2_agrees_9 : decode cX2_agrees 9 = .ok (.lconst 0, 1) := by decide +kernel
theorem dX2_agrees_10 : decode cX2_agrees 10 = .ok (.lstore_n 1, 1) := by decide +kernel
theorem dX2_agrees_11 : decode cX2_agrees 11 = .ok (.iconst 0, 1) := by decide +kernel
theorem dX2_agrees_12 : decode cX2_agrees 12 = .ok (.istore_n 3, 1) := by decide +kernel
theorem dX2_agrees_13 : decode cX2_agrees 13 = .ok (.iload_n 3, 1) := by decide +kernel
theorem dX2_agrees_14 : decode cX2_agrees 14 = .ok (.aload_n 0, 1) := by decide +kernel
theorem dX2_agrees_15 : decode cX2_agrees 15 = .ok (.getfield 19, 3) := by decide +kernel
theorem dX2_agrees_18 : decode cX2_agrees 18 = .ok (.if_icmp .ge 27, 3) := by decide +kernel
theorem dX2_agrees_21 : decode cX2_agrees 21 = .ok (.iload_n 3, 1) := by decide +kernel
theorem dX2_agrees_22 : decode cX2_agrees 22 = .ok (.aload_n 0, 1) := by decide +kernel
theorem dX2_agrees_23 : decode cX2_agrees 23 = .ok (.getfield 9, 3) := by decide +kernel
theorem dX2_agrees_26 : decode cX2_agrees 26 = .ok (.arraylength, 1) := by decide +kernel
theorem dX2_agrees_27 : decode cX2_agrees 27 = .ok (.if_icmp .ge 18, 3) := by decide +kernel
theorem dX2_agrees_30 : decode cX2_agrees 30 = .ok (.lload_n 1, 1) := by decide +kernel
theorem dX2_agrees_31 : decode cX2_agrees 31 = .ok (.aload_n 0, 1) := by decide +kernel
theorem dX2_agrees_32 : decode cX2_agrees 32 = .ok (.getfield 9, 3) := by decide +kernel
theorem dX2_agrees_35 : decode cX2_agrees 35 = .ok (.iload_n 3, 1) := by decide +kernel
theorem dX2_agrees_36 : decode cX2_agrees 36 = .ok (.laload, 1) := by decide +kernel
theorem dX2_agrees_37 : decode cX2_agrees 37 = .ok (.ladd, 1) := by decide +kernel
theorem dX2_agrees_38 : decode cX2_agrees 38 = .ok (.lstore_n 1, 1) := by decide +kernel
theorem dX2_agrees_39 : decode cX2_agrees 39 = .ok (.iinc 3 1, 3) := by decide +kernel
theorem dX2_agrees_42 : decode cX2_agrees 42 = .ok (.goto (-29), 3) := by decide +kernel
theorem dX2_agrees_45 : decode cX2_agrees 45 = .ok (.lload_n 1, 1) := by decide +kernel
theorem dX2_agrees_46 : decode cX2_agrees 46 = .ok (.aload_n 0, 1) := by decide +kernel
theorem dX2_agrees_47 : decode cX2_agrees 47 = .ok (.getfield 15, 3) := by decide +kernel
theorem dX2_agrees_50 : decode cX2_agrees 50 = .ok (.getfield 29, 3) := by decide +kernel
theorem dX2_agrees_53 : decode cX2_agrees 53 = .ok (.lcmp, 1) := by decide +kernel
theorem dX2_agrees_54 : decode cX2_agrees 54 = .ok (.ifCond .ne 7, 3) := by decide +kernel
theorem dX2_agrees_57 : decode cX2_agrees 57 = .ok (.iconst 1, 1) := by decide +kernel
theorem dX2_agrees_58 : decode cX2_agrees 58 = .ok (.goto 4, 3) := by decide +kernel
theorem dX2_agrees_61 : decode cX2_agrees 61 = .ok (.iconst 0, 1) := by decide +kernel
theorem dX2_agrees_62 : decode cX2_agrees 62 = .ok (.ireturn, 1) := by decide +kernel

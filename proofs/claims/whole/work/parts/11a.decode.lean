theorem dX1_init_0 : decode cX1_init 0 = .ok (.aload_n 0, 1) := by decide +kernel
theorem dX1_init_1 : decode cX1_init 1 = .ok (.invokespecial 1, 3) := by decide +kernel
theorem dX1_init_4 : decode cX1_init 4 = .ok (.aload_n 0, 1) := by decide +kernel
theorem dX1_init_5 : decode cX1_init 5 = .ok (.iload_n 2, 1) := by decide +kernel
theorem dX1_init_6 : decode cX1_init 6 = .ok (.ifCond .lt 15, 3) := by decide +kernel
theorem dX1_init_9 : decode cX1_init 9 = .ok (.iload_n 2, 1) := by decide +kernel
theorem dX1_init_10 : decode cX1_init 10 = .ok (.aload_n 1, 1) := by decide +kernel
theorem dX1_init_11 : decode cX1_init 11 = .ok (.arraylength, 1) := by decide +kernel
theorem dX1_init_12 : decode cX1_init 12 = .ok (.if_icmp .ge 9, 3) := by decide +kernel
theorem dX1_init_15 : decode cX1_init 15 = .ok (.aload_n 1, 1) := by decide +kernel
theorem dX1_init_16 : decode cX1_init 16 = .ok (.iload_n 2, 1) := by decide +kernel
theorem dX1_init_17 : decode cX1_init 17 = .ok (.aaload, 1) := by decide +kernel
theorem dX1_init_18 : decode cX1_init 18 = .ok (.goto 4, 3) := by decide +kernel
theorem dX1_init_21 : decode cX1_init 21 = .ok (.aconst_null, 1) := by decide +kernel
theorem dX1_init_22 : decode cX1_init 22 = .ok (.putfield 7, 3) := by decide +kernel
theorem dX1_init_25 : decode cX1_init 25 = .ok (.aload_n 0, 1) := by decide +kernel
theorem dX1_init_26 : decode cX1_init 26 = .ok (.iload_n 3, 1) := by decide +kernel
theorem dX1_init_27 : decode cX1_init 27 = .ok (.ifCond .lt 15, 3) := by decide +kernel
theorem dX1_init_30 : decode cX1_init 30 = .ok (.iload_n 3, 1) := by decide +kernel
theorem dX1_init_31 : decode cX1_init 31 = .ok (.aload_n 1, 1) := by decide +kernel
theorem dX1_init_32 : decode cX1_init 32 = .ok (.arraylength, 1) := by decide +kernel
theorem dX1_init_33 : decode cX1_init 33 = .ok (.if_icmp .ge 9, 3) := by decide +kernel
theorem dX1_init_36 : decode cX1_init 36 = .ok (.aload_n 1, 1) := by decide +kernel
theorem dX1_init_37 : decode cX1_init 37 = .ok (.iload_n 3, 1) := by decide +kernel
theorem dX1_init_38 : decode cX1_init 38 = .ok (.aaload, 1) := by decide +kernel
theorem dX1_init_39 : decode cX1_init 39 = .ok (.goto 4, 3) := by decide +kernel
theorem dX1_init_42 : decode cX1_init 42 = .ok (.aconst_null, 1) := by decide +kernel
theorem dX1_init_43 : decode cX1_init 43 = .ok (.putfield 13, 3) := by decide +kernel
theorem dX1_init_46 : decode cX1_init 46 = .ok (.aload_n 0, 1) := by decide +kernel
theorem dX1_init_47 : decode cX1_init 47 = .ok (.aload 4, 2) := by decide +kernel
theorem dX1_init_49 : decode cX1_init 49 = .ok (.putfield 16, 3) := by decide +kernel
theorem dX1_init_52 : decode cX1_init 52 = .ok (.aload_n 0, 1) := by decide +kernel
theorem dX1_init_53 : decode cX1_init 53 = .ok (.iload 5, 2) := by decide +kernel
theorem dX1_init_55 : decode cX1_init 55 = .ok (.putfield 20, 3) := by decide +kernel
theorem dX1_init_58 : decode cX1_init 58 = .ok (.return_, 1) := by decide +kernel
theorem dX1_exists_0 : decode cX1_exists 0 = .ok (.aload_n 0, 1) := by decide +kernel
theorem dX1_exists_1 : decode cX1_exists 1 = .ok (.getfield 7, 3) := by decide +kernel
theorem dX1_exists_4 : decode cX1_exists 4 = .ok (.ifnull 10, 3) := by decide +kernel
theorem dX1_exists_7 : decode cX1_exists 7 = .ok (.aload_n 0, 1) := by decide +kernel
theorem dX1_exists_8 : decode cX1_exists 8 = .ok (.getfield 13, 3) := by decide +kernel
theorem dX1_exists_11 : decode cX1_exists 11 = .ok (.ifnonnull 46, 3) := by decide +kernel
theorem dX1_exists_14 : decode cX1_exists 14 = .ok (.aload_n 0, 1) := by decide +kernel
theorem dX1_exists_15 : decode cX1_exists 15 = .ok (.getfield 16, 3) := by decide +kernel
theorem dX1_exists_18 : decode cX1_exists 18 = .ok (.ifnull 37, 3) := by decide +kernel
theorem dX1_exists_21 : decode cX1_exists 21 = .ok (.aload_n 0, 1) := by decide +kernel
theorem dX1_exists_22 : decode cX1_exists 22 = .ok (.getfield 16, 3) := by decide +kernel
theorem dX1_exists_25 : decode cX1_exists 25 = .ok (.getfield 24, 3) := by decide +kernel
theorem dX1_exists_28 : decode cX1_exists 28 = .ok (.ifCond .eq 27, 3) := by decide +kernel
theorem dX1_exists_31 : decode cX1_exists 31 = .ok (.aload_n 0, 1) := by decide +kernel
theorem dX1_exists_32 : decode cX1_exists 32 = .ok (.getfield 7, 3) := by decide +kernel
theorem dX1_exists_35 : decode cX1_exists 35 = .ok (.invokestatic 30, 3) := by decide +kernel
theorem dX1_exists_38 : decode cX1_exists 38 = .ok (.ifCond .ne 13, 3) := by decide +kernel
theorem dX1_exists_41 : decode cX1_exists 41 = .ok (.aload_n 0, 1) := by decide +kernel
theorem dX1_exists_42 : decode cX1_exists 42 = .ok (.getfield 13, 3) := by decide +kernel
theorem dX1_exists_45 : decode cX1_exists 45 = .ok (.invokestatic 30, 3) := by decide +kernel
theorem dX1_exists_48 : decode cX1_exists 48 = .ok (.ifCond .eq 7, 3) := by decide +kernel
theorem dX1_exists_51 : decode cX1_exists 51 = .ok (.iconst 1, 1) := by decide +kernel
theorem dX1_exists_52 : decode cX1_exists 52 = .ok (.goto 4, 3) := by decide +kernel
theorem dX1_exists_55 : decode cX1_exists 55 = .ok (.iconst 0, 1) := by decide +kernel
theorem dX1_exists_56 : decode cX1_exists 56 = .ok (.ireturn, 1) := by decide +kernel
theorem dX1_exists_57 : decode cX1_exists 57 = .ok (.aload_n 0, 1) := by decide +kernel
theorem dX1_exists_58 : decode cX1_exists 58 = .ok (.getfield 7, 3) := by decide +kernel
theorem dX1_exists_61 : decode cX1_exists 61 = .ok (.getfield 34, 3) := by decide +kernel
theorem dX1_exists_64 : decode cX1_exists 64 = .ok (.ifCond .eq 17, 3) := by decide +kernel
theorem dX1_exists_67 : decode cX1_exists 67 = .ok (.aload_n 0, 1) := by decide +kernel
theorem dX1_exists_68 : decode cX1_exists 68 = .ok (.getfield 13, 3) := by decide +kernel
theorem dX1_exists_71 : decode cX1_exists 71 = .ok (.getfield 34, 3) := by decide +kernel
theorem dX1_exists_74 : decode cX1_exists 74 = .ok (.ifCond .eq 7, 3) := by decide +kernel
theorem dX1_exists_77 : decode cX1_exists 77 = .ok (.iconst 1, 1) := by decide +kernel
theorem dX1_exists_78 : decode cX1_exists 78 = .ok (.goto 4, 3) := by decide +kernel
theorem dX1_exists_81 : decode cX1_exists 81 = .ok (.iconst 0, 1) := by decide +kernel
theorem dX1_exists_82 : decode cX1_exists 82 = .ok (.ireturn, 1) := by decide +kernel
theorem dX1_restAt_0 : decode cX1_restAt 0 = .ok (.aload_n 0, 1) := by decide +kernel
theorem dX1_restAt_1 : decode cX1_restAt 1 = .ok (.getfield 7, 3) := by decide +kernel
theorem dX1_restAt_4 : decode cX1_restAt 4 = .ok (.aload_n 1, 1) := by decide +kernel
theorem dX1_restAt_5 : decode cX1_restAt 5 = .ok (.if_acmp .eq 11, 3) := by decide +kernel
theorem dX1_restAt_8 : decode cX1_restAt 8 = .ok (.aload_n 0, 1) := by decide +kernel
theorem dX1_restAt_9 : decode cX1_restAt 9 = .ok (.getfield 13, 3) := by decide +kernel
theorem dX1_restAt_12 : decode cX1_restAt 12 = .ok (.aload_n 1, 1) := by decide +kernel
theorem dX1_restAt_13 : decode cX1_restAt 13 = .ok (.if_acmp .ne 8, 3) := by decide +kernel
theorem dX1_restAt_16 : decode cX1_restAt 16 = .ok (.aload_n 0, 1) := by decide +kernel
theorem dX1_restAt_17 : decode cX1_restAt 17 = .ok (.dconst 0, 1) := by decide +kernel
theorem dX1_restAt_18 : decode cX1_restAt 18 = .ok (.putfield 39, 3) := by decide +kernel
theorem dX1_restAt_21 : decode cX1_restAt 21 = .ok (.return_, 1) := by decide +kernel
theorem dX1_settle_0 : decode cX1_settle 0 = .ok (.aload_n 0, 1) := by decide +kernel
theorem dX1_settle_1 : decode cX1_settle 1 = .ok (.lconst 0, 1) := by decide +kernel
theorem dX1_settle_2 : decode cX1_settle 2 = .ok (.putfield 43, 3) := by decide +kernel
theorem dX1_settle_5 : decode cX1_settle 5 = .ok (.aload_n 0, 1) := by decide +kernel
theorem dX1_settle_6 : decode cX1_settle 6 = .ok (.invokevirtual 47, 3) := by decide +kernel
theorem dX1_settle_9 : decode cX1_settle 9 = .ok (.ifCond .ne 4, 3) := by decide +kernel
theorem dX1_settle_12 : decode cX1_settle 12 = .ok (.return_, 1) := by decide +kernel
theorem dX1_settle_13 : decode cX1_settle 13 = .ok (.aload_n 0, 1) := by decide +kernel
theorem dX1_settle_14 : decode cX1_settle 14 = .ok (.aload_n 0, 1) := by decide +kernel
theorem dX1_settle_15 : decode cX1_settle 15 = .ok (.getfield 7, 3) := by decide +kernel
theorem dX1_settle_18 : decode cX1_settle 18 = .ok (.invokevirtual 51, 3) := by decide +kernel
theorem dX1_settle_21 : decode cX1_settle 21 = .ok (.aload_n 0, 1) := by decide +kernel
theorem dX1_settle_22 : decode cX1_settle 22 = .ok (.aload_n 0, 1) := by decide +kernel
theorem dX1_settle_23 : decode cX1_settle 23 = .ok (.getfield 13, 3) := by decide +kernel
theorem dX1_settle_26 : decode cX1_settle 26 = .ok (.invokevirtual 51, 3) := by decide +kernel
theorem dX1_settle_29 : decode cX1_settle 29 = .ok (.dsub, 1) := by decide +kernel
theorem dX1_settle_30 : decode cX1_settle 30 = .ok (.dstore 5, 2) := by decide +kernel
theorem dX1_settle_32 : decode cX1_settle 32 = .ok (.aload_n 0, 1) := by decide +kernel
theorem dX1_settle_33 : decode cX1_settle 33 = .ok (.aload_n 0, 1) := by decide +kernel
theorem dX1_settle_34 : decode cX1_settle 34 = .ok (.getfield 39, 3) := by decide +kernel
theorem dX1_settle_37 : decode cX1_settle 37 = .ok (.dload_n 1, 1) := by decide +kernel
theorem dX1_settle_38 : decode cX1_settle 38 = .ok (.ldc2_w 55, 3) := by decide +kernel
theorem dX1_settle_41 : decode cX1_settle 41 = .ok (.dload 5, 2) := by decide +kernel
theorem dX1_settle_43 : decode cX1_settle 43 = .ok (.dmul, 1) := by decide +kernel
theorem dX1_settle_44 : decode cX1_settle 44 = .ok (.ldc2_w 57, 3) := by decide +kernel
theorem dX1_settle_47 : decode cX1_settle 47 = .ok (.dload_n 3, 1) := by decide +kernel
theorem dX1_settle_48 : decode cX1_settle 48 = .ok (.dmul, 1) := by decide +kernel
theorem dX1_settle_49 : decode cX1_settle 49 = .ok (.dadd, 1) := by decide +kernel
theorem dX1_settle_50 : decode cX1_settle 50 = .ok (.dmul, 1) := by decide +kernel
theorem dX1_settle_51 : decode cX1_settle 51 = .ok (.dadd, 1) := by decide +kernel
theorem dX1_settle_52 : decode cX1_settle 52 = .ok (.dconst 1, 1) := by decide +kernel
theorem dX1_settle_53 : decode cX1_settle 53 = .ok (.ldc2_w 59, 3) := by decide +kernel
theorem dX1_settle_56 : decode cX1_settle 56 = .ok (.dload_n 1, 1) := by decide +kernel
theorem dX1_settle_57 : decode cX1_settle 57 = .ok (.dmul, 1) := by decide +kernel
theorem dX1_settle_58 : decode cX1_settle 58 = .ok (.aload_n 0, 1) := by decide +kernel
theorem dX1_settle_59 : decode cX1_settle 59 = .ok (.getfield 39, 3) := by decide +kernel
theorem dX1_settle_62 : decode cX1_settle 62 = .ok (.invokestatic 61, 3) := by decide +kernel
theorem dX1_settle_65 : decode cX1_settle 65 = .ok (.dmul, 1) := by decide +kernel
theorem dX1_settle_66 : decode cX1_settle 66 = .ok (.dadd, 1) := by decide +kernel
theorem dX1_settle_67 : decode cX1_settle 67 = .ok (.ddiv, 1) := by decide +kernel
theorem dX1_settle_68 : decode cX1_settle 68 = .ok (.putfield 39, 3) := by decide +kernel
theorem dX1_settle_71 : decode cX1_settle 71 = .ok (.aload_n 0, 1) := by decide +kernel
theorem dX1_settle_72 : decode cX1_settle 72 = .ok (.aload_n 0, 1) := by decide +kernel
theorem dX1_settle_73 : decode cX1_settle 73 = .ok (.aload_n 0, 1) := by decide +kernel
theorem dX1_settle_74 : decode cX1_settle 74 = .ok (.getfield 39, 3) := by decide +kernel
theorem dX1_settle_77 : decode cX1_settle 77 = .ok (.dload_n 1, 1) := by decide +kernel
theorem dX1_settle_78 : decode cX1_settle 78 = .ok (.dmul, 1) := by decide +kernel
theorem dX1_settle_79 : decode cX1_settle 79 = .ok (.aload_n 0, 1) := by decide +kernel
theorem dX1_settle_80 : decode cX1_settle 80 = .ok (.invokevirtual 67, 3) := by decide +kernel
theorem dX1_settle_83 : decode cX1_settle 83 = .ok (.l2d, 1) := by decide +kernel
theorem dX1_settle_84 : decode cX1_settle 84 = .ok (.ldc2_w 71, 3) := by decide +kernel
theorem dX1_settle_87 : decode cX1_settle 87 = .ok (.dmul, 1) := by decide +kernel
theorem dX1_settle_88 : decode cX1_settle 88 = .ok (.dmul, 1) := by decide +kernel
theorem dX1_settle_89 : decode cX1_settle 89 = .ok (.d2l, 1) := by decide +kernel
theorem dX1_settle_90 : decode cX1_settle 90 = .ok (.invokevirtual 73, 3) := by decide +kernel
theorem dX1_settle_93 : decode cX1_settle 93 = .ok (.putfield 43, 3) := by decide +kernel
theorem dX1_settle_96 : decode cX1_settle 96 = .ok (.aload_n 0, 1) := by decide +kernel
theorem dX1_settle_97 : decode cX1_settle 97 = .ok (.getfield 7, 3) := by decide +kernel
theorem dX1_settle_100 : decode cX1_settle 100 = .ok (.ifnull 14, 3) := by decide +kernel
theorem dX1_settle_103 : decode cX1_settle 103 = .ok (.aload_n 0, 1) := by decide +kernel
theorem dX1_settle_104 : decode cX1_settle 104 = .ok (.getfield 7, 3) := by decide +kernel
theorem dX1_settle_107 : decode cX1_settle 107 = .ok (.aload_n 0, 1) := by decide +kernel
theorem dX1_settle_108 : decode cX1_settle 108 = .ok (.getfield 39, 3) := by decide +kernel
theorem dX1_settle_111 : decode cX1_settle 111 = .ok (.invokevirtual 77, 3) := by decide +kernel
theorem dX1_settle_114 : decode cX1_settle 114 = .ok (.aload_n 0, 1) := by decide +kernel
theorem dX1_settle_115 : decode cX1_settle 115 = .ok (.getfield 13, 3) := by decide +kernel
theorem dX1_settle_118 : decode cX1_settle 118 = .ok (.ifnull 14, 3) := by decide +kernel
theorem dX1_settle_121 : decode cX1_settle 121 = .ok (.aload_n 0, 1) := by decide +kernel
theorem dX1_settle_122 : decode cX1_settle 122 = .ok (.getfield 13, 3) := by decide +kernel
theorem dX1_settle_125 : decode cX1_settle 125 = .ok (.aload_n 0, 1) := by decide +kernel
theorem dX1_settle_126 : decode cX1_settle 126 = .ok (.getfield 39, 3) := by decide +kernel
theorem dX1_settle_129 : decode cX1_settle 129 = .ok (.invokevirtual 77, 3) := by decide +kernel
theorem dX1_settle_132 : decode cX1_settle 132 = .ok (.return_, 1) := by decide +kernel
theorem dX1_carry_0 : decode cX1_carry 0 = .ok (.aload_n 0, 1) := by decide +kernel
theorem dX1_carry_1 : decode cX1_carry 1 = .ok (.getfield 43, 3) := by decide +kernel
theorem dX1_carry_4 : decode cX1_carry 4 = .ok (.lconst 0, 1) := by decide +kernel
theorem dX1_carry_5 : decode cX1_carry 5 = .ok (.lcmp, 1) := by decide +kernel
theorem dX1_carry_6 : decode cX1_carry 6 = .ok (.ifCond .ne 4, 3) := by decide +kernel
theorem dX1_carry_9 : decode cX1_carry 9 = .ok (.return_, 1) := by decide +kernel
theorem dX1_carry_10 : decode cX1_carry 10 = .ok (.aload_n 0, 1) := by decide +kernel
theorem dX1_carry_11 : decode cX1_carry 11 = .ok (.getfield 43, 3) := by decide +kernel
theorem dX1_carry_14 : decode cX1_carry 14 = .ok (.lconst 0, 1) := by decide +kernel
theorem dX1_carry_15 : decode cX1_carry 15 = .ok (.lcmp, 1) := by decide +kernel
theorem dX1_carry_16 : decode cX1_carry 16 = .ok (.ifCond .ge 10, 3) := by decide +kernel
theorem dX1_carry_19 : decode cX1_carry 19 = .ok (.aload_n 0, 1) := by decide +kernel
theorem dX1_carry_20 : decode cX1_carry 20 = .ok (.getfield 13, 3) := by decide +kernel
theorem dX1_carry_23 : decode cX1_carry 23 = .ok (.goto 7, 3) := by decide +kernel
theorem dX1_carry_26 : decode cX1_carry 26 = .ok (.aload_n 0, 1) := by decide +kernel
theorem dX1_carry_27 : decode cX1_carry 27 = .ok (.getfield 7, 3) := by decide +kernel
theorem dX1_carry_30 : decode cX1_carry 30 = .ok (.astore_n 1, 1) := by decide +kernel
theorem dX1_carry_31 : decode cX1_carry 31 = .ok (.aload_n 0, 1) := by decide +kernel
theorem dX1_carry_32 : decode cX1_carry 32 = .ok (.getfield 43, 3) := by decide +kernel
theorem dX1_carry_35 : decode cX1_carry 35 = .ok (.lconst 0, 1) := by decide +kernel
theorem dX1_carry_36 : decode cX1_carry 36 = .ok (.lcmp, 1) := by decide +kernel
theorem dX1_carry_37 : decode cX1_carry 37 = .ok (.ifCond .ge 10, 3) := by decide +kernel
theorem dX1_carry_40 : decode cX1_carry 40 = .ok (.aload_n 0, 1) := by decide +kernel
theorem dX1_carry_41 : decode cX1_carry 41 = .ok (.getfield 7, 3) := by decide +kernel
theorem dX1_carry_44 : decode cX1_carry 44 = .ok (.goto 7, 3) := by decide +kernel
theorem dX1_carry_47 : decode cX1_carry 47 = .ok (.aload_n 0, 1) := by decide +kernel
theorem dX1_carry_48 : decode cX1_carry 48 = .ok (.getfield 13, 3) := by decide +kernel
theorem dX1_carry_51 : decode cX1_carry 51 = .ok (.astore_n 2, 1) := by decide +kernel
theorem dX1_carry_52 : decode cX1_carry 52 = .ok (.aload_n 0, 1) := by decide +kernel
theorem dX1_carry_53 : decode cX1_carry 53 = .ok (.getfield 43, 3) := by decide +kernel
theorem dX1_carry_56 : decode cX1_carry 56 = .ok (.lconst 0, 1) := by decide +kernel
theorem dX1_carry_57 : decode cX1_carry 57 = .ok (.lcmp, 1) := by decide +kernel
theorem dX1_carry_58 : decode cX1_carry 58 = .ok (.ifCond .ge 11, 3) := by decide +kernel
theorem dX1_carry_61 : decode cX1_carry 61 = .ok (.aload_n 0, 1) := by decide +kernel
theorem dX1_carry_62 : decode cX1_carry 62 = .ok (.getfield 43, 3) := by decide +kernel
theorem dX1_carry_65 : decode cX1_carry 65 = .ok (.lneg, 1) := by decide +kernel
theorem dX1_carry_66 : decode cX1_carry 66 = .ok (.goto 7, 3) := by decide +kernel
theorem dX1_carry_69 : decode cX1_carry 69 = .ok (.aload_n 0, 1) := by decide +kernel
theorem dX1_carry_70 : decode cX1_carry 70 = .ok (.getfield 43, 3) := by decide +kernel
theorem dX1_carry_73 : decode cX1_carry 73 = .ok (.lstore_n 3, 1) := by decide +kernel
theorem dX1_carry_74 : decode cX1_carry 74 = .ok (.aload_n 2, 1) := by decide +kernel
theorem dX1_carry_75 : decode cX1_carry 75 = .ok (.ifnull 36, 3) := by decide +kernel
theorem dX1_carry_78 : decode cX1_carry 78 = .ok (.aload_n 2, 1) := by decide +kernel
theorem dX1_carry_79 : decode cX1_carry 79 = .ok (.lload_n 3, 1) := by decide +kernel
theorem dX1_carry_80 : decode cX1_carry 80 = .ok (.aload_n 1, 1) := by decide +kernel
theorem dX1_carry_81 : decode cX1_carry 81 = .ok (.ifnonnull 9, 3) := by decide +kernel
theorem dX1_carry_84 : decode cX1_carry 84 = .ok (.ldc2_w 81, 3) := by decide +kernel
theorem dX1_carry_87 : decode cX1_carry 87 = .ok (.goto 7, 3) := by decide +kernel
theorem dX1_carry_90 : decode cX1_carry 90 = .ok (.aload_n 1, 1) := by decide +kernel
theorem dX1_carry_91 : decode cX1_carry 91 = .ok (.getfield 83, 3) := by decide +kernel
theorem dX1_carry_94 : decode cX1_carry 94 = .ok (.aload_n 1, 1) := by decide +kernel
theorem dX1_carry_95 : decode cX1_carry 95 = .ok (.ifnonnull 9, 3) := by decide +kernel
theorem dX1_carry_98 : decode cX1_carry 98 = .ok (.ldc2_w 86, 3) := by decide +kernel
theorem dX1_carry_101 : decode cX1_carry 101 = .ok (.goto 7, 3) := by decide +kernel
theorem dX1_carry_104 : decode cX1_carry 104 = .ok (.aload_n 1, 1) := by decide +kernel
theorem dX1_carry_105 : decode cX1_carry 105 = .ok (.getfield 88, 3) := by decide +kernel
theorem dX1_carry_108 : decode cX1_carry 108 = .ok (.invokevirtual 91, 3) := by decide +kernel
theorem dX1_carry_111 : decode cX1_carry 111 = .ok (.aload_n 1, 1) := by decide +kernel
theorem dX1_carry_112 : decode cX1_carry 112 = .ok (.ifnull 8, 3) := by decide +kernel
theorem dX1_carry_115 : decode cX1_carry 115 = .ok (.aload_n 1, 1) := by decide +kernel
theorem dX1_carry_116 : decode cX1_carry 116 = .ok (.lload_n 3, 1) := by decide +kernel
theorem dX1_carry_117 : decode cX1_carry 117 = .ok (.invokevirtual 95, 3) := by decide +kernel
theorem dX1_carry_120 : decode cX1_carry 120 = .ok (.aload_n 0, 1) := by decide +kernel
theorem dX1_carry_121 : decode cX1_carry 121 = .ok (.getfield 16, 3) := by decide +kernel
theorem dX1_carry_124 : decode cX1_carry 124 = .ok (.ifnull 28, 3) := by decide +kernel
theorem dX1_carry_127 : decode cX1_carry 127 = .ok (.aload_n 0, 1) := by decide +kernel
theorem dX1_carry_128 : decode cX1_carry 128 = .ok (.getfield 16, 3) := by decide +kernel
theorem dX1_carry_131 : decode cX1_carry 131 = .ok (.aload_n 0, 1) := by decide +kernel
theorem dX1_carry_132 : decode cX1_carry 132 = .ok (.getfield 16, 3) := by decide +kernel
theorem dX1_carry_135 : decode cX1_carry 135 = .ok (.getfield 99, 3) := by decide +kernel
theorem dX1_carry_138 : decode cX1_carry 138 = .ok (.aload_n 1, 1) := by decide +kernel
theorem dX1_carry_139 : decode cX1_carry 139 = .ok (.ifnonnull 7, 3) := by decide +kernel
theorem dX1_carry_142 : decode cX1_carry 142 = .ok (.lload_n 3, 1) := by decide +kernel
theorem dX1_carry_143 : decode cX1_carry 143 = .ok (.goto 5, 3) := by decide +kernel
theorem dX1_carry_146 : decode cX1_carry 146 = .ok (.lload_n 3, 1) := by decide +kernel
theorem dX1_carry_147 : decode cX1_carry 147 = .ok (.lneg, 1) := by decide +kernel
theorem dX1_carry_148 : decode cX1_carry 148 = .ok (.ladd, 1) := by decide +kernel
theorem dX1_carry_149 : decode cX1_carry 149 = .ok (.putfield 99, 3) := by decide +kernel
theorem dX1_carry_152 : decode cX1_carry 152 = .ok (.return_, 1) := by decide +kernel
theorem dX1_surfaceOf_0 : decode cX1_surfaceOf 0 = .ok (.aload_n 1, 1) := by decide +kernel
theorem dX1_surfaceOf_1 : decode cX1_surfaceOf 1 = .ok (.ifnull 8, 3) := by decide +kernel
theorem dX1_surfaceOf_4 : decode cX1_surfaceOf 4 = .ok (.aload_n 1, 1) := by decide +kernel
theorem dX1_surfaceOf_5 : decode cX1_surfaceOf 5 = .ok (.getfield 102, 3) := by decide +kernel
theorem dX1_surfaceOf_8 : decode cX1_surfaceOf 8 = .ok (.dreturn, 1) := by decide +kernel
theorem dX1_surfaceOf_9 : decode cX1_surfaceOf 9 = .ok (.aload_n 0, 1) := by decide +kernel
theorem dX1_surfaceOf_10 : decode cX1_surfaceOf 10 = .ok (.getfield 16, 3) := by decide +kernel
theorem dX1_surfaceOf_13 : decode cX1_surfaceOf 13 = .ok (.ifnonnull 7, 3) := by decide +kernel
theorem dX1_surfaceOf_16 : decode cX1_surfaceOf 16 = .ok (.dconst 0, 1) := by decide +kernel
theorem dX1_surfaceOf_17 : decode cX1_surfaceOf 17 = .ok (.goto 10, 3) := by decide +kernel
theorem dX1_surfaceOf_20 : decode cX1_surfaceOf 20 = .ok (.aload_n 0, 1) := by decide +kernel
theorem dX1_surfaceOf_21 : decode cX1_surfaceOf 21 = .ok (.getfield 16, 3) := by decide +kernel
theorem dX1_surfaceOf_24 : decode cX1_surfaceOf 24 = .ok (.getfield 105, 3) := by decide +kernel
theorem dX1_surfaceOf_27 : decode cX1_surfaceOf 27 = .ok (.dreturn, 1) := by decide +kernel
theorem dX1_lesserParts_0 : decode cX1_lesserParts 0 = .ok (.ldc2_w 110, 3) := by decide +kernel
theorem dX1_lesserParts_3 : decode cX1_lesserParts 3 = .ok (.lstore_n 1, 1) := by decide +kernel
theorem dX1_lesserParts_4 : decode cX1_lesserParts 4 = .ok (.aload_n 0, 1) := by decide +kernel
theorem dX1_lesserParts_5 : decode cX1_lesserParts 5 = .ok (.getfield 7, 3) := by decide +kernel
theorem dX1_lesserParts_8 : decode cX1_lesserParts 8 = .ok (.ifnull 15, 3) := by decide +kernel
theorem dX1_lesserParts_11 : decode cX1_lesserParts 11 = .ok (.lload_n 1, 1) := by decide +kernel
theorem dX1_lesserParts_12 : decode cX1_lesserParts 12 = .ok (.aload_n 0, 1) := by decide +kernel
theorem dX1_lesserParts_13 : decode cX1_lesserParts 13 = .ok (.getfield 7, 3) := by decide +kernel
theorem dX1_lesserParts_16 : decode cX1_lesserParts 16 = .ok (.getfield 112, 3) := by decide +kernel
theorem dX1_lesserParts_19 : decode cX1_lesserParts 19 = .ok (.invokestatic 115, 3) := by decide +kernel
theorem dX1_lesserParts_22 : decode cX1_lesserParts 22 = .ok (.lstore_n 1, 1) := by decide +kernel
theorem dX1_lesserParts_23 : decode cX1_lesserParts 23 = .ok (.aload_n 0, 1) := by decide +kernel
theorem dX1_lesserParts_24 : decode cX1_lesserParts 24 = .ok (.getfield 13, 3) := by decide +kernel
theorem dX1_lesserParts_27 : decode cX1_lesserParts 27 = .ok (.ifnonnull 7, 3) := by decide +kernel
theorem dX1_lesserParts_30 : decode cX1_lesserParts 30 = .ok (.lload_n 1, 1) := by decide +kernel
theorem dX1_lesserParts_31 : decode cX1_lesserParts 31 = .ok (.goto 14, 3) := by decide +kernel
theorem dX1_lesserParts_34 : decode cX1_lesserParts 34 = .ok (.lload_n 1, 1) := by decide +kernel
theorem dX1_lesserParts_35 : decode cX1_lesserParts 35 = .ok (.aload_n 0, 1) := by decide +kernel
theorem dX1_lesserParts_36 : decode cX1_lesserParts 36 = .ok (.getfield 13, 3) := by decide +kernel
theorem dX1_lesserParts_39 : decode cX1_lesserParts 39 = .ok (.getfield 112, 3) := by decide +kernel
theorem dX1_lesserParts_42 : decode cX1_lesserParts 42 = .ok (.invokestatic 115, 3) := by decide +kernel
theorem dX1_lesserParts_45 : decode cX1_lesserParts 45 = .ok (.lreturn, 1) := by decide +kernel
theorem dX1_limited_0 : decode cX1_limited 0 = .ok (.lload_n 1, 1) := by decide +kernel
theorem dX1_limited_1 : decode cX1_limited 1 = .ok (.lconst 0, 1) := by decide +kernel
theorem dX1_limited_2 : decode cX1_limited 2 = .ok (.lcmp, 1) := by decide +kernel
theorem dX1_limited_3 : decode cX1_limited 3 = .ok (.ifCond .ge 10, 3) := by decide +kernel
theorem dX1_limited_6 : decode cX1_limited 6 = .ok (.aload_n 0, 1) := by decide +kernel
theorem dX1_limited_7 : decode cX1_limited 7 = .ok (.getfield 13, 3) := by decide +kernel
theorem dX1_limited_10 : decode cX1_limited 10 = .ok (.goto 7, 3) := by decide +kernel
theorem dX1_limited_13 : decode cX1_limited 13 = .ok (.aload_n 0, 1) := by decide +kernel
theorem dX1_limited_14 : decode cX1_limited 14 = .ok (.getfield 7, 3) := by decide +kernel
theorem dX1_limited_17 : decode cX1_limited 17 = .ok (.astore_n 3, 1) := by decide +kernel
theorem dX1_limited_18 : decode cX1_limited 18 = .ok (.aload_n 3, 1) := by decide +kernel
theorem dX1_limited_19 : decode cX1_limited 19 = .ok (.ifnonnull 5, 3) := by decide +kernel
theorem dX1_limited_22 : decode cX1_limited 22 = .ok (.lload_n 1, 1) := by decide +kernel
theorem dX1_limited_23 : decode cX1_limited 23 = .ok (.lreturn, 1) := by decide +kernel
theorem dX1_limited_24 : decode cX1_limited 24 = .ok (.aload_n 3, 1) := by decide +kernel
theorem dX1_limited_25 : decode cX1_limited 25 = .ok (.invokevirtual 121, 3) := by decide +kernel
theorem dX1_limited_28 : decode cX1_limited 28 = .ok (.ifCond .eq 5, 3) := by decide +kernel
theorem dX1_limited_31 : decode cX1_limited 31 = .ok (.lconst 0, 1) := by decide +kernel
theorem dX1_limited_32 : decode cX1_limited 32 = .ok (.lreturn, 1) := by decide +kernel
theorem dX1_limited_33 : decode cX1_limited 33 = .ok (.aload_n 3, 1) := by decide +kernel
theorem dX1_limited_34 : decode cX1_limited 34 = .ok (.getfield 112, 3) := by decide +kernel
theorem dX1_limited_37 : decode cX1_limited 37 = .ok (.ldc2_w 124, 3) := by decide +kernel
theorem dX1_limited_40 : decode cX1_limited 40 = .ok (.ldiv, 1) := by decide +kernel
theorem dX1_limited_41 : decode cX1_limited 41 = .ok (.lstore 4, 2) := by decide +kernel
theorem dX1_limited_43 : decode cX1_limited 43 = .ok (.lload 4, 2) := by decide +kernel
theorem dX1_limited_45 : decode cX1_limited 45 = .ok (.lneg, 1) := by decide +kernel
theorem dX1_limited_46 : decode cX1_limited 46 = .ok (.lload 4, 2) := by decide +kernel
theorem dX1_limited_48 : decode cX1_limited 48 = .ok (.lload_n 1, 1) := by decide +kernel
theorem dX1_limited_49 : decode cX1_limited 49 = .ok (.invokestatic 115, 3) := by decide +kernel
theorem dX1_limited_52 : decode cX1_limited 52 = .ok (.invokestatic 126, 3) := by decide +kernel
theorem dX1_limited_55 : decode cX1_limited 55 = .ok (.lreturn, 1) := by decide +kernel
theorem dX1_isWater_0 : decode cX1_isWater 0 = .ok (.aload_n 0, 1) := by decide +kernel
theorem dX1_isWater_1 : decode cX1_isWater 1 = .ok (.ifnull 14, 3) := by decide +kernel
theorem dX1_isWater_4 : decode cX1_isWater 4 = .ok (.aload_n 0, 1) := by decide +kernel
theorem dX1_isWater_5 : decode cX1_isWater 5 = .ok (.getfield 34, 3) := by decide +kernel
theorem dX1_isWater_8 : decode cX1_isWater 8 = .ok (.ifCond .eq 7, 3) := by decide +kernel
theorem dX1_isWater_11 : decode cX1_isWater 11 = .ok (.iconst 1, 1) := by decide +kernel
theorem dX1_isWater_12 : decode cX1_isWater 12 = .ok (.goto 4, 3) := by decide +kernel
theorem dX1_isWater_15 : decode cX1_isWater 15 = .ok (.iconst 0, 1) := by decide +kernel
theorem dX1_isWater_16 : decode cX1_isWater 16 = .ok (.ireturn, 1) := by decide +kernel

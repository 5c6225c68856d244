theorem dX7_ice_44 : decode cX7_ice 44 = .ok (.dload_n 3, 1) := by decide +kernel
theorem dX7_ice_45 : decode cX7_ice 45 = .ok (.dconst 1, 1) := by decide +kernel
theorem dX7_ice_46 : decode cX7_ice 46 = .ok (.dcmp .l, 1) := by decide +kernel
theorem dX7_ice_47 : decode cX7_ice 47 = .ok (.ifCond .le 7, 3) := by decide +kernel
theorem dX7_ice_50 : decode cX7_ice 50 = .ok (.dconst 1, 1) := by decide +kernel
theorem dX7_ice_51 : decode cX7_ice 51 = .ok (.goto 4, 3) := by decide +kernel
theorem dX7_ice_54 : decode cX7_ice 54 = .ok (.dload_n 3, 1) := by decide +kernel
theorem dX7_ice_55 : decode cX7_ice 55 = .ok (.dreturn, 1) := by decide +kernel
theorem dX7_mud_0 : decode cX7_mud 0 = .ok (.aload_n 0, 1) := by decide +kernel
theorem dX7_mud_1 : decode cX7_mud 1 = .ok (.iload_n 1, 1) := by decide +kernel
theorem dX7_mud_2 : decode cX7_mud 2 = .ok (.iload_n 2, 1) := by decide +kernel
theorem dX7_mud_3 : decode cX7_mud 3 = .ok (.invokevirtual 139, 3) := by decide +kernel
theorem dX7_mud_6 : decode cX7_mud 6 = .ok (.ifCond .eq 16, 3) := by decide +kernel
theorem dX7_mud_9 : decode cX7_mud 9 = .ok (.aload_n 0, 1) := by decide +kernel
theorem dX7_mud_10 : decode cX7_mud 10 = .ok (.getfield 30, 3) := by decide +kernel
theorem dX7_mud_13 : decode cX7_mud 13 = .ok (.iload_n 1, 1) := by decide +kernel
theorem dX7_mud_14 : decode cX7_mud 14 = .ok (.iload_n 2, 1) := by decide +kernel
theorem dX7_mud_15 : decode cX7_mud 15 = .ok (.invokestatic 135, 3) := by decide +kernel
theorem dX7_mud_18 : decode cX7_mud 18 = .ok (.daload, 1) := by decide +kernel
theorem dX7_mud_19 : decode cX7_mud 19 = .ok (.goto 4, 3) := by decide +kernel
theorem dX7_mud_22 : decode cX7_mud 22 = .ok (.dconst 0, 1) := by decide +kernel
theorem dX7_mud_23 : decode cX7_mud 23 = .ok (.dreturn, 1) := by decide +kernel
theorem dX7_differs_0 : decode cX7_differs 0 = .ok (.dconst 0, 1) := by decide +kernel
theorem dX7_differs_1 : decode cX7_differs 1 = .ok (.dstore_n 3, 1) := by decide +kernel
theorem dX7_differs_2 : decode cX7_differs 2 = .ok (.iconst 0, 1) := by decide +kernel
theorem dX7_differs_3 : decode cX7_differs 3 = .ok (.istore 5, 2) := by decide +kernel
theorem dX7_differs_5 : decode cX7_differs 5 = .ok (.iload 5, 2) := by decide +kernel
theorem dX7_differs_7 : decode cX7_differs 7 = .ok (.aload_n 0, 1) := by decide +kernel
theorem dX7_differs_8 : decode cX7_differs 8 = .ok (.getfield 299, 3) := by decide +kernel
theorem dX7_differs_11 : decode cX7_differs 11 = .ok (.if_icmp .ge 55, 3) := by decide +kernel
theorem dX7_differs_14 : decode cX7_differs 14 = .ok (.aload_n 0, 1) := by decide +kernel
theorem dX7_differs_15 : decode cX7_differs 15 = .ok (.iload_n 1, 1) := by decide +kernel
theorem dX7_differs_16 : decode cX7_differs 16 = .ok (.iload_n 2, 1) := by decide +kernel
theorem dX7_differs_17 : decode cX7_differs 17 = .ok (.invokevirtual 139, 3) := by decide +kernel
theorem dX7_differs_20 : decode cX7_differs 20 = .ok (.ifCond .eq 46, 3) := by decide +kernel
theorem dX7_differs_23 : decode cX7_differs 23 = .ok (.aload_n 0, 1) := by decide +kernel
theorem dX7_differs_24 : decode cX7_differs 24 = .ok (.getfield 76, 3) := by decide +kernel
theorem dX7_differs_27 : decode cX7_differs 27 = .ok (.iload 5, 2) := by decide +kernel
theorem dX7_differs_29 : decode cX7_differs 29 = .ok (.iaload, 1) := by decide +kernel
theorem dX7_differs_30 : decode cX7_differs 30 = .ok (.iload_n 1, 1) := by decide +kernel
theorem dX7_differs_31 : decode cX7_differs 31 = .ok (.iload_n 2, 1) := by decide +kernel
theorem dX7_differs_32 : decode cX7_differs 32 = .ok (.invokestatic 135, 3) := by decide +kernel
theorem dX7_differs_35 : decode cX7_differs 35 = .ok (.if_icmp .ne 23, 3) := by decide +kernel
theorem dX7_differs_38 : decode cX7_differs 38 = .ok (.aload_n 0, 1) := by decide +kernel
theorem dX7_differs_39 : decode cX7_differs 39 = .ok (.getfield 82, 3) := by decide +kernel
theorem dX7_differs_42 : decode cX7_differs 42 = .ok (.iload 5, 2) := by decide +kernel
theorem dX7_differs_44 : decode cX7_differs 44 = .ok (.daload, 1) := by decide +kernel
theorem dX7_differs_45 : decode cX7_differs 45 = .ok (.aload_n 0, 1) := by decide +kernel
theorem dX7_differs_46 : decode cX7_differs 46 = .ok (.iload_n 1, 1) := by decide +kernel
theorem dX7_differs_47 : decode cX7_differs 47 = .ok (.iload_n 2, 1) := by decide +kernel
theorem dX7_differs_48 : decode cX7_differs 48 = .ok (.invokestatic 135, 3) := by decide +kernel
theorem dX7_differs_51 : decode cX7_differs 51 = .ok (.invokevirtual 198, 3) := by decide +kernel
theorem dX7_differs_54 : decode cX7_differs 54 = .ok (.dsub, 1) := by decide +kernel
theorem dX7_differs_55 : decode cX7_differs 55 = .ok (.goto 4, 3) := by decide +kernel
theorem dX7_differs_58 : decode cX7_differs 58 = .ok (.dload_n 3, 1) := by decide +kernel
theorem dX7_differs_59 : decode cX7_differs 59 = .ok (.dstore_n 3, 1) := by decide +kernel
theorem dX7_differs_60 : decode cX7_differs 60 = .ok (.iinc 5 1, 3) := by decide +kernel
theorem dX7_differs_63 : decode cX7_differs 63 = .ok (.goto (-58), 3) := by decide +kernel
theorem dX7_differs_66 : decode cX7_differs 66 = .ok (.dload_n 3, 1) := by decide +kernel
theorem dX7_differs_67 : decode cX7_differs 67 = .ok (.dreturn, 1) := by decide +kernel
theorem dX7_gauge_0 : decode cX7_gauge 0 = .ok (.aload_n 0, 1) := by decide +kernel
theorem dX7_gauge_1 : decode cX7_gauge 1 = .ok (.iload_n 1, 1) := by decide +kernel
theorem dX7_gauge_2 : decode cX7_gauge 2 = .ok (.iload_n 2, 1) := by decide +kernel
theorem dX7_gauge_3 : decode cX7_gauge 3 = .ok (.invokevirtual 131, 3) := by decide +kernel
theorem dX7_gauge_6 : decode cX7_gauge 6 = .ok (.ifCond .eq 37, 3) := by decide +kernel
theorem dX7_gauge_9 : decode cX7_gauge 9 = .ok (.aload_n 0, 1) := by decide +kernel
theorem dX7_gauge_10 : decode cX7_gauge 10 = .ok (.getfield 299, 3) := by decide +kernel
theorem dX7_gauge_13 : decode cX7_gauge 13 = .ok (.bipush 40, 2) := by decide +kernel
theorem dX7_gauge_15 : decode cX7_gauge 15 = .ok (.if_icmp .eq 28, 3) := by decide +kernel
theorem dX7_gauge_18 : decode cX7_gauge 18 = .ok (.dload_n 3, 1) := by decide +kernel
theorem dX7_gauge_19 : decode cX7_gauge 19 = .ok (.dconst 0, 1) := by decide +kernel
theorem dX7_gauge_20 : decode cX7_gauge 20 = .ok (.ldc2_w 150, 3) := by decide +kernel
theorem dX7_gauge_23 : decode cX7_gauge 23 = .ok (.invokestatic 152, 3) := by decide +kernel
theorem dX7_gauge_26 : decode cX7_gauge 26 = .ok (.ifCond .eq 17, 3) := by decide +kernel
theorem dX7_gauge_29 : decode cX7_gauge 29 = .ok (.dload 5, 2) := by decide +kernel
theorem dX7_gauge_31 : decode cX7_gauge 31 = .ok (.ldc2_w 176, 3) := by decide +kernel
theorem dX7_gauge_34 : decode cX7_gauge 34 = .ok (.ldc2_w 178, 3) := by decide +kernel
theorem dX7_gauge_37 : decode cX7_gauge 37 = .ok (.invokestatic 152, 3) := by decide +kernel
theorem dX7_gauge_40 : decode cX7_gauge 40 = .ok (.ifCond .ne 5, 3) := by decide +kernel
theorem dX7_gauge_43 : decode cX7_gauge 43 = .ok (.iconst 0, 1) := by decide +kernel
theorem dX7_gauge_44 : decode cX7_gauge 44 = .ok (.ireturn, 1) := by decide +kernel
theorem dX7_gauge_45 : decode cX7_gauge 45 = .ok (.aload_n 0, 1) := by decide +kernel
theorem dX7_gauge_46 : decode cX7_gauge 46 = .ok (.getfield 76, 3) := by decide +kernel
theorem dX7_gauge_49 : decode cX7_gauge 49 = .ok (.aload_n 0, 1) := by decide +kernel
theorem dX7_gauge_50 : decode cX7_gauge 50 = .ok (.getfield 299, 3) := by decide +kernel
theorem dX7_gauge_53 : decode cX7_gauge 53 = .ok (.iload_n 1, 1) := by decide +kernel
theorem dX7_gauge_54 : decode cX7_gauge 54 = .ok (.iload_n 2, 1) := by decide +kernel
theorem dX7_gauge_55 : decode cX7_gauge 55 = .ok (.invokestatic 135, 3) := by decide +kernel
theorem dX7_gauge_58 : decode cX7_gauge 58 = .ok (.iastore, 1) := by decide +kernel
theorem dX7_gauge_59 : decode cX7_gauge 59 = .ok (.aload_n 0, 1) := by decide +kernel
theorem dX7_gauge_60 : decode cX7_gauge 60 = .ok (.getfield 79, 3) := by decide +kernel
theorem dX7_gauge_63 : decode cX7_gauge 63 = .ok (.aload_n 0, 1) := by decide +kernel
theorem dX7_gauge_64 : decode cX7_gauge 64 = .ok (.getfield 299, 3) := by decide +kernel
theorem dX7_gauge_67 : decode cX7_gauge 67 = .ok (.dload_n 3, 1) := by decide +kernel
theorem dX7_gauge_68 : decode cX7_gauge 68 = .ok (.dastore, 1) := by decide +kernel
theorem dX7_gauge_69 : decode cX7_gauge 69 = .ok (.aload_n 0, 1) := by decide +kernel
theorem dX7_gauge_70 : decode cX7_gauge 70 = .ok (.getfield 82, 3) := by decide +kernel
theorem dX7_gauge_73 : decode cX7_gauge 73 = .ok (.aload_n 0, 1) := by decide +kernel
theorem dX7_gauge_74 : decode cX7_gauge 74 = .ok (.getfield 299, 3) := by decide +kernel
theorem dX7_gauge_77 : decode cX7_gauge 77 = .ok (.dload 5, 2) := by decide +kernel
theorem dX7_gauge_79 : decode cX7_gauge 79 = .ok (.dastore, 1) := by decide +kernel
theorem dX7_gauge_80 : decode cX7_gauge 80 = .ok (.aload_n 0, 1) := by decide +kernel
theorem dX7_gauge_81 : decode cX7_gauge 81 = .ok (.dup, 1) := by decide +kernel
theorem dX7_gauge_82 : decode cX7_gauge 82 = .ok (.getfield 299, 3) := by decide +kernel
theorem dX7_gauge_85 : decode cX7_gauge 85 = .ok (.iconst 1, 1) := by decide +kernel
theorem dX7_gauge_86 : decode cX7_gauge 86 = .ok (.iadd, 1) := by decide +kernel
theorem dX7_gauge_87 : decode cX7_gauge 87 = .ok (.putfield 299, 3) := by decide +kernel
theorem dX7_gauge_90 : decode cX7_gauge 90 = .ok (.iconst 1, 1) := by decide +kernel
theorem dX7_gauge_91 : decode cX7_gauge 91 = .ok (.ireturn, 1) := by decide +kernel
theorem dX7_column_0 : decode cX7_column 0 = .ok (.iload_n 0, 1) := by decide +kernel
theorem dX7_column_1 : decode cX7_column 1 = .ok (.ifCond .ne 5, 3) := by decide +kernel
theorem dX7_column_4 : decode cX7_column 4 = .ok (.dconst 1, 1) := by decide +kernel
theorem dX7_column_5 : decode cX7_column 5 = .ok (.dreturn, 1) := by decide +kernel
theorem dX7_column_6 : decode cX7_column 6 = .ok (.dload_n 1, 1) := by decide +kernel
theorem dX7_column_7 : decode cX7_column 7 = .ok (.ldc2_w 190, 3) := by decide +kernel
theorem dX7_column_10 : decode cX7_column 10 = .ok (.dmul, 1) := by decide +kernel
theorem dX7_column_11 : decode cX7_column 11 = .ok (.iload_n 0, 1) := by decide +kernel
theorem dX7_column_12 : decode cX7_column 12 = .ok (.iconst 3, 1) := by decide +kernel
theorem dX7_column_13 : decode cX7_column 13 = .ok (.if_icmp .ge 9, 3) := by decide +kernel
theorem dX7_column_16 : decode cX7_column 16 = .ok (.ldc2_w 190, 3) := by decide +kernel
theorem dX7_column_19 : decode cX7_column 19 = .ok (.goto 6, 3) := by decide +kernel
theorem dX7_column_22 : decode cX7_column 22 = .ok (.ldc2_w 302, 3) := by decide +kernel
theorem dX7_column_25 : decode cX7_column 25 = .ok (.ddiv, 1) := by decide +kernel
theorem dX7_column_26 : decode cX7_column 26 = .ok (.dstore_n 3, 1) := by decide +kernel
theorem dX7_column_27 : decode cX7_column 27 = .ok (.iload_n 0, 1) := by decide +kernel
theorem dX7_column_28 : decode cX7_column 28 = .ok (.iconst 2, 1) := by decide +kernel
theorem dX7_column_29 : decode cX7_column 29 = .ok (.irem, 1) := by decide +kernel
theorem dX7_column_30 : decode cX7_column 30 = .ok (.iconst 1, 1) := by decide +kernel
theorem dX7_column_31 : decode cX7_column 31 = .ok (.if_icmp .ne 7, 3) := by decide +kernel
theorem dX7_column_34 : decode cX7_column 34 = .ok (.dload_n 3, 1) := by decide +kernel
theorem dX7_column_35 : decode cX7_column 35 = .ok (.goto 8, 3) := by decide +kernel
theorem dX7_column_38 : decode cX7_column 38 = .ok (.dload_n 3, 1) := by decide +kernel
theorem dX7_column_39 : decode cX7_column 39 = .ok (.ldc2_w 279, 3) := by decide +kernel
theorem dX7_column_42 : decode cX7_column 42 = .ok (.dadd, 1) := by decide +kernel
theorem dX7_column_43 : decode cX7_column 43 = .ok (.invokestatic 192, 3) := by decide +kernel
theorem dX7_column_46 : decode cX7_column 46 = .ok (.dreturn, 1) := by decide +kernel
theorem dX7_fit_0 : decode cX7_fit 0 = .ok (.iload_n 1, 1) := by decide +kernel
theorem dX7_fit_1 : decode cX7_fit 1 = .ok (.ifCond .lt 8, 3) := by decide +kernel
theorem dX7_fit_4 : decode cX7_fit 4 = .ok (.iload_n 1, 1) := by decide +kernel
theorem dX7_fit_5 : decode cX7_fit 5 = .ok (.iconst 2, 1) := by decide +kernel
theorem dX7_fit_6 : decode cX7_fit 6 = .ok (.if_icmp .le 5, 3) := by decide +kernel
theorem dX7_fit_9 : decode cX7_fit 9 = .ok (.iconst (-1), 1) := by decide +kernel
theorem dX7_fit_10 : decode cX7_fit 10 = .ok (.ireturn, 1) := by decide +kernel
theorem dX7_fit_11 : decode cX7_fit 11 = .ok (.iconst 1, 1) := by decide +kernel
theorem dX7_fit_12 : decode cX7_fit 12 = .ok (.iconst 2, 1) := by decide +kernel
theorem dX7_fit_13 : decode cX7_fit 13 = .ok (.iload_n 1, 1) := by decide +kernel
theorem dX7_fit_14 : decode cX7_fit 14 = .ok (.imul, 1) := by decide +kernel
theorem dX7_fit_15 : decode cX7_fit 15 = .ok (.iadd, 1) := by decide +kernel
theorem dX7_fit_16 : decode cX7_fit 16 = .ok (.istore_n 2, 1) := by decide +kernel
theorem dX7_fit_17 : decode cX7_fit 17 = .ok (.iconst 0, 1) := by decide +kernel
theorem dX7_fit_18 : decode cX7_fit 18 = .ok (.istore_n 3, 1) := by decide +kernel
theorem dX7_fit_19 : decode cX7_fit 19 = .ok (.iload_n 3, 1) := by decide +kernel
theorem dX7_fit_20 : decode cX7_fit 20 = .ok (.iload_n 2, 1) := by decide +kernel
theorem dX7_fit_21 : decode cX7_fit 21 = .ok (.if_icmp .ge 155, 3) := by decide +kernel
theorem dX7_fit_24 : decode cX7_fit 24 = .ok (.aload_n 0, 1) := by decide +kernel
theorem dX7_fit_25 : decode cX7_fit 25 = .ok (.getfield 88, 3) := by decide +kernel
theorem dX7_fit_28 : decode cX7_fit 28 = .ok (.iload_n 3, 1) := by decide +kernel
theorem dX7_fit_29 : decode cX7_fit 29 = .ok (.dconst 0, 1) := by decide +kernel
theorem dX7_fit_30 : decode cX7_fit 30 = .ok (.dastore, 1) := by decide +kernel
theorem dX7_fit_31 : decode cX7_fit 31 = .ok (.iconst 0, 1) := by decide +kernel
theorem dX7_fit_32 : decode cX7_fit 32 = .ok (.istore 4, 2) := by decide +kernel
theorem dX7_fit_34 : decode cX7_fit 34 = .ok (.iload 4, 2) := by decide +kernel
theorem dX7_fit_36 : decode cX7_fit 36 = .ok (.iload_n 2, 1) := by decide +kernel
theorem dX7_fit_37 : decode cX7_fit 37 = .ok (.if_icmp .ge 21, 3) := by decide +kernel
theorem dX7_fit_40 : decode cX7_fit 40 = .ok (.aload_n 0, 1) := by decide +kernel
theorem dX7_fit_41 : decode cX7_fit 41 = .ok (.getfield 85, 3) := by decide +kernel
theorem dX7_fit_44 : decode cX7_fit 44 = .ok (.iconst 5, 1) := by decide +kernel
theorem dX7_fit_45 : decode cX7_fit 45 = .ok (.iload_n 3, 1) := by decide +kernel
theorem dX7_fit_46 : decode cX7_fit 46 = .ok (.imul, 1) := by decide +kernel
theorem dX7_fit_47 : decode cX7_fit 47 = .ok (.iload 4, 2) := by decide +kernel
theorem dX7_fit_49 : decode cX7_fit 49 = .ok (.iadd, 1) := by decide +kernel
theorem dX7_fit_50 : decode cX7_fit 50 = .ok (.dconst 0, 1) := by decide +kernel
theorem dX7_fit_51 : decode cX7_fit 51 = .ok (.dastore, 1) := by decide +kernel
theorem dX7_fit_52 : decode cX7_fit 52 = .ok (.iinc 4 1, 3) := by decide +kernel
theorem dX7_fit_55 : decode cX7_fit 55 = .ok (.goto (-21), 3) := by decide +kernel
theorem dX7_fit_58 : decode cX7_fit 58 = .ok (.iconst 0, 1) := by decide +kernel
theorem dX7_fit_59 : decode cX7_fit 59 = .ok (.istore 4, 2) := by decide +kernel
theorem dX7_fit_61 : decode cX7_fit 61 = .ok (.iload 4, 2) := by decide +kernel
theorem dX7_fit_63 : decode cX7_fit 63 = .ok (.aload_n 0, 1) := by decide +kernel
theorem dX7_fit_64 : decode cX7_fit 64 = .ok (.getfield 299, 3) := by decide +kernel
theorem dX7_fit_67 : decode cX7_fit 67 = .ok (.if_icmp .ge 103, 3) := by decide +kernel
theorem dX7_fit_70 : decode cX7_fit 70 = .ok (.iconst 0, 1) := by decide +kernel
theorem dX7_fit_71 : decode cX7_fit 71 = .ok (.istore 5, 2) := by decide +kernel
theorem dX7_fit_73 : decode cX7_fit 73 = .ok (.iload 5, 2) := by decide +kernel
theorem dX7_fit_75 : decode cX7_fit 75 = .ok (.iload_n 2, 1) := by decide +kernel
theorem dX7_fit_76 : decode cX7_fit 76 = .ok (.if_icmp .ge 56, 3) := by decide +kernel
theorem dX7_fit_79 : decode cX7_fit 79 = .ok (.aload_n 0, 1) := by decide +kernel
theorem dX7_fit_80 : decode cX7_fit 80 = .ok (.getfield 85, 3) := by decide +kernel
theorem dX7_fit_83 : decode cX7_fit 83 = .ok (.iconst 5, 1) := by decide +kernel
theorem dX7_fit_84 : decode cX7_fit 84 = .ok (.iload_n 3, 1) := by decide +kernel
theorem dX7_fit_85 : decode cX7_fit 85 = .ok (.imul, 1) := by decide +kernel
theorem dX7_fit_86 : decode cX7_fit 86 = .ok (.iload 5, 2) := by decide +kernel
theorem dX7_fit_88 : decode cX7_fit 88 = .ok (.iadd, 1) := by decide +kernel
theorem dX7_fit_89 : decode cX7_fit 89 = .ok (.aload_n 0, 1) := by decide +kernel
theorem dX7_fit_90 : decode cX7_fit 90 = .ok (.getfield 85, 3) := by decide +kernel
theorem dX7_fit_93 : decode cX7_fit 93 = .ok (.iconst 5, 1) := by decide +kernel
theorem dX7_fit_94 : decode cX7_fit 94 = .ok (.iload_n 3, 1) := by decide +kernel
theorem dX7_fit_95 : decode cX7_fit 95 = .ok (.imul, 1) := by decide +kernel
theorem dX7_fit_96 : decode cX7_fit 96 = .ok (.iload 5, 2) := by decide +kernel
theorem dX7_fit_98 : decode cX7_fit 98 = .ok (.iadd, 1) := by decide +kernel
theorem dX7_fit_99 : decode cX7_fit 99 = .ok (.daload, 1) := by decide +kernel
theorem dX7_fit_100 : decode cX7_fit 100 = .ok (.iload_n 3, 1) := by decide +kernel
theorem dX7_fit_101 : decode cX7_fit 101 = .ok (.aload_n 0, 1) := by decide +kernel
theorem dX7_fit_102 : decode cX7_fit 102 = .ok (.getfield 79, 3) := by decide +kernel
theorem dX7_fit_105 : decode cX7_fit 105 = .ok (.iload 4, 2) := by decide +kernel
theorem dX7_fit_107 : decode cX7_fit 107 = .ok (.daload, 1) := by decide +kernel
theorem dX7_fit_108 : decode cX7_fit 108 = .ok (.invokestatic 304, 3) := by decide +kernel
theorem dX7_fit_111 : decode cX7_fit 111 = .ok (.iload 5, 2) := by decide +kernel
theorem dX7_fit_113 : decode cX7_fit 113 = .ok (.aload_n 0, 1) := by decide +kernel
theorem dX7_fit_114 : decode cX7_fit 114 = .ok (.getfield 79, 3) := by decide +kernel
theorem dX7_fit_117 : decode cX7_fit 117 = .ok (.iload 4, 2) := by decide +kernel
theorem dX7_fit_119 : decode cX7_fit 119 = .ok (.daload, 1) := by decide +kernel
theorem dX7_fit_120 : decode cX7_fit 120 = .ok (.invokestatic 304, 3) := by decide +kernel
theorem dX7_fit_123 : decode cX7_fit 123 = .ok (.dmul, 1) := by decide +kernel
theorem dX7_fit_124 : decode cX7_fit 124 = .ok (.dadd, 1) := by decide +kernel
theorem dX7_fit_125 : decode cX7_fit 125 = .ok (.dastore, 1) := by decide +kernel
theorem dX7_fit_126 : decode cX7_fit 126 = .ok (.iinc 5 1, 3) := by decide +kernel
theorem dX7_fit_129 : decode cX7_fit 129 = .ok (.goto (-56), 3) := by decide +kernel
theorem dX7_fit_132 : decode cX7_fit 132 = .ok (.aload_n 0, 1) := by decide +kernel
theorem dX7_fit_133 : decode cX7_fit 133 = .ok (.getfield 88, 3) := by decide +kernel
theorem dX7_fit_136 : decode cX7_fit 136 = .ok (.iload_n 3, 1) := by decide +kernel
theorem dX7_fit_137 : decode cX7_fit 137 = .ok (.aload_n 0, 1) := by decide +kernel
theorem dX7_fit_138 : decode cX7_fit 138 = .ok (.getfield 88, 3) := by decide +kernel
theorem dX7_fit_141 : decode cX7_fit 141 = .ok (.iload_n 3, 1) := by decide +kernel
theorem dX7_fit_142 : decode cX7_fit 142 = .ok (.daload, 1) := by decide +kernel
theorem dX7_fit_143 : decode cX7_fit 143 = .ok (.iload_n 3, 1) := by decide +kernel
theorem dX7_fit_144 : decode cX7_fit 144 = .ok (.aload_n 0, 1) := by decide +kernel
theorem dX7_fit_145 : decode cX7_fit 145 = .ok (.getfield 79, 3) := by decide +kernel
theorem dX7_fit_148 : decode cX7_fit 148 = .ok (.iload 4, 2) := by decide +kernel
theorem dX7_fit_150 : decode cX7_fit 150 = .ok (.daload, 1) := by decide +kernel
theorem dX7_fit_151 : decode cX7_fit 151 = .ok (.invokestatic 304, 3) := by decide +kernel
theorem dX7_fit_154 : decode cX7_fit 154 = .ok (.aload_n 0, 1) := by decide +kernel
theorem dX7_fit_155 : decode cX7_fit 155 = .ok (.getfield 82, 3) := by decide +kernel
theorem dX7_fit_158 : decode cX7_fit 158 = .ok (.iload 4, 2) := by decide +kernel
theorem dX7_fit_160 : decode cX7_fit 160 = .ok (.daload, 1) := by decide +kernel
theorem dX7_fit_161 : decode cX7_fit 161 = .ok (.dmul, 1) := by decide +kernel
theorem dX7_fit_162 : decode cX7_fit 162 = .ok (.dadd, 1) := by decide +kernel
theorem dX7_fit_163 : decode cX7_fit 163 = .ok (.dastore, 1) := by decide +kernel
theorem dX7_fit_164 : decode cX7_fit 164 = .ok (.iinc 4 1, 3) := by decide +kernel
theorem dX7_fit_167 : decode cX7_fit 167 = .ok (.goto (-106), 3) := by decide +kernel
theorem dX7_fit_170 : decode cX7_fit 170 = .ok (.iinc 3 1, 3) := by decide +kernel
theorem dX7_fit_173 : decode cX7_fit 173 = .ok (.goto (-154), 3) := by decide +kernel
theorem dX7_fit_176 : decode cX7_fit 176 = .ok (.iconst 0, 1) := by decide +kernel
theorem dX7_fit_177 : decode cX7_fit 177 = .ok (.istore_n 3, 1) := by decide +kernel
theorem dX7_fit_178 : decode cX7_fit 178 = .ok (.iconst 0, 1) := by decide +kernel
theorem dX7_fit_179 : decode cX7_fit 179 = .ok (.istore 4, 2) := by decide +kernel
theorem dX7_fit_181 : decode cX7_fit 181 = .ok (.iload 4, 2) := by decide +kernel
theorem dX7_fit_183 : decode cX7_fit 183 = .ok (.iload_n 2, 1) := by decide +kernel
theorem dX7_fit_184 : decode cX7_fit 184 = .ok (.if_icmp .ge 156, 3) := by decide +kernel
theorem dX7_fit_187 : decode cX7_fit 187 = .ok (.aload_n 0, 1) := by decide +kernel
theorem dX7_fit_188 : decode cX7_fit 188 = .ok (.getfield 85, 3) := by decide +kernel
theorem dX7_fit_191 : decode cX7_fit 191 = .ok (.bipush 6, 2) := by decide +kernel
theorem dX7_fit_193 : decode cX7_fit 193 = .ok (.iload 4, 2) := by decide +kernel
theorem dX7_fit_195 : decode cX7_fit 195 = .ok (.imul, 1) := by decide +kernel
theorem dX7_fit_196 : decode cX7_fit 196 = .ok (.daload, 1) := by decide +kernel
theorem dX7_fit_197 : decode cX7_fit 197 = .ok (.invokestatic 210, 3) := by decide +kernel
theorem dX7_fit_200 : decode cX7_fit 200 = .ok (.ldc2_w 308, 3) := by decide +kernel
theorem dX7_fit_203 : decode cX7_fit 203 = .ok (.dcmp .l, 1) := by decide +kernel
theorem dX7_fit_204 : decode cX7_fit 204 = .ok (.ifCond .le 130, 3) := by decide +kernel
theorem dX7_fit_207 : decode cX7_fit 207 = .ok (.iinc 3 1, 3) := by decide +kernel
theorem dX7_fit_210 : decode cX7_fit 210 = .ok (.iload 4, 2) := by decide +kernel
theorem dX7_fit_212 : decode cX7_fit 212 = .ok (.iconst 1, 1) := by decide +kernel
theorem dX7_fit_213 : decode cX7_fit 213 = .ok (.iadd, 1) := by decide +kernel
theorem dX7_fit_214 : decode cX7_fit 214 = .ok (.istore 5, 2) := by decide +kernel
theorem dX7_fit_216 : decode cX7_fit 216 = .ok (.iload 5, 2) := by decide +kernel
theorem dX7_fit_218 : decode cX7_fit 218 = .ok (.iload_n 2, 1) := by decide +kernel
theorem dX7_fit_219 : decode cX7_fit 219 = .ok (.if_icmp .ge 115, 3) := by decide +kernel
theorem dX7_fit_222 : decode cX7_fit 222 = .ok (.aload_n 0, 1) := by decide +kernel
theorem dX7_fit_223 : decode cX7_fit 223 = .ok (.getfield 85, 3) := by decide +kernel
theorem dX7_fit_226 : decode cX7_fit 226 = .ok (.iconst 5, 1) := by decide +kernel
theorem dX7_fit_227 : decode cX7_fit 227 = .ok (.iload 5, 2) := by decide +kernel
theorem dX7_fit_229 : decode cX7_fit 229 = .ok (.imul, 1) := by decide +kernel
theorem dX7_fit_230 : decode cX7_fit 230 = .ok (.iload 4, 2) := by decide +kernel
theorem dX7_fit_232 : decode cX7_fit 232 = .ok (.iadd, 1) := by decide +kernel
theorem dX7_fit_233 : decode cX7_fit 233 = .ok (.daload, 1) := by decide +kernel
theorem dX7_fit_234 : decode cX7_fit 234 = .ok (.aload_n 0, 1) := by decide +kernel
theorem dX7_fit_235 : decode cX7_fit 235 = .ok (.getfield 85, 3) := by decide +kernel
theorem dX7_fit_238 : decode cX7_fit 238 = .ok (.bipush 6, 2) := by decide +kernel
theorem dX7_fit_240 : decode cX7_fit 240 = .ok (.iload 4, 2) := by decide +kernel
theorem dX7_fit_242 : decode cX7_fit 242 = .ok (.imul, 1) := by decide +kernel
theorem dX7_fit_243 : decode cX7_fit 243 = .ok (.daload, 1) := by decide +kernel
theorem dX7_fit_244 : decode cX7_fit 244 = .ok (.ddiv, 1) := by decide +kernel
theorem dX7_fit_245 : decode cX7_fit 245 = .ok (.dstore 6, 2) := by decide +kernel
theorem dX7_fit_247 : decode cX7_fit 247 = .ok (.iload 4, 2) := by decide +kernel
theorem dX7_fit_249 : decode cX7_fit 249 = .ok (.istore 8, 2) := by decide +kernel
theorem dX7_fit_251 : decode cX7_fit 251 = .ok (.iload 8, 2) := by decide +kernel
theorem dX7_fit_253 : decode cX7_fit 253 = .ok (.iload_n 2, 1) := by decide +kernel
theorem dX7_fit_254 : decode cX7_fit 254 = .ok (.if_icmp .ge 49, 3) := by decide +kernel
theorem dX7_fit_257 : decode cX7_fit 257 = .ok (.aload_n 0, 1) := by decide +kernel
theorem dX7_fit_258 : decode cX7_fit 258 = .ok (.getfield 85, 3) := by decide +kernel
theorem dX7_fit_261 : decode cX7_fit 261 = .ok (.iconst 5, 1) := by decide +kernel
theorem dX7_fit_262 : decode cX7_fit 262 = .ok (.iload 5, 2) := by decide +kernel
theorem dX7_fit_264 : decode cX7_fit 264 = .ok (.imul, 1) := by decide +kernel
theorem dX7_fit_265 : decode cX7_fit 265 = .ok (.iload 8, 2) := by decide +kernel
theorem dX7_fit_267 : decode cX7_fit 267 = .ok (.iadd, 1) := by decide +kernel
theorem dX7_fit_268 : decode cX7_fit 268 = .ok (.aload_n 0, 1) := by decide +kernel
theorem dX7_fit_269 : decode cX7_fit 269 = .ok (.getfield 85, 3) := by decide +kernel
theorem dX7_fit_272 : decode cX7_fit 272 = .ok (.iconst 5, 1) := by decide +kernel
theorem dX7_fit_273 : decode cX7_fit 273 = .ok (.iload 5, 2) := by decide +kernel
theorem dX7_fit_275 : decode cX7_fit 275 = .ok (.imul, 1) := by decide +kernel
theorem dX7_fit_276 : decode cX7_fit 276 = .ok (.iload 8, 2) := by decide +kernel
theorem dX7_fit_278 : decode cX7_fit 278 = .ok (.iadd, 1) := by decide +kernel
theorem dX7_fit_279 : decode cX7_fit 279 = .ok (.daload, 1) := by decide +kernel
theorem dX7_fit_280 : decode cX7_fit 280 = .ok (.dload 6, 2) := by decide +kernel
theorem dX7_fit_282 : decode cX7_fit 282 = .ok (.aload_n 0, 1) := by decide +kernel
theorem dX7_fit_283 : decode cX7_fit 283 = .ok (.getfield 85, 3) := by decide +kernel
theorem dX7_fit_286 : decode cX7_fit 286 = .ok (.iconst 5, 1) := by decide +kernel
theorem dX7_fit_287 : decode cX7_fit 287 = .ok (.iload 4, 2) := by decide +kernel
theorem dX7_fit_289 : decode cX7_fit 289 = .ok (.imul, 1) := by decide +kernel
theorem dX7_fit_290 : decode cX7_fit 290 = .ok (.iload 8, 2) := by decide +kernel
theorem dX7_fit_292 : decode cX7_fit 292 = .ok (.iadd, 1) := by decide +kernel
theorem dX7_fit_293 : decode cX7_fit 293 = .ok (.daload, 1) := by decide +kernel
theorem dX7_fit_294 : decode cX7_fit 294 = .ok (.dmul, 1) := by decide +kernel
theorem dX7_fit_295 : decode cX7_fit 295 = .ok (.dsub, 1) := by decide +kernel
theorem dX7_fit_296 : decode cX7_fit 296 = .ok (.dastore, 1) := by decide +kernel
theorem dX7_fit_297 : decode cX7_fit 297 = .ok (.iinc 8 1, 3) := by decide +kernel
theorem dX7_fit_300 : decode cX7_fit 300 = .ok (.goto (-49), 3) := by decide +kernel
theorem dX7_fit_303 : decode cX7_fit 303 = .ok (.aload_n 0, 1) := by decide +kernel
theorem dX7_fit_304 : decode cX7_fit 304 = .ok (.getfield 88, 3) := by decide +kernel
theorem dX7_fit_307 : decode cX7_fit 307 = .ok (.iload 5, 2) := by decide +kernel
theorem dX7_fit_309 : decode cX7_fit 309 = .ok (.aload_n 0, 1) := by decide +kernel
theorem dX7_fit_310 : decode cX7_fit 310 = .ok (.getfield 88, 3) := by decide +kernel
theorem dX7_fit_313 : decode cX7_fit 313 = .ok (.iload 5, 2) := by decide +kernel
theorem dX7_fit_315 : decode cX7_fit 315 = .ok (.daload, 1) := by decide +kernel
theorem dX7_fit_316 : decode cX7_fit 316 = .ok (.dload 6, 2) := by decide +kernel
theorem dX7_fit_318 : decode cX7_fit 318 = .ok (.aload_n 0, 1) := by decide +kernel
theorem dX7_fit_319 : decode cX7_fit 319 = .ok (.getfield 88, 3) := by decide +kernel
theorem dX7_fit_322 : decode cX7_fit 322 = .ok (.iload 4, 2) := by decide +kernel
theorem dX7_fit_324 : decode cX7_fit 324 = .ok (.daload, 1) := by decide +kernel
theorem dX7_fit_325 : decode cX7_fit 325 = .ok (.dmul, 1) := by decide +kernel
theorem dX7_fit_326 : decode cX7_fit 326 = .ok (.dsub, 1) := by decide +kernel
theorem dX7_fit_327 : decode cX7_fit 327 = .ok (.dastore, 1) := by decide +kernel
theorem dX7_fit_328 : decode cX7_fit 328 = .ok (.iinc 5 1, 3) := by decide +kernel
theorem dX7_fit_331 : decode cX7_fit 331 = .ok (.goto (-115), 3) := by decide +kernel
theorem dX7_fit_334 : decode cX7_fit 334 = .ok (.iinc 4 1, 3) := by decide +kernel
theorem dX7_fit_337 : decode cX7_fit 337 = .ok (.goto (-156), 3) := by decide +kernel
theorem dX7_fit_340 : decode cX7_fit 340 = .ok (.iload_n 2, 1) := by decide +kernel
theorem dX7_fit_341 : decode cX7_fit 341 = .ok (.iconst 1, 1) := by decide +kernel
theorem dX7_fit_342 : decode cX7_fit 342 = .ok (.isub, 1) := by decide +kernel
theorem dX7_fit_343 : decode cX7_fit 343 = .ok (.istore 4, 2) := by decide +kernel
theorem dX7_fit_345 : decode cX7_fit 345 = .ok (.iload 4, 2) := by decide +kernel
theorem dX7_fit_347 : decode cX7_fit 347 = .ok (.ifCond .lt 105, 3) := by decide +kernel
theorem dX7_fit_350 : decode cX7_fit 350 = .ok (.aload_n 0, 1) := by decide +kernel
theorem dX7_fit_351 : decode cX7_fit 351 = .ok (.getfield 88, 3) := by decide +kernel
theorem dX7_fit_354 : decode cX7_fit 354 = .ok (.iload 4, 2) := by decide +kernel
theorem dX7_fit_356 : decode cX7_fit 356 = .ok (.daload, 1) := by decide +kernel
theorem dX7_fit_357 : decode cX7_fit 357 = .ok (.dstore 5, 2) := by decide +kernel
theorem dX7_fit_359 : decode cX7_fit 359 = .ok (.iload 4, 2) := by decide +kernel
theorem dX7_fit_361 : decode cX7_fit 361 = .ok (.iconst 1, 1) := by decide +kernel
theorem dX7_fit_362 : decode cX7_fit 362 = .ok (.iadd, 1) := by decide +kernel
theorem dX7_fit_363 : decode cX7_fit 363 = .ok (.istore 7, 2) := by decide +kernel
theorem dX7_fit_365 : decode cX7_fit 365 = .ok (.iload 7, 2) := by decide +kernel
theorem dX7_fit_367 : decode cX7_fit 367 = .ok (.iload_n 2, 1) := by decide +kernel
theorem dX7_fit_368 : decode cX7_fit 368 = .ok (.if_icmp .ge 34, 3) := by decide +kernel
theorem dX7_fit_371 : decode cX7_fit 371 = .ok (.dload 5, 2) := by decide +kernel
theorem dX7_fit_373 : decode cX7_fit 373 = .ok (.aload_n 0, 1) := by decide +kernel
theorem dX7_fit_374 : decode cX7_fit 374 = .ok (.getfield 85, 3) := by decide +kernel
theorem dX7_fit_377 : decode cX7_fit 377 = .ok (.iconst 5, 1) := by decide +kernel
theorem dX7_fit_378 : decode cX7_fit 378 = .ok (.iload 4, 2) := by decide +kernel
theorem dX7_fit_380 : decode cX7_fit 380 = .ok (.imul, 1) := by decide +kernel
theorem dX7_fit_381 : decode cX7_fit 381 = .ok (.iload 7, 2) := by decide +kernel
theorem dX7_fit_383 : decode cX7_fit 383 = .ok (.iadd, 1) := by decide +kernel
theorem dX7_fit_384 : decode cX7_fit 384 = .ok (.daload, 1) := by decide +kernel
theorem dX7_fit_385 : decode cX7_fit 385 = .ok (.aload_n 0, 1) := by decide +kernel
theorem dX7_fit_386 : decode cX7_fit 386 = .ok (.getfield 91, 3) := by decide +kernel
theorem dX7_fit_389 : decode cX7_fit 389 = .ok (.iload 7, 2) := by decide +kernel
theorem dX7_fit_391 : decode cX7_fit 391 = .ok (.daload, 1) := by decide +kernel
theorem dX7_fit_392 : decode cX7_fit 392 = .ok (.dmul, 1) := by decide +kernel
theorem dX7_fit_393 : decode cX7_fit 393 = .ok (.dsub, 1) := by decide +kernel
theorem dX7_fit_394 : decode cX7_fit 394 = .ok (.dstore 5, 2) := by decide +kernel
theorem dX7_fit_396 : decode cX7_fit 396 = .ok (.iinc 7 1, 3) := by decide +kernel
theorem dX7_fit_399 : decode cX7_fit 399 = .ok (.goto (-34), 3) := by decide +kernel
theorem dX7_fit_402 : decode cX7_fit 402 = .ok (.aload_n 0, 1) := by decide +kernel
theorem dX7_fit_403 : decode cX7_fit 403 = .ok (.getfield 91, 3) := by decide +kernel
theorem dX7_fit_406 : decode cX7_fit 406 = .ok (.iload 4, 2) := by decide +kernel
theorem dX7_fit_408 : decode cX7_fit 408 = .ok (.aload_n 0, 1) := by decide +kernel
theorem dX7_fit_409 : decode cX7_fit 409 = .ok (.getfield 85, 3) := by decide +kernel
theorem dX7_fit_412 : decode cX7_fit 412 = .ok (.bipush 6, 2) := by decide +kernel
theorem dX7_fit_414 : decode cX7_fit 414 = .ok (.iload 4, 2) := by decide +kernel
theorem dX7_fit_416 : decode cX7_fit 416 = .ok (.imul, 1) := by decide +kernel
theorem dX7_fit_417 : decode cX7_fit 417 = .ok (.daload, 1) := by decide +kernel
theorem dX7_fit_418 : decode cX7_fit 418 = .ok (.invokestatic 210, 3) := by decide +kernel
theorem dX7_fit_421 : decode cX7_fit 421 = .ok (.ldc2_w 308, 3) := by decide +kernel
theorem dX7_fit_424 : decode cX7_fit 424 = .ok (.dcmp .l, 1) := by decide +kernel
theorem dX7_fit_425 : decode cX7_fit 425 = .ok (.ifCond .le 19, 3) := by decide +kernel
theorem dX7_fit_428 : decode cX7_fit 428 = .ok (.dload 5, 2) := by decide +kernel
theorem dX7_fit_430 : decode cX7_fit 430 = .ok (.aload_n 0, 1) := by decide +kernel
theorem dX7_fit_431 : decode cX7_fit 431 = .ok (.getfield 85, 3) := by decide +kernel
theorem dX7_fit_434 : decode cX7_fit 434 = .ok (.bipush 6, 2) := by decide +kernel
theorem dX7_fit_436 : decode cX7_fit 436 = .ok (.iload 4, 2) := by decide +kernel
theorem dX7_fit_438 : decode cX7_fit 438 = .ok (.imul, 1) := by decide +kernel
theorem dX7_fit_439 : decode cX7_fit 439 = .ok (.daload, 1) := by decide +kernel
theorem dX7_fit_440 : decode cX7_fit 440 = .ok (.ddiv, 1) := by decide +kernel
theorem dX7_fit_441 : decode cX7_fit 441 = .ok (.goto 4, 3) := by decide +kernel
theorem dX7_fit_444 : decode cX7_fit 444 = .ok (.dconst 0, 1) := by decide +kernel
theorem dX7_fit_445 : decode cX7_fit 445 = .ok (.dastore, 1) := by decide +kernel
theorem dX7_fit_446 : decode cX7_fit 446 = .ok (.iinc 4 (-1), 3) := by decide +kernel
theorem dX7_fit_449 : decode cX7_fit 449 = .ok (.goto (-104), 3) := by decide +kernel
theorem dX7_fit_452 : decode cX7_fit 452 = .ok (.aload_n 0, 1) := by decide +kernel
theorem dX7_fit_453 : decode cX7_fit 453 = .ok (.iload_n 2, 1) := by decide +kernel
theorem dX7_fit_454 : decode cX7_fit 454 = .ok (.putfield 310, 3) := by decide +kernel
theorem dX7_fit_457 : decode cX7_fit 457 = .ok (.iload_n 3, 1) := by decide +kernel
theorem dX7_fit_458 : decode cX7_fit 458 = .ok (.ireturn, 1) := by decide +kernel
theorem dX7_tide_0 : decode cX7_tide 0 = .ok (.aload_n 0, 1) := by decide +kernel
theorem dX7_tide_1 : decode cX7_tide 1 = .ok (.getfield 310, 3) := by decide +kernel
theorem dX7_tide_4 : decode cX7_tide 4 = .ok (.ifCond .eq 14, 3) := by decide +kernel
theorem dX7_tide_7 : decode cX7_tide 7 = .ok (.dload_n 1, 1) := by decide +kernel
theorem dX7_tide_8 : decode cX7_tide 8 = .ok (.dconst 0, 1) := by decide +kernel
theorem dX7_tide_9 : decode cX7_tide 9 = .ok (.ldc2_w 150, 3) := by decide +kernel
theorem dX7_tide_12 : decode cX7_tide 12 = .ok (.invokestatic 152, 3) := by decide +kernel
theorem dX7_tide_15 : decode cX7_tide 15 = .ok (.ifCond .ne 5, 3) := by decide +kernel
theorem dX7_tide_18 : decode cX7_tide 18 = .ok (.dconst 0, 1) := by decide +kernel
theorem dX7_tide_19 : decode cX7_tide 19 = .ok (.dreturn, 1) := by decide +kernel
theorem dX7_tide_20 : decode cX7_tide 20 = .ok (.aload_n 0, 1) := by decide +kernel
theorem dX7_tide_21 : decode cX7_tide 21 = .ok (.getfield 91, 3) := by decide +kernel
theorem dX7_tide_24 : decode cX7_tide 24 = .ok (.iconst 0, 1) := by decide +kernel
theorem dX7_tide_25 : decode cX7_tide 25 = .ok (.daload, 1) := by decide +kernel
theorem dX7_tide_26 : decode cX7_tide 26 = .ok (.dstore_n 3, 1) := by decide +kernel
theorem dX7_tide_27 : decode cX7_tide 27 = .ok (.iconst 1, 1) := by decide +kernel
theorem dX7_tide_28 : decode cX7_tide 28 = .ok (.istore 5, 2) := by decide +kernel
theorem dX7_tide_30 : decode cX7_tide 30 = .ok (.iload 5, 2) := by decide +kernel
theorem dX7_tide_32 : decode cX7_tide 32 = .ok (.aload_n 0, 1) := by decide +kernel
theorem dX7_tide_33 : decode cX7_tide 33 = .ok (.getfield 310, 3) := by decide +kernel
theorem dX7_tide_36 : decode cX7_tide 36 = .ok (.if_icmp .ge 26, 3) := by decide +kernel
theorem dX7_tide_39 : decode cX7_tide 39 = .ok (.dload_n 3, 1) := by decide +kernel
theorem dX7_tide_40 : decode cX7_tide 40 = .ok (.aload_n 0, 1) := by decide +kernel
theorem dX7_tide_41 : decode cX7_tide 41 = .ok (.getfield 91, 3) := by decide +kernel
theorem dX7_tide_44 : decode cX7_tide 44 = .ok (.iload 5, 2) := by decide +kernel
theorem dX7_tide_46 : decode cX7_tide 46 = .ok (.daload, 1) := by decide +kernel
theorem dX7_tide_47 : decode cX7_tide 47 = .ok (.iload 5, 2) := by decide +kernel
theorem dX7_tide_49 : decode cX7_tide 49 = .ok (.dload_n 1, 1) := by decide +kernel
theorem dX7_tide_50 : decode cX7_tide 50 = .ok (.invokestatic 304, 3) := by decide +kernel
theorem dX7_tide_53 : decode cX7_tide 53 = .ok (.dmul, 1) := by decide +kernel
theorem dX7_tide_54 : decode cX7_tide 54 = .ok (.dadd, 1) := by decide +kernel
theorem dX7_tide_55 : decode cX7_tide 55 = .ok (.dstore_n 3, 1) := by decide +kernel
theorem dX7_tide_56 : decode cX7_tide 56 = .ok (.iinc 5 1, 3) := by decide +kernel
theorem dX7_tide_59 : decode cX7_tide 59 = .ok (.goto (-29), 3) := by decide +kernel
theorem dX7_tide_62 : decode cX7_tide 62 = .ok (.dload_n 3, 1) := by decide +kernel
theorem dX7_tide_63 : decode cX7_tide 63 = .ok (.dreturn, 1) := by decide +kernel
theorem dX7_save_0 : decode cX7_save 0 = .ok (.aload_n 0, 1) := by decide +kernel
theorem dX7_save_1 : decode cX7_save 1 = .ok (.getfield 313, 3) := by decide +kernel
theorem dX7_save_4 : decode cX7_save 4 = .ok (.iconst 4, 1) := by decide +kernel
theorem dX7_save_5 : decode cX7_save 5 = .ok (.if_icmp .ne 5, 3) := by decide +kernel
theorem dX7_save_8 : decode cX7_save 8 = .ok (.iconst (-1), 1) := by decide +kernel
theorem dX7_save_9 : decode cX7_save 9 = .ok (.ireturn, 1) := by decide +kernel
theorem dX7_save_10 : decode cX7_save 10 = .ok (.iconst 0, 1) := by decide +kernel
theorem dX7_save_11 : decode cX7_save 11 = .ok (.istore_n 1, 1) := by decide +kernel
theorem dX7_save_12 : decode cX7_save 12 = .ok (.iload_n 1, 1) := by decide +kernel
theorem dX7_save_13 : decode cX7_save 13 = .ok (.sipush 144, 3) := by decide +kernel
theorem dX7_save_16 : decode cX7_save 16 = .ok (.if_icmp .ge 93, 3) := by decide +kernel
theorem dX7_save_19 : decode cX7_save 19 = .ok (.aload_n 0, 1) := by decide +kernel
theorem dX7_save_20 : decode cX7_save 20 = .ok (.getfield 97, 3) := by decide +kernel
theorem dX7_save_23 : decode cX7_save 23 = .ok (.sipush 144, 3) := by decide +kernel
theorem dX7_save_26 : decode cX7_save 26 = .ok (.aload_n 0, 1) := by decide +kernel
theorem dX7_save_27 : decode cX7_save 27 = .ok (.getfield 313, 3) := by decide +kernel
theorem dX7_save_30 : decode cX7_save 30 = .ok (.imul, 1) := by decide +kernel
theorem dX7_save_31 : decode cX7_save 31 = .ok (.iload_n 1, 1) := by decide +kernel
theorem dX7_save_32 : decode cX7_save 32 = .ok (.iadd, 1) := by decide +kernel
theorem dX7_save_33 : decode cX7_save 33 = .ok (.aload_n 0, 1) := by decide +kernel
theorem dX7_save_34 : decode cX7_save 34 = .ok (.getfield 20, 3) := by decide +kernel
theorem dX7_save_37 : decode cX7_save 37 = .ok (.iload_n 1, 1) := by decide +kernel
theorem dX7_save_38 : decode cX7_save 38 = .ok (.laload, 1) := by decide +kernel
theorem dX7_save_39 : decode cX7_save 39 = .ok (.lastore, 1) := by decide +kernel
theorem dX7_save_40 : decode cX7_save 40 = .ok (.aload_n 0, 1) := by decide +kernel
theorem dX7_save_41 : decode cX7_save 41 = .ok (.getfield 100, 3) := by decide +kernel
theorem dX7_save_44 : decode cX7_save 44 = .ok (.sipush 144, 3) := by decide +kernel
theorem dX7_save_47 : decode cX7_save 47 = .ok (.aload_n 0, 1) := by decide +kernel
theorem dX7_save_48 : decode cX7_save 48 = .ok (.getfield 313, 3) := by decide +kernel
theorem dX7_save_51 : decode cX7_save 51 = .ok (.imul, 1) := by decide +kernel
theorem dX7_save_52 : decode cX7_save 52 = .ok (.iload_n 1, 1) := by decide +kernel
theorem dX7_save_53 : decode cX7_save 53 = .ok (.iadd, 1) := by decide +kernel
theorem dX7_save_54 : decode cX7_save 54 = .ok (.aload_n 0, 1) := by decide +kernel
theorem dX7_save_55 : decode cX7_save 55 = .ok (.getfield 24, 3) := by decide +kernel
theorem dX7_save_58 : decode cX7_save 58 = .ok (.iload_n 1, 1) := by decide +kernel
theorem dX7_save_59 : decode cX7_save 59 = .ok (.daload, 1) := by decide +kernel
theorem dX7_save_60 : decode cX7_save 60 = .ok (.dastore, 1) := by decide +kernel
theorem dX7_save_61 : decode cX7_save 61 = .ok (.aload_n 0, 1) := by decide +kernel
theorem dX7_save_62 : decode cX7_save 62 = .ok (.getfield 103, 3) := by decide +kernel
theorem dX7_save_65 : decode cX7_save 65 = .ok (.sipush 144, 3) := by decide +kernel
theorem dX7_save_68 : decode cX7_save 68 = .ok (.aload_n 0, 1) := by decide +kernel
theorem dX7_save_69 : decode cX7_save 69 = .ok (.getfield 313, 3) := by decide +kernel
theorem dX7_save_72 : decode cX7_save 72 = .ok (.imul, 1) := by decide +kernel
theorem dX7_save_73 : decode cX7_save 73 = .ok (.iload_n 1, 1) := by decide +kernel
theorem dX7_save_74 : decode cX7_save 74 = .ok (.iadd, 1) := by decide +kernel
theorem dX7_save_75 : decode cX7_save 75 = .ok (.aload_n 0, 1) := by decide +kernel
theorem dX7_save_76 : decode cX7_save 76 = .ok (.getfield 27, 3) := by decide +kernel
theorem dX7_save_79 : decode cX7_save 79 = .ok (.iload_n 1, 1) := by decide +kernel
theorem dX7_save_80 : decode cX7_save 80 = .ok (.daload, 1) := by decide +kernel
theorem dX7_save_81 : decode cX7_save 81 = .ok (.dastore, 1) := by decide +kernel
theorem dX7_save_82 : decode cX7_save 82 = .ok (.aload_n 0, 1) := by decide +kernel
theorem dX7_save_83 : decode cX7_save 83 = .ok (.getfield 106, 3) := by decide +kernel
theorem dX7_save_86 : decode cX7_save 86 = .ok (.sipush 144, 3) := by decide +kernel
theorem dX7_save_89 : decode cX7_save 89 = .ok (.aload_n 0, 1) := by decide +kernel
theorem dX7_save_90 : decode cX7_save 90 = .ok (.getfield 313, 3) := by decide +kernel
theorem dX7_save_93 : decode cX7_save 93 = .ok (.imul, 1) := by decide +kernel
theorem dX7_save_94 : decode cX7_save 94 = .ok (.iload_n 1, 1) := by decide +kernel
theorem dX7_save_95 : decode cX7_save 95 = .ok (.iadd, 1) := by decide +kernel
theorem dX7_save_96 : decode cX7_save 96 = .ok (.aload_n 0, 1) := by decide +kernel
theorem dX7_save_97 : decode cX7_save 97 = .ok (.getfield 30, 3) := by decide +kernel
theorem dX7_save_100 : decode cX7_save 100 = .ok (.iload_n 1, 1) := by decide +kernel
theorem dX7_save_101 : decode cX7_save 101 = .ok (.daload, 1) := by decide +kernel
theorem dX7_save_102 : decode cX7_save 102 = .ok (.dastore, 1) := by decide +kernel
theorem dX7_save_103 : decode cX7_save 103 = .ok (.iinc 1 1, 3) := by decide +kernel
theorem dX7_save_106 : decode cX7_save 106 = .ok (.goto (-94), 3) := by decide +kernel
theorem dX7_save_109 : decode cX7_save 109 = .ok (.iconst 0, 1) := by decide +kernel
theorem dX7_save_110 : decode cX7_save 110 = .ok (.istore_n 1, 1) := by decide +kernel
theorem dX7_save_111 : decode cX7_save 111 = .ok (.iload_n 1, 1) := by decide +kernel
theorem dX7_save_112 : decode cX7_save 112 = .ok (.sipush 336, 3) := by decide +kernel
theorem dX7_save_115 : decode cX7_save 115 = .ok (.if_icmp .ge 30, 3) := by decide +kernel
theorem dX7_save_118 : decode cX7_save 118 = .ok (.aload_n 0, 1) := by decide +kernel
theorem dX7_save_119 : decode cX7_save 119 = .ok (.getfield 109, 3) := by decide +kernel
theorem dX7_save_122 : decode cX7_save 122 = .ok (.sipush 336, 3) := by decide +kernel
theorem dX7_save_125 : decode cX7_save 125 = .ok (.aload_n 0, 1) := by decide +kernel
theorem dX7_save_126 : decode cX7_save 126 = .ok (.getfield 313, 3) := by decide +kernel
theorem dX7_save_129 : decode cX7_save 129 = .ok (.imul, 1) := by decide +kernel
theorem dX7_save_130 : decode cX7_save 130 = .ok (.iload_n 1, 1) := by decide +kernel
theorem dX7_save_131 : decode cX7_save 131 = .ok (.iadd, 1) := by decide +kernel
theorem dX7_save_132 : decode cX7_save 132 = .ok (.aload_n 0, 1) := by decide +kernel
theorem dX7_save_133 : decode cX7_save 133 = .ok (.getfield 33, 3) := by decide +kernel
theorem dX7_save_136 : decode cX7_save 136 = .ok (.iload_n 1, 1) := by decide +kernel
theorem dX7_save_137 : decode cX7_save 137 = .ok (.daload, 1) := by decide +kernel
theorem dX7_save_138 : decode cX7_save 138 = .ok (.dastore, 1) := by decide +kernel
theorem dX7_save_139 : decode cX7_save 139 = .ok (.iinc 1 1, 3) := by decide +kernel
theorem dX7_save_142 : decode cX7_save 142 = .ok (.goto (-31), 3) := by decide +kernel
theorem dX7_save_145 : decode cX7_save 145 = .ok (.iconst 0, 1) := by decide +kernel
theorem dX7_save_146 : decode cX7_save 146 = .ok (.istore_n 1, 1) := by decide +kernel
theorem dX7_save_147 : decode cX7_save 147 = .ok (.iload_n 1, 1) := by decide +kernel
theorem dX7_save_148 : decode cX7_save 148 = .ok (.iconst 4, 1) := by decide +kernel
theorem dX7_save_149 : decode cX7_save 149 = .ok (.if_icmp .ge 28, 3) := by decide +kernel
theorem dX7_save_152 : decode cX7_save 152 = .ok (.aload_n 0, 1) := by decide +kernel
theorem dX7_save_153 : decode cX7_save 153 = .ok (.getfield 112, 3) := by decide +kernel
theorem dX7_save_156 : decode cX7_save 156 = .ok (.iconst 4, 1) := by decide +kernel
theorem dX7_save_157 : decode cX7_save 157 = .ok (.aload_n 0, 1) := by decide +kernel
theorem dX7_save_158 : decode cX7_save 158 = .ok (.getfield 313, 3) := by decide +kernel
theorem dX7_save_161 : decode cX7_save 161 = .ok (.imul, 1) := by decide +kernel
theorem dX7_save_162 : decode cX7_save 162 = .ok (.iload_n 1, 1) := by decide +kernel
theorem dX7_save_163 : decode cX7_save 163 = .ok (.iadd, 1) := by decide +kernel
theorem dX7_save_164 : decode cX7_save 164 = .ok (.aload_n 0, 1) := by decide +kernel
theorem dX7_save_165 : decode cX7_save 165 = .ok (.getfield 36, 3) := by decide +kernel
theorem dX7_save_168 : decode cX7_save 168 = .ok (.iload_n 1, 1) := by decide +kernel
theorem dX7_save_169 : decode cX7_save 169 = .ok (.laload, 1) := by decide +kernel
theorem dX7_save_170 : decode cX7_save 170 = .ok (.lastore, 1) := by decide +kernel
theorem dX7_save_171 : decode cX7_save 171 = .ok (.iinc 1 1, 3) := by decide +kernel
theorem dX7_save_174 : decode cX7_save 174 = .ok (.goto (-27), 3) := by decide +kernel
theorem dX7_save_177 : decode cX7_save 177 = .ok (.aload_n 0, 1) := by decide +kernel
theorem dX7_save_178 : decode cX7_save 178 = .ok (.getfield 115, 3) := by decide +kernel
theorem dX7_save_181 : decode cX7_save 181 = .ok (.aload_n 0, 1) := by decide +kernel
theorem dX7_save_182 : decode cX7_save 182 = .ok (.getfield 313, 3) := by decide +kernel
theorem dX7_save_185 : decode cX7_save 185 = .ok (.aload_n 0, 1) := by decide +kernel
theorem dX7_save_186 : decode cX7_save 186 = .ok (.getfield 261, 3) := by decide +kernel
theorem dX7_save_189 : decode cX7_save 189 = .ok (.lastore, 1) := by decide +kernel
theorem dX7_save_190 : decode cX7_save 190 = .ok (.aload_n 0, 1) := by decide +kernel
theorem dX7_save_191 : decode cX7_save 191 = .ok (.getfield 118, 3) := by decide +kernel
theorem dX7_save_194 : decode cX7_save 194 = .ok (.aload_n 0, 1) := by decide +kernel
theorem dX7_save_195 : decode cX7_save 195 = .ok (.getfield 313, 3) := by decide +kernel
theorem dX7_save_198 : decode cX7_save 198 = .ok (.aload_n 0, 1) := by decide +kernel
theorem dX7_save_199 : decode cX7_save 199 = .ok (.getfield 186, 3) := by decide +kernel
theorem dX7_save_202 : decode cX7_save 202 = .ok (.dastore, 1) := by decide +kernel
theorem dX7_save_203 : decode cX7_save 203 = .ok (.aload_n 0, 1) := by decide +kernel
theorem dX7_save_204 : decode cX7_save 204 = .ok (.getfield 94, 3) := by decide +kernel
theorem dX7_save_207 : decode cX7_save 207 = .ok (.aload_n 0, 1) := by decide +kernel
theorem dX7_save_208 : decode cX7_save 208 = .ok (.getfield 313, 3) := by decide +kernel
theorem dX7_save_211 : decode cX7_save 211 = .ok (.aload_n 0, 1) := by decide +kernel
theorem dX7_save_212 : decode cX7_save 212 = .ok (.getfield 171, 3) := by decide +kernel
theorem dX7_save_215 : decode cX7_save 215 = .ok (.iastore, 1) := by decide +kernel
theorem dX7_save_216 : decode cX7_save 216 = .ok (.aload_n 0, 1) := by decide +kernel
theorem dX7_save_217 : decode cX7_save 217 = .ok (.dup, 1) := by decide +kernel
theorem dX7_save_218 : decode cX7_save 218 = .ok (.getfield 313, 3) := by decide +kernel
theorem dX7_save_221 : decode cX7_save 221 = .ok (.iconst 1, 1) := by decide +kernel
theorem dX7_save_222 : decode cX7_save 222 = .ok (.iadd, 1) := by decide +kernel
theorem dX7_save_223 : decode cX7_save 223 = .ok (.putfield 313, 3) := by decide +kernel
theorem dX7_save_226 : decode cX7_save 226 = .ok (.aload_n 0, 1) := by decide +kernel
theorem dX7_save_227 : decode cX7_save 227 = .ok (.getfield 313, 3) := by decide +kernel
theorem dX7_save_230 : decode cX7_save 230 = .ok (.iconst 1, 1) := by decide +kernel
theorem dX7_save_231 : decode cX7_save 231 = .ok (.isub, 1) := by decide +kernel
theorem dX7_save_232 : decode cX7_save 232 = .ok (.ireturn, 1) := by decide +kernel
theorem dX7_back_0 : decode cX7_back 0 = .ok (.iload_n 1, 1) := by decide +kernel
theorem dX7_back_1 : decode cX7_back 1 = .ok (.ifCond .lt 24, 3) := by decide +kernel
theorem dX7_back_4 : decode cX7_back 4 = .ok (.iload_n 1, 1) := by decide +kernel
theorem dX7_back_5 : decode cX7_back 5 = .ok (.aload_n 0, 1) := by decide +kernel
theorem dX7_back_6 : decode cX7_back 6 = .ok (.getfield 313, 3) := by decide +kernel
theorem dX7_back_9 : decode cX7_back 9 = .ok (.if_icmp .ge 16, 3) := by decide +kernel
theorem dX7_back_12 : decode cX7_back 12 = .ok (.aload_n 0, 1) := by decide +kernel
theorem dX7_back_13 : decode cX7_back 13 = .ok (.getfield 94, 3) := by decide +kernel
theorem dX7_back_16 : decode cX7_back 16 = .ok (.iload_n 1, 1) := by decide +kernel
theorem dX7_back_17 : decode cX7_back 17 = .ok (.iaload, 1) := by decide +kernel
theorem dX7_back_18 : decode cX7_back 18 = .ok (.aload_n 0, 1) := by decide +kernel
theorem dX7_back_19 : decode cX7_back 19 = .ok (.getfield 171, 3) := by decide +kernel
theorem dX7_back_22 : decode cX7_back 22 = .ok (.if_icmp .eq 5, 3) := by decide +kernel
theorem dX7_back_25 : decode cX7_back 25 = .ok (.iconst 0, 1) := by decide +kernel
theorem dX7_back_26 : decode cX7_back 26 = .ok (.ireturn, 1) := by decide +kernel
theorem dX7_back_27 : decode cX7_back 27 = .ok (.iconst 0, 1) := by decide +kernel
theorem dX7_back_28 : decode cX7_back 28 = .ok (.istore_n 2, 1) := by decide +kernel
theorem dX7_back_29 : decode cX7_back 29 = .ok (.iload_n 2, 1) := by decide +kernel
theorem dX7_back_30 : decode cX7_back 30 = .ok (.sipush 144, 3) := by decide +kernel
theorem dX7_back_33 : decode cX7_back 33 = .ok (.if_icmp .ge 81, 3) := by decide +kernel
theorem dX7_back_36 : decode cX7_back 36 = .ok (.aload_n 0, 1) := by decide +kernel
theorem dX7_back_37 : decode cX7_back 37 = .ok (.getfield 20, 3) := by decide +kernel
theorem dX7_back_40 : decode cX7_back 40 = .ok (.iload_n 2, 1) := by decide +kernel
theorem dX7_back_41 : decode cX7_back 41 = .ok (.aload_n 0, 1) := by decide +kernel
theorem dX7_back_42 : decode cX7_back 42 = .ok (.getfield 97, 3) := by decide +kernel
theorem dX7_back_45 : decode cX7_back 45 = .ok (.sipush 144, 3) := by decide +kernel
theorem dX7_back_48 : decode cX7_back 48 = .ok (.iload_n 1, 1) := by decide +kernel
theorem dX7_back_49 : decode cX7_back 49 = .ok (.imul, 1) := by decide +kernel
theorem dX7_back_50 : decode cX7_back 50 = .ok (.iload_n 2, 1) := by decide +kernel
theorem dX7_back_51 : decode cX7_back 51 = .ok (.iadd, 1) := by decide +kernel
theorem dX7_back_52 : decode cX7_back 52 = .ok (.laload, 1) := by decide +kernel
theorem dX7_back_53 : decode cX7_back 53 = .ok (.lastore, 1) := by decide +kernel
theorem dX7_back_54 : decode cX7_back 54 = .ok (.aload_n 0, 1) := by decide +kernel
theorem dX7_back_55 : decode cX7_back 55 = .ok (.getfield 24, 3) := by decide +kernel
theorem dX7_back_58 : decode cX7_back 58 = .ok (.iload_n 2, 1) := by decide +kernel
theorem dX7_back_59 : decode cX7_back 59 = .ok (.aload_n 0, 1) := by decide +kernel
theorem dX7_back_60 : decode cX7_back 60 = .ok (.getfield 100, 3) := by decide +kernel
theorem dX7_back_63 : decode cX7_back 63 = .ok (.sipush 144, 3) := by decide +kernel
theorem dX7_back_66 : decode cX7_back 66 = .ok (.iload_n 1, 1) := by decide +kernel
theorem dX7_back_67 : decode cX7_back 67 = .ok (.imul, 1) := by decide +kernel
theorem dX7_back_68 : decode cX7_back 68 = .ok (.iload_n 2, 1) := by decide +kernel
theorem dX7_back_69 : decode cX7_back 69 = .ok (.iadd, 1) := by decide +kernel
theorem dX7_back_70 : decode cX7_back 70 = .ok (.daload, 1) := by decide +kernel
theorem dX7_back_71 : decode cX7_back 71 = .ok (.dastore, 1) := by decide +kernel
theorem dX7_back_72 : decode cX7_back 72 = .ok (.aload_n 0, 1) := by decide +kernel
theorem dX7_back_73 : decode cX7_back 73 = .ok (.getfield 27, 3) := by decide +kernel
theorem dX7_back_76 : decode cX7_back 76 = .ok (.iload_n 2, 1) := by decide +kernel
theorem dX7_back_77 : decode cX7_back 77 = .ok (.aload_n 0, 1) := by decide +kernel
theorem dX7_back_78 : decode cX7_back 78 = .ok (.getfield 103, 3) := by decide +kernel
theorem dX7_back_81 : decode cX7_back 81 = .ok (.sipush 144, 3) := by decide +kernel
theorem dX7_back_84 : decode cX7_back 84 = .ok (.iload_n 1, 1) := by decide +kernel
theorem dX7_back_85 : decode cX7_back 85 = .ok (.imul, 1) := by decide +kernel
theorem dX7_back_86 : decode cX7_back 86 = .ok (.iload_n 2, 1) := by decide +kernel
theorem dX7_back_87 : decode cX7_back 87 = .ok (.iadd, 1) := by decide +kernel
theorem dX7_back_88 : decode cX7_back 88 = .ok (.daload, 1) := by decide +kernel
theorem dX7_back_89 : decode cX7_back 89 = .ok (.dastore, 1) := by decide +kernel
theorem dX7_back_90 : decode cX7_back 90 = .ok (.aload_n 0, 1) := by decide +kernel
theorem dX7_back_91 : decode cX7_back 91 = .ok (.getfield 30, 3) := by decide +kernel
theorem dX7_back_94 : decode cX7_back 94 = .ok (.iload_n 2, 1) := by decide +kernel
theorem dX7_back_95 : decode cX7_back 95 = .ok (.aload_n 0, 1) := by decide +kernel
theorem dX7_back_96 : decode cX7_back 96 = .ok (.getfield 106, 3) := by decide +kernel
theorem dX7_back_99 : decode cX7_back 99 = .ok (.sipush 144, 3) := by decide +kernel
theorem dX7_back_102 : decode cX7_back 102 = .ok (.iload_n 1, 1) := by decide +kernel
theorem dX7_back_103 : decode cX7_back 103 = .ok (.imul, 1) := by decide +kernel
theorem dX7_back_104 : decode cX7_back 104 = .ok (.iload_n 2, 1) := by decide +kernel
theorem dX7_back_105 : decode cX7_back 105 = .ok (.iadd, 1) := by decide +kernel
theorem dX7_back_106 : decode cX7_back 106 = .ok (.daload, 1) := by decide +kernel
theorem dX7_back_107 : decode cX7_back 107 = .ok (.dastore, 1) := by decide +kernel
theorem dX7_back_108 : decode cX7_back 108 = .ok (.iinc 2 1, 3) := by decide +kernel
theorem dX7_back_111 : decode cX7_back 111 = .ok (.goto (-82), 3) := by decide +kernel
theorem dX7_back_114 : decode cX7_back 114 = .ok (.iconst 0, 1) := by decide +kernel
theorem dX7_back_115 : decode cX7_back 115 = .ok (.istore_n 2, 1) := by decide +kernel
theorem dX7_back_116 : decode cX7_back 116 = .ok (.iload_n 2, 1) := by decide +kernel
theorem dX7_back_117 : decode cX7_back 117 = .ok (.sipush 336, 3) := by decide +kernel
theorem dX7_back_120 : decode cX7_back 120 = .ok (.if_icmp .ge 27, 3) := by decide +kernel
theorem dX7_back_123 : decode cX7_back 123 = .ok (.aload_n 0, 1) := by decide +kernel
theorem dX7_back_124 : decode cX7_back 124 = .ok (.getfield 33, 3) := by decide +kernel
theorem dX7_back_127 : decode cX7_back 127 = .ok (.iload_n 2, 1) := by decide +kernel
theorem dX7_back_128 : decode cX7_back 128 = .ok (.aload_n 0, 1) := by decide +kernel
theorem dX7_back_129 : decode cX7_back 129 = .ok (.getfield 109, 3) := by decide +kernel
theorem dX7_back_132 : decode cX7_back 132 = .ok (.sipush 336, 3) := by decide +kernel
theorem dX7_back_135 : decode cX7_back 135 = .ok (.iload_n 1, 1) := by decide +kernel
theorem dX7_back_136 : decode cX7_back 136 = .ok (.imul, 1) := by decide +kernel
theorem dX7_back_137 : decode cX7_back 137 = .ok (.iload_n 2, 1) := by decide +kernel
theorem dX7_back_138 : decode cX7_back 138 = .ok (.iadd, 1) := by decide +kernel
theorem dX7_back_139 : decode cX7_back 139 = .ok (.daload, 1) := by decide +kernel
theorem dX7_back_140 : decode cX7_back 140 = .ok (.dastore, 1) := by decide +kernel
theorem dX7_back_141 : decode cX7_back 141 = .ok (.iinc 2 1, 3) := by decide +kernel
theorem dX7_back_144 : decode cX7_back 144 = .ok (.goto (-28), 3) := by decide +kernel
theorem dX7_back_147 : decode cX7_back 147 = .ok (.iconst 0, 1) := by decide +kernel
theorem dX7_back_148 : decode cX7_back 148 = .ok (.istore_n 2, 1) := by decide +kernel
theorem dX7_back_149 : decode cX7_back 149 = .ok (.iload_n 2, 1) := by decide +kernel
theorem dX7_back_150 : decode cX7_back 150 = .ok (.iconst 4, 1) := by decide +kernel
theorem dX7_back_151 : decode cX7_back 151 = .ok (.if_icmp .ge 25, 3) := by decide +kernel
theorem dX7_back_154 : decode cX7_back 154 = .ok (.aload_n 0, 1) := by decide +kernel
theorem dX7_back_155 : decode cX7_back 155 = .ok (.getfield 36, 3) := by decide +kernel
theorem dX7_back_158 : decode cX7_back 158 = .ok (.iload_n 2, 1) := by decide +kernel
theorem dX7_back_159 : decode cX7_back 159 = .ok (.aload_n 0, 1) := by decide +kernel
theorem dX7_back_160 : decode cX7_back 160 = .ok (.getfield 112, 3) := by decide +kernel
theorem dX7_back_163 : decode cX7_back 163 = .ok (.iconst 4, 1) := by decide +kernel
theorem dX7_back_164 : decode cX7_back 164 = .ok (.iload_n 1, 1) := by decide +kernel
theorem dX7_back_165 : decode cX7_back 165 = .ok (.imul, 1) := by decide +kernel
theorem dX7_back_166 : decode cX7_back 166 = .ok (.iload_n 2, 1) := by decide +kernel
theorem dX7_back_167 : decode cX7_back 167 = .ok (.iadd, 1) := by decide +kernel
theorem dX7_back_168 : decode cX7_back 168 = .ok (.laload, 1) := by decide +kernel
theorem dX7_back_169 : decode cX7_back 169 = .ok (.lastore, 1) := by decide +kernel
theorem dX7_back_170 : decode cX7_back 170 = .ok (.iinc 2 1, 3) := by decide +kernel
theorem dX7_back_173 : decode cX7_back 173 = .ok (.goto (-24), 3) := by decide +kernel
theorem dX7_back_176 : decode cX7_back 176 = .ok (.aload_n 0, 1) := by decide +kernel
theorem dX7_back_177 : decode cX7_back 177 = .ok (.aload_n 0, 1) := by decide +kernel
theorem dX7_back_178 : decode cX7_back 178 = .ok (.getfield 115, 3) := by decide +kernel
theorem dX7_back_181 : decode cX7_back 181 = .ok (.iload_n 1, 1) := by decide +kernel
theorem dX7_back_182 : decode cX7_back 182 = .ok (.laload, 1) := by decide +kernel
theorem dX7_back_183 : decode cX7_back 183 = .ok (.putfield 261, 3) := by decide +kernel
theorem dX7_back_186 : decode cX7_back 186 = .ok (.aload_n 0, 1) := by decide +kernel
theorem dX7_back_187 : decode cX7_back 187 = .ok (.aload_n 0, 1) := by decide +kernel
theorem dX7_back_188 : decode cX7_back 188 = .ok (.getfield 118, 3) := by decide +kernel
theorem dX7_back_191 : decode cX7_back 191 = .ok (.iload_n 1, 1) := by decide +kernel
theorem dX7_back_192 : decode cX7_back 192 = .ok (.daload, 1) := by decide +kernel
theorem dX7_back_193 : decode cX7_back 193 = .ok (.putfield 186, 3) := by decide +kernel
theorem dX7_back_196 : decode cX7_back 196 = .ok (.iconst 1, 1) := by decide +kernel
theorem dX7_back_197 : decode cX7_back 197 = .ok (.ireturn, 1) := by decide +kernel

theorem dX6_init_0 : decode cX6_init 0 = .ok (.aload_n 0, 1) := by decide +kernel
theorem dX6_init_1 : decode cX6_init 1 = .ok (.invokespecial 3, 3) := by decide +kernel
theorem dX6_init_4 : decode cX6_init 4 = .ok (.iload_n 1, 1) := by decide +kernel
theorem dX6_init_5 : decode cX6_init 5 = .ok (.bipush 12, 2) := by decide +kernel
theorem dX6_init_7 : decode cX6_init 7 = .ok (.invokestatic 9, 3) := by decide +kernel
theorem dX6_init_10 : decode cX6_init 10 = .ok (.istore 4, 2) := by decide +kernel
theorem dX6_init_12 : decode cX6_init 12 = .ok (.iload_n 2, 1) := by decide +kernel
theorem dX6_init_13 : decode cX6_init 13 = .ok (.bipush 12, 2) := by decide +kernel
theorem dX6_init_15 : decode cX6_init 15 = .ok (.invokestatic 9, 3) := by decide +kernel
theorem dX6_init_18 : decode cX6_init 18 = .ok (.istore 5, 2) := by decide +kernel
theorem dX6_init_20 : decode cX6_init 20 = .ok (.iload 4, 2) := by decide +kernel
theorem dX6_init_22 : decode cX6_init 22 = .ok (.iload 5, 2) := by decide +kernel
theorem dX6_init_24 : decode cX6_init 24 = .ok (.imul, 1) := by decide +kernel
theorem dX6_init_25 : decode cX6_init 25 = .ok (.invokestatic 13, 3) := by decide +kernel
theorem dX6_init_28 : decode cX6_init 28 = .ok (.astore 6, 2) := by decide +kernel
theorem dX6_init_30 : decode cX6_init 30 = .ok (.invokestatic 17, 3) := by decide +kernel
theorem dX6_init_33 : decode cX6_init 33 = .ok (.astore 7, 2) := by decide +kernel
theorem dX6_init_35 : decode cX6_init 35 = .ok (.aload_n 0, 1) := by decide +kernel
theorem dX6_init_36 : decode cX6_init 36 = .ok (.iload 4, 2) := by decide +kernel
theorem dX6_init_38 : decode cX6_init 38 = .ok (.putfield 21, 3) := by decide +kernel
theorem dX6_init_41 : decode cX6_init 41 = .ok (.aload_n 0, 1) := by decide +kernel
theorem dX6_init_42 : decode cX6_init 42 = .ok (.iload 5, 2) := by decide +kernel
theorem dX6_init_44 : decode cX6_init 44 = .ok (.putfield 25, 3) := by decide +kernel
theorem dX6_init_47 : decode cX6_init 47 = .ok (.aload_n 0, 1) := by decide +kernel
theorem dX6_init_48 : decode cX6_init 48 = .ok (.iload_n 3, 1) := by decide +kernel
theorem dX6_init_49 : decode cX6_init 49 = .ok (.iconst 4, 1) := by decide +kernel
theorem dX6_init_50 : decode cX6_init 50 = .ok (.invokestatic 9, 3) := by decide +kernel
theorem dX6_init_53 : decode cX6_init 53 = .ok (.putfield 28, 3) := by decide +kernel
theorem dX6_init_56 : decode cX6_init 56 = .ok (.aload_n 0, 1) := by decide +kernel
theorem dX6_init_57 : decode cX6_init 57 = .ok (.aload 6, 2) := by decide +kernel
theorem dX6_init_59 : decode cX6_init 59 = .ok (.putfield 31, 3) := by decide +kernel
theorem dX6_init_62 : decode cX6_init 62 = .ok (.aload_n 0, 1) := by decide +kernel
theorem dX6_init_63 : decode cX6_init 63 = .ok (.aload 7, 2) := by decide +kernel
theorem dX6_init_65 : decode cX6_init 65 = .ok (.putfield 35, 3) := by decide +kernel
theorem dX6_init_68 : decode cX6_init 68 = .ok (.aload_n 0, 1) := by decide +kernel
theorem dX6_init_69 : decode cX6_init 69 = .ok (.aload 6, 2) := by decide +kernel
theorem dX6_init_71 : decode cX6_init 71 = .ok (.aload 7, 2) := by decide +kernel
theorem dX6_init_73 : decode cX6_init 73 = .ok (.iload 4, 2) := by decide +kernel
theorem dX6_init_75 : decode cX6_init 75 = .ok (.iload 5, 2) := by decide +kernel
theorem dX6_init_77 : decode cX6_init 77 = .ok (.invokestatic 39, 3) := by decide +kernel
theorem dX6_init_80 : decode cX6_init 80 = .ok (.putfield 43, 3) := by decide +kernel
theorem dX6_init_83 : decode cX6_init 83 = .ok (.aload_n 0, 1) := by decide +kernel
theorem dX6_init_84 : decode cX6_init 84 = .ok (.bipush 24, 2) := by decide +kernel
theorem dX6_init_86 : decode cX6_init 86 = .ok (.newarray .double, 2) := by decide +kernel
theorem dX6_init_88 : decode cX6_init 88 = .ok (.putfield 47, 3) := by decide +kernel
theorem dX6_init_91 : decode cX6_init 91 = .ok (.aload_n 0, 1) := by decide +kernel
theorem dX6_init_92 : decode cX6_init 92 = .ok (.bipush 24, 2) := by decide +kernel
theorem dX6_init_94 : decode cX6_init 94 = .ok (.newarray .double, 2) := by decide +kernel
theorem dX6_init_96 : decode cX6_init 96 = .ok (.putfield 51, 3) := by decide +kernel
theorem dX6_init_99 : decode cX6_init 99 = .ok (.aload_n 0, 1) := by decide +kernel
theorem dX6_init_100 : decode cX6_init 100 = .ok (.invokestatic 54, 3) := by decide +kernel
theorem dX6_init_103 : decode cX6_init 103 = .ok (.putfield 58, 3) := by decide +kernel
theorem dX6_init_106 : decode cX6_init 106 = .ok (.aload_n 0, 1) := by decide +kernel
theorem dX6_init_107 : decode cX6_init 107 = .ok (.aload 6, 2) := by decide +kernel
theorem dX6_init_109 : decode cX6_init 109 = .ok (.arraylength, 1) := by decide +kernel
theorem dX6_init_110 : decode cX6_init 110 = .ok (.iload 4, 2) := by decide +kernel
theorem dX6_init_112 : decode cX6_init 112 = .ok (.iload 5, 2) := by decide +kernel
theorem dX6_init_114 : decode cX6_init 114 = .ok (.invokestatic 62, 3) := by decide +kernel
theorem dX6_init_117 : decode cX6_init 117 = .ok (.invokestatic 65, 3) := by decide +kernel
theorem dX6_init_120 : decode cX6_init 120 = .ok (.putfield 69, 3) := by decide +kernel
theorem dX6_init_123 : decode cX6_init 123 = .ok (.aload_n 0, 1) := by decide +kernel
theorem dX6_init_124 : decode cX6_init 124 = .ok (.new 73, 3) := by decide +kernel
theorem dX6_init_127 : decode cX6_init 127 = .ok (.dup, 1) := by decide +kernel
theorem dX6_init_128 : decode cX6_init 128 = .ok (.invokespecial 75, 3) := by decide +kernel
theorem dX6_init_131 : decode cX6_init 131 = .ok (.putfield 76, 3) := by decide +kernel
theorem dX6_init_134 : decode cX6_init 134 = .ok (.return_, 1) := by decide +kernel
theorem dX6_depth_0 : decode cX6_depth 0 = .ok (.aload_n 0, 1) := by decide +kernel
theorem dX6_depth_1 : decode cX6_depth 1 = .ok (.iload_n 1, 1) := by decide +kernel
theorem dX6_depth_2 : decode cX6_depth 2 = .ok (.iload_n 2, 1) := by decide +kernel
theorem dX6_depth_3 : decode cX6_depth 3 = .ok (.invokevirtual 80, 3) := by decide +kernel
theorem dX6_depth_6 : decode cX6_depth 6 = .ok (.astore 5, 2) := by decide +kernel
theorem dX6_depth_8 : decode cX6_depth 8 = .ok (.aload 5, 2) := by decide +kernel
theorem dX6_depth_10 : decode cX6_depth 10 = .ok (.ifnull 14, 3) := by decide +kernel
theorem dX6_depth_13 : decode cX6_depth 13 = .ok (.dload_n 3, 1) := by decide +kernel
theorem dX6_depth_14 : decode cX6_depth 14 = .ok (.dconst 0, 1) := by decide +kernel
theorem dX6_depth_15 : decode cX6_depth 15 = .ok (.ldc2_w 84, 3) := by decide +kernel
theorem dX6_depth_18 : decode cX6_depth 18 = .ok (.invokestatic 86, 3) := by decide +kernel
theorem dX6_depth_21 : decode cX6_depth 21 = .ok (.ifCond .ne 5, 3) := by decide +kernel
theorem dX6_depth_24 : decode cX6_depth 24 = .ok (.iconst 0, 1) := by decide +kernel
theorem dX6_depth_25 : decode cX6_depth 25 = .ok (.ireturn, 1) := by decide +kernel
theorem dX6_depth_26 : decode cX6_depth 26 = .ok (.aload_n 0, 1) := by decide +kernel
theorem dX6_depth_27 : decode cX6_depth 27 = .ok (.aload_n 0, 1) := by decide +kernel
theorem dX6_depth_28 : decode cX6_depth 28 = .ok (.getfield 90, 3) := by decide +kernel
theorem dX6_depth_31 : decode cX6_depth 31 = .ok (.aload 5, 2) := by decide +kernel
theorem dX6_depth_33 : decode cX6_depth 33 = .ok (.getfield 94, 3) := by decide +kernel
theorem dX6_depth_36 : decode cX6_depth 36 = .ok (.lsub, 1) := by decide +kernel
theorem dX6_depth_37 : decode cX6_depth 37 = .ok (.putfield 90, 3) := by decide +kernel
theorem dX6_depth_40 : decode cX6_depth 40 = .ok (.aload 5, 2) := by decide +kernel
theorem dX6_depth_42 : decode cX6_depth 42 = .ok (.dload_n 3, 1) := by decide +kernel
theorem dX6_depth_43 : decode cX6_depth 43 = .ok (.invokevirtual 99, 3) := by decide +kernel
theorem dX6_depth_46 : decode cX6_depth 46 = .ok (.aload_n 0, 1) := by decide +kernel
theorem dX6_depth_47 : decode cX6_depth 47 = .ok (.aload_n 0, 1) := by decide +kernel
theorem dX6_depth_48 : decode cX6_depth 48 = .ok (.getfield 90, 3) := by decide +kernel
theorem dX6_depth_51 : decode cX6_depth 51 = .ok (.aload 5, 2) := by decide +kernel
theorem dX6_depth_53 : decode cX6_depth 53 = .ok (.getfield 94, 3) := by decide +kernel
theorem dX6_depth_56 : decode cX6_depth 56 = .ok (.ladd, 1) := by decide +kernel
theorem dX6_depth_57 : decode cX6_depth 57 = .ok (.putfield 90, 3) := by decide +kernel
theorem dX6_depth_60 : decode cX6_depth 60 = .ok (.aload_n 0, 1) := by decide +kernel
theorem dX6_depth_61 : decode cX6_depth 61 = .ok (.getfield 43, 3) := by decide +kernel
theorem dX6_depth_64 : decode cX6_depth 64 = .ok (.astore 6, 2) := by decide +kernel
theorem dX6_depth_66 : decode cX6_depth 66 = .ok (.aload 6, 2) := by decide +kernel
theorem dX6_depth_68 : decode cX6_depth 68 = .ok (.arraylength, 1) := by decide +kernel
theorem dX6_depth_69 : decode cX6_depth 69 = .ok (.istore 7, 2) := by decide +kernel
theorem dX6_depth_71 : decode cX6_depth 71 = .ok (.iconst 0, 1) := by decide +kernel
theorem dX6_depth_72 : decode cX6_depth 72 = .ok (.istore 8, 2) := by decide +kernel
theorem dX6_depth_74 : decode cX6_depth 74 = .ok (.iload 8, 2) := by decide +kernel
theorem dX6_depth_76 : decode cX6_depth 76 = .ok (.iload 7, 2) := by decide +kernel
theorem dX6_depth_78 : decode cX6_depth 78 = .ok (.if_icmp .ge 23, 3) := by decide +kernel
theorem dX6_depth_81 : decode cX6_depth 81 = .ok (.aload 6, 2) := by decide +kernel
theorem dX6_depth_83 : decode cX6_depth 83 = .ok (.iload 8, 2) := by decide +kernel
theorem dX6_depth_85 : decode cX6_depth 85 = .ok (.aaload, 1) := by decide +kernel
theorem dX6_depth_86 : decode cX6_depth 86 = .ok (.astore 9, 2) := by decide +kernel
theorem dX6_depth_88 : decode cX6_depth 88 = .ok (.aload 9, 2) := by decide +kernel
theorem dX6_depth_90 : decode cX6_depth 90 = .ok (.aload 5, 2) := by decide +kernel
theorem dX6_depth_92 : decode cX6_depth 92 = .ok (.invokevirtual 103, 3) := by decide +kernel
theorem dX6_depth_95 : decode cX6_depth 95 = .ok (.iinc 8 1, 3) := by decide +kernel
theorem dX6_depth_98 : decode cX6_depth 98 = .ok (.goto (-24), 3) := by decide +kernel
theorem dX6_depth_101 : decode cX6_depth 101 = .ok (.aload_n 0, 1) := by decide +kernel
theorem dX6_depth_102 : decode cX6_depth 102 = .ok (.dup, 1) := by decide +kernel
theorem dX6_depth_103 : decode cX6_depth 103 = .ok (.getfield 109, 3) := by decide +kernel
theorem dX6_depth_106 : decode cX6_depth 106 = .ok (.iconst 1, 1) := by decide +kernel
theorem dX6_depth_107 : decode cX6_depth 107 = .ok (.iadd, 1) := by decide +kernel
theorem dX6_depth_108 : decode cX6_depth 108 = .ok (.putfield 109, 3) := by decide +kernel
theorem dX6_depth_111 : decode cX6_depth 111 = .ok (.iconst 1, 1) := by decide +kernel
theorem dX6_depth_112 : decode cX6_depth 112 = .ok (.ireturn, 1) := by decide +kernel
theorem dX6_border_0 : decode cX6_border 0 = .ok (.aload_n 0, 1) := by decide +kernel
theorem dX6_border_1 : decode cX6_border 1 = .ok (.iload_n 1, 1) := by decide +kernel
theorem dX6_border_2 : decode cX6_border 2 = .ok (.invokevirtual 112, 3) := by decide +kernel
theorem dX6_border_5 : decode cX6_border 5 = .ok (.astore 7, 2) := by decide +kernel
theorem dX6_border_7 : decode cX6_border 7 = .ok (.aload 7, 2) := by decide +kernel
theorem dX6_border_9 : decode cX6_border 9 = .ok (.ifnull 13, 3) := by decide +kernel
theorem dX6_border_12 : decode cX6_border 12 = .ok (.iload_n 2, 1) := by decide +kernel
theorem dX6_border_13 : decode cX6_border 13 = .ok (.ifCond .lt 9, 3) := by decide +kernel
theorem dX6_border_16 : decode cX6_border 16 = .ok (.iload_n 2, 1) := by decide +kernel
theorem dX6_border_17 : decode cX6_border 17 = .ok (.bipush 8, 2) := by decide +kernel
theorem dX6_border_19 : decode cX6_border 19 = .ok (.if_icmp .lt 5, 3) := by decide +kernel
theorem dX6_border_22 : decode cX6_border 22 = .ok (.iconst 0, 1) := by decide +kernel
theorem dX6_border_23 : decode cX6_border 23 = .ok (.ireturn, 1) := by decide +kernel
theorem dX6_border_24 : decode cX6_border 24 = .ok (.dload_n 3, 1) := by decide +kernel
theorem dX6_border_25 : decode cX6_border 25 = .ok (.dconst 0, 1) := by decide +kernel
theorem dX6_border_26 : decode cX6_border 26 = .ok (.ldc2_w 116, 3) := by decide +kernel
theorem dX6_border_29 : decode cX6_border 29 = .ok (.invokestatic 86, 3) := by decide +kernel
theorem dX6_border_32 : decode cX6_border 32 = .ok (.ifCond .eq 13, 3) := by decide +kernel
theorem dX6_border_35 : decode cX6_border 35 = .ok (.dload 5, 2) := by decide +kernel
theorem dX6_border_37 : decode cX6_border 37 = .ok (.dconst 0, 1) := by decide +kernel
theorem dX6_border_38 : decode cX6_border 38 = .ok (.dconst 1, 1) := by decide +kernel
theorem dX6_border_39 : decode cX6_border 39 = .ok (.invokestatic 86, 3) := by decide +kernel
theorem dX6_border_42 : decode cX6_border 42 = .ok (.ifCond .ne 5, 3) := by decide +kernel
theorem dX6_border_45 : decode cX6_border 45 = .ok (.iconst 0, 1) := by decide +kernel
theorem dX6_border_46 : decode cX6_border 46 = .ok (.ireturn, 1) := by decide +kernel
theorem dX6_border_47 : decode cX6_border 47 = .ok (.aload 7, 2) := by decide +kernel
theorem dX6_border_49 : decode cX6_border 49 = .ok (.iload_n 2, 1) := by decide +kernel
theorem dX6_border_50 : decode cX6_border 50 = .ok (.dload_n 3, 1) := by decide +kernel
theorem dX6_border_51 : decode cX6_border 51 = .ok (.dload 5, 2) := by decide +kernel
theorem dX6_border_53 : decode cX6_border 53 = .ok (.invokevirtual 118, 3) := by decide +kernel
theorem dX6_border_56 : decode cX6_border 56 = .ok (.iconst 1, 1) := by decide +kernel
theorem dX6_border_57 : decode cX6_border 57 = .ok (.ireturn, 1) := by decide +kernel
theorem dX6_wind_0 : decode cX6_wind 0 = .ok (.iload_n 1, 1) := by decide +kernel
theorem dX6_wind_1 : decode cX6_wind 1 = .ok (.ifCond .lt 9, 3) := by decide +kernel
theorem dX6_wind_4 : decode cX6_wind 4 = .ok (.iload_n 1, 1) := by decide +kernel
theorem dX6_wind_5 : decode cX6_wind 5 = .ok (.bipush 24, 2) := by decide +kernel
theorem dX6_wind_7 : decode cX6_wind 7 = .ok (.if_icmp .lt 5, 3) := by decide +kernel
theorem dX6_wind_10 : decode cX6_wind 10 = .ok (.iconst 0, 1) := by decide +kernel
theorem dX6_wind_11 : decode cX6_wind 11 = .ok (.ireturn, 1) := by decide +kernel
theorem dX6_wind_12 : decode cX6_wind 12 = .ok (.dload_n 2, 1) := by decide +kernel
theorem dX6_wind_13 : decode cX6_wind 13 = .ok (.ldc2_w 124, 3) := by decide +kernel
theorem dX6_wind_16 : decode cX6_wind 16 = .ok (.ldc2_w 126, 3) := by decide +kernel
theorem dX6_wind_19 : decode cX6_wind 19 = .ok (.invokestatic 86, 3) := by decide +kernel
theorem dX6_wind_22 : decode cX6_wind 22 = .ok (.ifCond .eq 17, 3) := by decide +kernel
theorem dX6_wind_25 : decode cX6_wind 25 = .ok (.dload 4, 2) := by decide +kernel
theorem dX6_wind_27 : decode cX6_wind 27 = .ok (.ldc2_w 124, 3) := by decide +kernel
theorem dX6_wind_30 : decode cX6_wind 30 = .ok (.ldc2_w 126, 3) := by decide +kernel
theorem dX6_wind_33 : decode cX6_wind 33 = .ok (.invokestatic 86, 3) := by decide +kernel
theorem dX6_wind_36 : decode cX6_wind 36 = .ok (.ifCond .ne 5, 3) := by decide +kernel
theorem dX6_wind_39 : decode cX6_wind 39 = .ok (.iconst 0, 1) := by decide +kernel
theorem dX6_wind_40 : decode cX6_wind 40 = .ok (.ireturn, 1) := by decide +kernel
theorem dX6_wind_41 : decode cX6_wind 41 = .ok (.aload_n 0, 1) := by decide +kernel
theorem dX6_wind_42 : decode cX6_wind 42 = .ok (.getfield 47, 3) := by decide +kernel
theorem dX6_wind_45 : decode cX6_wind 45 = .ok (.iload_n 1, 1) := by decide +kernel
theorem dX6_wind_46 : decode cX6_wind 46 = .ok (.dload_n 2, 1) := by decide +kernel
theorem dX6_wind_47 : decode cX6_wind 47 = .ok (.dastore, 1) := by decide +kernel
theorem dX6_wind_48 : decode cX6_wind 48 = .ok (.aload_n 0, 1) := by decide +kernel
theorem dX6_wind_49 : decode cX6_wind 49 = .ok (.getfield 51, 3) := by decide +kernel
theorem dX6_wind_52 : decode cX6_wind 52 = .ok (.iload_n 1, 1) := by decide +kernel
theorem dX6_wind_53 : decode cX6_wind 53 = .ok (.dload 4, 2) := by decide +kernel
theorem dX6_wind_55 : decode cX6_wind 55 = .ok (.dastore, 1) := by decide +kernel
theorem dX6_wind_56 : decode cX6_wind 56 = .ok (.iconst 1, 1) := by decide +kernel
theorem dX6_wind_57 : decode cX6_wind 57 = .ok (.ireturn, 1) := by decide +kernel
theorem dX6_river_0 : decode cX6_river 0 = .ok (.aload_n 0, 1) := by decide +kernel
theorem dX6_river_1 : decode cX6_river 1 = .ok (.iload_n 1, 1) := by decide +kernel
theorem dX6_river_2 : decode cX6_river 2 = .ok (.iload_n 2, 1) := by decide +kernel
theorem dX6_river_3 : decode cX6_river 3 = .ok (.invokevirtual 128, 3) := by decide +kernel
theorem dX6_river_6 : decode cX6_river 6 = .ok (.astore 5, 2) := by decide +kernel
theorem dX6_river_8 : decode cX6_river 8 = .ok (.aload 5, 2) := by decide +kernel
theorem dX6_river_10 : decode cX6_river 10 = .ok (.ifnull 14, 3) := by decide +kernel
theorem dX6_river_13 : decode cX6_river 13 = .ok (.dload_n 3, 1) := by decide +kernel
theorem dX6_river_14 : decode cX6_river 14 = .ok (.dconst 0, 1) := by decide +kernel
theorem dX6_river_15 : decode cX6_river 15 = .ok (.ldc2_w 84, 3) := by decide +kernel
theorem dX6_river_18 : decode cX6_river 18 = .ok (.invokestatic 86, 3) := by decide +kernel
theorem dX6_river_21 : decode cX6_river 21 = .ok (.ifCond .ne 5, 3) := by decide +kernel
theorem dX6_river_24 : decode cX6_river 24 = .ok (.iconst 0, 1) := by decide +kernel
theorem dX6_river_25 : decode cX6_river 25 = .ok (.ireturn, 1) := by decide +kernel
theorem dX6_river_26 : decode cX6_river 26 = .ok (.aload 5, 2) := by decide +kernel
theorem dX6_river_28 : decode cX6_river 28 = .ok (.dload_n 3, 1) := by decide +kernel
theorem dX6_river_29 : decode cX6_river 29 = .ok (.putfield 131, 3) := by decide +kernel
theorem dX6_river_32 : decode cX6_river 32 = .ok (.iconst 1, 1) := by decide +kernel
theorem dX6_river_33 : decode cX6_river 33 = .ok (.ireturn, 1) := by decide +kernel
theorem dX6_run_0 : decode cX6_run 0 = .ok (.iload_n 1, 1) := by decide +kernel
theorem dX6_run_1 : decode cX6_run 1 = .ok (.ifCond .lt 21, 3) := by decide +kernel
theorem dX6_run_4 : decode cX6_run 4 = .ok (.iload_n 1, 1) := by decide +kernel
theorem dX6_run_5 : decode cX6_run 5 = .ok (.sipush 200, 3) := by decide +kernel
theorem dX6_run_8 : decode cX6_run 8 = .ok (.if_icmp .gt 14, 3) := by decide +kernel
theorem dX6_run_11 : decode cX6_run 11 = .ok (.dload_n 2, 1) := by decide +kernel
theorem dX6_run_12 : decode cX6_run 12 = .ok (.dconst 1, 1) := by decide +kernel
theorem dX6_run_13 : decode cX6_run 13 = .ok (.ldc2_w 135, 3) := by decide +kernel
theorem dX6_run_16 : decode cX6_run 16 = .ok (.invokestatic 86, 3) := by decide +kernel
theorem dX6_run_19 : decode cX6_run 19 = .ok (.ifCond .ne 5, 3) := by decide +kernel
theorem dX6_run_22 : decode cX6_run 22 = .ok (.iconst (-1), 1) := by decide +kernel
theorem dX6_run_23 : decode cX6_run 23 = .ok (.ireturn, 1) := by decide +kernel
theorem dX6_run_24 : decode cX6_run 24 = .ok (.iconst 0, 1) := by decide +kernel
theorem dX6_run_25 : decode cX6_run 25 = .ok (.istore 4, 2) := by decide +kernel
theorem dX6_run_27 : decode cX6_run 27 = .ok (.iload 4, 2) := by decide +kernel
theorem dX6_run_29 : decode cX6_run 29 = .ok (.iload_n 1, 1) := by decide +kernel
theorem dX6_run_30 : decode cX6_run 30 = .ok (.if_icmp .ge 14, 3) := by decide +kernel
theorem dX6_run_33 : decode cX6_run 33 = .ok (.aload_n 0, 1) := by decide +kernel
theorem dX6_run_34 : decode cX6_run 34 = .ok (.dload_n 2, 1) := by decide +kernel
theorem dX6_run_35 : decode cX6_run 35 = .ok (.invokevirtual 137, 3) := by decide +kernel
theorem dX6_run_38 : decode cX6_run 38 = .ok (.iinc 4 1, 3) := by decide +kernel
theorem dX6_run_41 : decode cX6_run 41 = .ok (.goto (-14), 3) := by decide +kernel
theorem dX6_run_44 : decode cX6_run 44 = .ok (.iload_n 1, 1) := by decide +kernel
theorem dX6_run_45 : decode cX6_run 45 = .ok (.ireturn, 1) := by decide +kernel
theorem dX6_level_0 : decode cX6_level 0 = .ok (.aload_n 0, 1) := by decide +kernel
theorem dX6_level_1 : decode cX6_level 1 = .ok (.iload_n 1, 1) := by decide +kernel
theorem dX6_level_2 : decode cX6_level 2 = .ok (.iload_n 2, 1) := by decide +kernel
theorem dX6_level_3 : decode cX6_level 3 = .ok (.invokevirtual 128, 3) := by decide +kernel
theorem dX6_level_6 : decode cX6_level 6 = .ok (.astore_n 3, 1) := by decide +kernel
theorem dX6_level_7 : decode cX6_level 7 = .ok (.aload_n 3, 1) := by decide +kernel
theorem dX6_level_8 : decode cX6_level 8 = .ok (.ifnonnull 9, 3) := by decide +kernel
theorem dX6_level_11 : decode cX6_level 11 = .ok (.invokestatic 140, 3) := by decide +kernel
theorem dX6_level_14 : decode cX6_level 14 = .ok (.goto 7, 3) := by decide +kernel
theorem dX6_level_17 : decode cX6_level 17 = .ok (.aload_n 3, 1) := by decide +kernel
theorem dX6_level_18 : decode cX6_level 18 = .ok (.invokevirtual 144, 3) := by decide +kernel
theorem dX6_level_21 : decode cX6_level 21 = .ok (.dreturn, 1) := by decide +kernel
theorem dX6_speed_0 : decode cX6_speed 0 = .ok (.aload_n 0, 1) := by decide +kernel
theorem dX6_speed_1 : decode cX6_speed 1 = .ok (.iload_n 1, 1) := by decide +kernel
theorem dX6_speed_2 : decode cX6_speed 2 = .ok (.iload_n 2, 1) := by decide +kernel
theorem dX6_speed_3 : decode cX6_speed 3 = .ok (.invokevirtual 80, 3) := by decide +kernel
theorem dX6_speed_6 : decode cX6_speed 6 = .ok (.astore 5, 2) := by decide +kernel
theorem dX6_speed_8 : decode cX6_speed 8 = .ok (.aload 5, 2) := by decide +kernel
theorem dX6_speed_10 : decode cX6_speed 10 = .ok (.ifnull 11, 3) := by decide +kernel
theorem dX6_speed_13 : decode cX6_speed 13 = .ok (.aload_n 0, 1) := by decide +kernel
theorem dX6_speed_14 : decode cX6_speed 14 = .ok (.iload_n 3, 1) := by decide +kernel
theorem dX6_speed_15 : decode cX6_speed 15 = .ok (.invokevirtual 147, 3) := by decide +kernel
theorem dX6_speed_18 : decode cX6_speed 18 = .ok (.ifCond .ne 5, 3) := by decide +kernel
theorem dX6_speed_21 : decode cX6_speed 21 = .ok (.dconst 0, 1) := by decide +kernel
theorem dX6_speed_22 : decode cX6_speed 22 = .ok (.dreturn, 1) := by decide +kernel
theorem dX6_speed_23 : decode cX6_speed 23 = .ok (.aload_n 0, 1) := by decide +kernel
theorem dX6_speed_24 : decode cX6_speed 24 = .ok (.getfield 43, 3) := by decide +kernel
theorem dX6_speed_27 : decode cX6_speed 27 = .ok (.astore 6, 2) := by decide +kernel
theorem dX6_speed_29 : decode cX6_speed 29 = .ok (.aload 6, 2) := by decide +kernel
theorem dX6_speed_31 : decode cX6_speed 31 = .ok (.arraylength, 1) := by decide +kernel
theorem dX6_speed_32 : decode cX6_speed 32 = .ok (.istore 7, 2) := by decide +kernel
theorem dX6_speed_34 : decode cX6_speed 34 = .ok (.iconst 0, 1) := by decide +kernel
theorem dX6_speed_35 : decode cX6_speed 35 = .ok (.istore 8, 2) := by decide +kernel
theorem dX6_speed_37 : decode cX6_speed 37 = .ok (.iload 8, 2) := by decide +kernel
theorem dX6_speed_39 : decode cX6_speed 39 = .ok (.iload 7, 2) := by decide +kernel
theorem dX6_speed_41 : decode cX6_speed 41 = .ok (.if_icmp .ge 68, 3) := by decide +kernel
theorem dX6_speed_44 : decode cX6_speed 44 = .ok (.aload 6, 2) := by decide +kernel
theorem dX6_speed_46 : decode cX6_speed 46 = .ok (.iload 8, 2) := by decide +kernel
theorem dX6_speed_48 : decode cX6_speed 48 = .ok (.aaload, 1) := by decide +kernel
theorem dX6_speed_49 : decode cX6_speed 49 = .ok (.astore 9, 2) := by decide +kernel
theorem dX6_speed_51 : decode cX6_speed 51 = .ok (.aload 9, 2) := by decide +kernel
theorem dX6_speed_53 : decode cX6_speed 53 = .ok (.getfield 151, 3) := by decide +kernel
theorem dX6_speed_56 : decode cX6_speed 56 = .ok (.aload 5, 2) := by decide +kernel
theorem dX6_speed_58 : decode cX6_speed 58 = .ok (.if_acmp .ne 45, 3) := by decide +kernel
theorem dX6_speed_61 : decode cX6_speed 61 = .ok (.aload 9, 2) := by decide +kernel
theorem dX6_speed_63 : decode cX6_speed 63 = .ok (.getfield 155, 3) := by decide +kernel
theorem dX6_speed_66 : decode cX6_speed 66 = .ok (.iload 4, 2) := by decide +kernel
theorem dX6_speed_68 : decode cX6_speed 68 = .ok (.if_icmp .ne 35, 3) := by decide +kernel
theorem dX6_speed_71 : decode cX6_speed 71 = .ok (.aload 9, 2) := by decide +kernel
theorem dX6_speed_73 : decode cX6_speed 73 = .ok (.invokevirtual 158, 3) := by decide +kernel
theorem dX6_speed_76 : decode cX6_speed 76 = .ok (.ifCond .eq 27, 3) := by decide +kernel
theorem dX6_speed_79 : decode cX6_speed 79 = .ok (.aload 9, 2) := by decide +kernel
theorem dX6_speed_81 : decode cX6_speed 81 = .ok (.getfield 162, 3) := by decide +kernel
theorem dX6_speed_84 : decode cX6_speed 84 = .ok (.dconst 1, 1) := by decide +kernel
theorem dX6_speed_85 : decode cX6_speed 85 = .ok (.ldc2_w 165, 3) := by decide +kernel
theorem dX6_speed_88 : decode cX6_speed 88 = .ok (.aload_n 0, 1) := by decide +kernel
theorem dX6_speed_89 : decode cX6_speed 89 = .ok (.getfield 28, 3) := by decide +kernel
theorem dX6_speed_92 : decode cX6_speed 92 = .ok (.iconst 1, 1) := by decide +kernel
theorem dX6_speed_93 : decode cX6_speed 93 = .ok (.isub, 1) := by decide +kernel
theorem dX6_speed_94 : decode cX6_speed 94 = .ok (.iconst 2, 1) := by decide +kernel
theorem dX6_speed_95 : decode cX6_speed 95 = .ok (.iload_n 3, 1) := by decide +kernel
theorem dX6_speed_96 : decode cX6_speed 96 = .ok (.imul, 1) := by decide +kernel
theorem dX6_speed_97 : decode cX6_speed 97 = .ok (.isub, 1) := by decide +kernel
theorem dX6_speed_98 : decode cX6_speed 98 = .ok (.i2d, 1) := by decide +kernel
theorem dX6_speed_99 : decode cX6_speed 99 = .ok (.dmul, 1) := by decide +kernel
theorem dX6_speed_100 : decode cX6_speed 100 = .ok (.dadd, 1) := by decide +kernel
theorem dX6_speed_101 : decode cX6_speed 101 = .ok (.dmul, 1) := by decide +kernel
theorem dX6_speed_102 : decode cX6_speed 102 = .ok (.dreturn, 1) := by decide +kernel
theorem dX6_speed_103 : decode cX6_speed 103 = .ok (.iinc 8 1, 3) := by decide +kernel
theorem dX6_speed_106 : decode cX6_speed 106 = .ok (.goto (-69), 3) := by decide +kernel
theorem dX6_speed_109 : decode cX6_speed 109 = .ok (.dconst 0, 1) := by decide +kernel
theorem dX6_speed_110 : decode cX6_speed 110 = .ok (.dreturn, 1) := by decide +kernel
theorem dX6_volume_0 : decode cX6_volume 0 = .ok (.aload_n 0, 1) := by decide +kernel
theorem dX6_volume_1 : decode cX6_volume 1 = .ok (.invokevirtual 167, 3) := by decide +kernel
theorem dX6_volume_4 : decode cX6_volume 4 = .ok (.iload_n 1, 1) := by decide +kernel
theorem dX6_volume_5 : decode cX6_volume 5 = .ok (.invokestatic 171, 3) := by decide +kernel
theorem dX6_volume_8 : decode cX6_volume 8 = .ok (.lreturn, 1) := by decide +kernel
theorem dX6_through_0 : decode cX6_through 0 = .ok (.aload_n 0, 1) := by decide +kernel
theorem dX6_through_1 : decode cX6_through 1 = .ok (.iload_n 1, 1) := by decide +kernel
theorem dX6_through_2 : decode cX6_through 2 = .ok (.invokevirtual 112, 3) := by decide +kernel
theorem dX6_through_5 : decode cX6_through 5 = .ok (.astore_n 3, 1) := by decide +kernel
theorem dX6_through_6 : decode cX6_through 6 = .ok (.aload_n 3, 1) := by decide +kernel
theorem dX6_through_7 : decode cX6_through 7 = .ok (.ifnonnull 9, 3) := by decide +kernel
theorem dX6_through_10 : decode cX6_through 10 = .ok (.ldc2_w 175, 3) := by decide +kernel
theorem dX6_through_13 : decode cX6_through 13 = .ok (.goto 11, 3) := by decide +kernel
theorem dX6_through_16 : decode cX6_through 16 = .ok (.aload_n 3, 1) := by decide +kernel
theorem dX6_through_17 : decode cX6_through 17 = .ok (.getfield 177, 3) := by decide +kernel
theorem dX6_through_20 : decode cX6_through 20 = .ok (.iload_n 2, 1) := by decide +kernel
theorem dX6_through_21 : decode cX6_through 21 = .ok (.invokestatic 171, 3) := by decide +kernel
theorem dX6_through_24 : decode cX6_through 24 = .ok (.lreturn, 1) := by decide +kernel
theorem dX6_kept_0 : decode cX6_kept 0 = .ok (.aload_n 0, 1) := by decide +kernel
theorem dX6_kept_1 : decode cX6_kept 1 = .ok (.getfield 90, 3) := by decide +kernel
theorem dX6_kept_4 : decode cX6_kept 4 = .ok (.aload_n 0, 1) := by decide +kernel
theorem dX6_kept_5 : decode cX6_kept 5 = .ok (.getfield 180, 3) := by decide +kernel
theorem dX6_kept_8 : decode cX6_kept 8 = .ok (.ladd, 1) := by decide +kernel
theorem dX6_kept_9 : decode cX6_kept 9 = .ok (.lstore_n 1, 1) := by decide +kernel
theorem dX6_kept_10 : decode cX6_kept 10 = .ok (.aload_n 0, 1) := by decide +kernel
theorem dX6_kept_11 : decode cX6_kept 11 = .ok (.getfield 35, 3) := by decide +kernel
theorem dX6_kept_14 : decode cX6_kept 14 = .ok (.astore_n 3, 1) := by decide +kernel
theorem dX6_kept_15 : decode cX6_kept 15 = .ok (.aload_n 3, 1) := by decide +kernel
theorem dX6_kept_16 : decode cX6_kept 16 = .ok (.arraylength, 1) := by decide +kernel
theorem dX6_kept_17 : decode cX6_kept 17 = .ok (.istore 4, 2) := by decide +kernel
theorem dX6_kept_19 : decode cX6_kept 19 = .ok (.iconst 0, 1) := by decide +kernel
theorem dX6_kept_20 : decode cX6_kept 20 = .ok (.istore 5, 2) := by decide +kernel
theorem dX6_kept_22 : decode cX6_kept 22 = .ok (.iload 5, 2) := by decide +kernel
theorem dX6_kept_24 : decode cX6_kept 24 = .ok (.iload 4, 2) := by decide +kernel
theorem dX6_kept_26 : decode cX6_kept 26 = .ok (.if_icmp .ge 23, 3) := by decide +kernel
theorem dX6_kept_29 : decode cX6_kept 29 = .ok (.aload_n 3, 1) := by decide +kernel
theorem dX6_kept_30 : decode cX6_kept 30 = .ok (.iload 5, 2) := by decide +kernel
theorem dX6_kept_32 : decode cX6_kept 32 = .ok (.aaload, 1) := by decide +kernel
theorem dX6_kept_33 : decode cX6_kept 33 = .ok (.astore 6, 2) := by decide +kernel
theorem dX6_kept_35 : decode cX6_kept 35 = .ok (.lload_n 1, 1) := by decide +kernel
theorem dX6_kept_36 : decode cX6_kept 36 = .ok (.aload 6, 2) := by decide +kernel
theorem dX6_kept_38 : decode cX6_kept 38 = .ok (.getfield 177, 3) := by decide +kernel
theorem dX6_kept_41 : decode cX6_kept 41 = .ok (.ladd, 1) := by decide +kernel
theorem dX6_kept_42 : decode cX6_kept 42 = .ok (.lstore_n 1, 1) := by decide +kernel
theorem dX6_kept_43 : decode cX6_kept 43 = .ok (.iinc 5 1, 3) := by decide +kernel
theorem dX6_kept_46 : decode cX6_kept 46 = .ok (.goto (-24), 3) := by decide +kernel
theorem dX6_kept_49 : decode cX6_kept 49 = .ok (.aload_n 0, 1) := by decide +kernel
theorem dX6_kept_50 : decode cX6_kept 50 = .ok (.invokevirtual 167, 3) := by decide +kernel
theorem dX6_kept_53 : decode cX6_kept 53 = .ok (.lload_n 1, 1) := by decide +kernel
theorem dX6_kept_54 : decode cX6_kept 54 = .ok (.lcmp, 1) := by decide +kernel
theorem dX6_kept_55 : decode cX6_kept 55 = .ok (.ifCond .ne 7, 3) := by decide +kernel
theorem dX6_kept_58 : decode cX6_kept 58 = .ok (.iconst 1, 1) := by decide +kernel
theorem dX6_kept_59 : decode cX6_kept 59 = .ok (.goto 4, 3) := by decide +kernel
theorem dX6_kept_62 : decode cX6_kept 62 = .ok (.iconst 0, 1) := by decide +kernel
theorem dX6_kept_63 : decode cX6_kept 63 = .ok (.ireturn, 1) := by decide +kernel
theorem dX6_warm_0 : decode cX6_warm 0 = .ok (.aload_n 0, 1) := by decide +kernel
theorem dX6_warm_1 : decode cX6_warm 1 = .ok (.iload_n 1, 1) := by decide +kernel
theorem dX6_warm_2 : decode cX6_warm 2 = .ok (.iload_n 2, 1) := by decide +kernel
theorem dX6_warm_3 : decode cX6_warm 3 = .ok (.invokevirtual 128, 3) := by decide +kernel
theorem dX6_warm_6 : decode cX6_warm 6 = .ok (.astore 4, 2) := by decide +kernel
theorem dX6_warm_8 : decode cX6_warm 8 = .ok (.aload 4, 2) := by decide +kernel
theorem dX6_warm_10 : decode cX6_warm 10 = .ok (.ifnull 11, 3) := by decide +kernel
theorem dX6_warm_13 : decode cX6_warm 13 = .ok (.aload_n 0, 1) := by decide +kernel
theorem dX6_warm_14 : decode cX6_warm 14 = .ok (.iload_n 3, 1) := by decide +kernel
theorem dX6_warm_15 : decode cX6_warm 15 = .ok (.invokevirtual 147, 3) := by decide +kernel
theorem dX6_warm_18 : decode cX6_warm 18 = .ok (.ifCond .ne 7, 3) := by decide +kernel
theorem dX6_warm_21 : decode cX6_warm 21 = .ok (.invokestatic 140, 3) := by decide +kernel
theorem dX6_warm_24 : decode cX6_warm 24 = .ok (.dreturn, 1) := by decide +kernel
theorem dX6_warm_25 : decode cX6_warm 25 = .ok (.aload 4, 2) := by decide +kernel
theorem dX6_warm_27 : decode cX6_warm 27 = .ok (.getfield 183, 3) := by decide +kernel
theorem dX6_warm_30 : decode cX6_warm 30 = .ok (.ldc2_w 186, 3) := by decide +kernel
theorem dX6_warm_33 : decode cX6_warm 33 = .ok (.iload_n 3, 1) := by decide +kernel
theorem dX6_warm_34 : decode cX6_warm 34 = .ok (.i2d, 1) := by decide +kernel
theorem dX6_warm_35 : decode cX6_warm 35 = .ok (.dmul, 1) := by decide +kernel
theorem dX6_warm_36 : decode cX6_warm 36 = .ok (.dsub, 1) := by decide +kernel
theorem dX6_warm_37 : decode cX6_warm 37 = .ok (.dreturn, 1) := by decide +kernel
theorem dX6_salt_0 : decode cX6_salt 0 = .ok (.aload_n 0, 1) := by decide +kernel
theorem dX6_salt_1 : decode cX6_salt 1 = .ok (.iload_n 1, 1) := by decide +kernel
theorem dX6_salt_2 : decode cX6_salt 2 = .ok (.iload_n 2, 1) := by decide +kernel
theorem dX6_salt_3 : decode cX6_salt 3 = .ok (.invokevirtual 128, 3) := by decide +kernel
theorem dX6_salt_6 : decode cX6_salt 6 = .ok (.astore 4, 2) := by decide +kernel
theorem dX6_salt_8 : decode cX6_salt 8 = .ok (.aload 4, 2) := by decide +kernel
theorem dX6_salt_10 : decode cX6_salt 10 = .ok (.ifnull 11, 3) := by decide +kernel
theorem dX6_salt_13 : decode cX6_salt 13 = .ok (.aload_n 0, 1) := by decide +kernel
theorem dX6_salt_14 : decode cX6_salt 14 = .ok (.iload_n 3, 1) := by decide +kernel
theorem dX6_salt_15 : decode cX6_salt 15 = .ok (.invokevirtual 147, 3) := by decide +kernel
theorem dX6_salt_18 : decode cX6_salt 18 = .ok (.ifCond .ne 7, 3) := by decide +kernel
theorem dX6_salt_21 : decode cX6_salt 21 = .ok (.invokestatic 140, 3) := by decide +kernel
theorem dX6_salt_24 : decode cX6_salt 24 = .ok (.dreturn, 1) := by decide +kernel
theorem dX6_salt_25 : decode cX6_salt 25 = .ok (.aload 4, 2) := by decide +kernel
theorem dX6_salt_27 : decode cX6_salt 27 = .ok (.getfield 188, 3) := by decide +kernel
theorem dX6_salt_30 : decode cX6_salt 30 = .ok (.ldc2_w 191, 3) := by decide +kernel
theorem dX6_salt_33 : decode cX6_salt 33 = .ok (.iload_n 3, 1) := by decide +kernel
theorem dX6_salt_34 : decode cX6_salt 34 = .ok (.i2d, 1) := by decide +kernel
theorem dX6_salt_35 : decode cX6_salt 35 = .ok (.dmul, 1) := by decide +kernel
theorem dX6_salt_36 : decode cX6_salt 36 = .ok (.dadd, 1) := by decide +kernel
theorem dX6_salt_37 : decode cX6_salt 37 = .ok (.dreturn, 1) := by decide +kernel
theorem dX6_dry_0 : decode cX6_dry 0 = .ok (.aload_n 0, 1) := by decide +kernel
theorem dX6_dry_1 : decode cX6_dry 1 = .ok (.iload_n 1, 1) := by decide +kernel
theorem dX6_dry_2 : decode cX6_dry 2 = .ok (.iload_n 2, 1) := by decide +kernel
theorem dX6_dry_3 : decode cX6_dry 3 = .ok (.invokevirtual 128, 3) := by decide +kernel
theorem dX6_dry_6 : decode cX6_dry 6 = .ok (.astore_n 3, 1) := by decide +kernel
theorem dX6_dry_7 : decode cX6_dry 7 = .ok (.aload_n 3, 1) := by decide +kernel
theorem dX6_dry_8 : decode cX6_dry 8 = .ok (.ifnull 10, 3) := by decide +kernel
theorem dX6_dry_11 : decode cX6_dry 11 = .ok (.aload_n 3, 1) := by decide +kernel
theorem dX6_dry_12 : decode cX6_dry 12 = .ok (.invokevirtual 193, 3) := by decide +kernel
theorem dX6_dry_15 : decode cX6_dry 15 = .ok (.ifCond .eq 7, 3) := by decide +kernel
theorem dX6_dry_18 : decode cX6_dry 18 = .ok (.iconst 1, 1) := by decide +kernel
theorem dX6_dry_19 : decode cX6_dry 19 = .ok (.goto 4, 3) := by decide +kernel
theorem dX6_dry_22 : decode cX6_dry 22 = .ok (.iconst 0, 1) := by decide +kernel
theorem dX6_dry_23 : decode cX6_dry 23 = .ok (.ireturn, 1) := by decide +kernel
theorem dX6_nest_0 : decode cX6_nest 0 = .ok (.aload_n 0, 1) := by decide +kernel
theorem dX6_nest_1 : decode cX6_nest 1 = .ok (.iload_n 1, 1) := by decide +kernel
theorem dX6_nest_2 : decode cX6_nest 2 = .ok (.iload_n 2, 1) := by decide +kernel
theorem dX6_nest_3 : decode cX6_nest 3 = .ok (.invokevirtual 128, 3) := by decide +kernel
theorem dX6_nest_6 : decode cX6_nest 6 = .ok (.astore 4, 2) := by decide +kernel
theorem dX6_nest_8 : decode cX6_nest 8 = .ok (.aload 4, 2) := by decide +kernel
theorem dX6_nest_10 : decode cX6_nest 10 = .ok (.ifnull 22, 3) := by decide +kernel
theorem dX6_nest_13 : decode cX6_nest 13 = .ok (.aload 4, 2) := by decide +kernel
theorem dX6_nest_15 : decode cX6_nest 15 = .ok (.getfield 196, 3) := by decide +kernel
theorem dX6_nest_18 : decode cX6_nest 18 = .ok (.ifnonnull 14, 3) := by decide +kernel
theorem dX6_nest_21 : decode cX6_nest 21 = .ok (.iload_n 3, 1) := by decide +kernel
theorem dX6_nest_22 : decode cX6_nest 22 = .ok (.iconst 2, 1) := by decide +kernel
theorem dX6_nest_23 : decode cX6_nest 23 = .ok (.if_icmp .lt 9, 3) := by decide +kernel
theorem dX6_nest_26 : decode cX6_nest 26 = .ok (.iload_n 3, 1) := by decide +kernel
theorem dX6_nest_27 : decode cX6_nest 27 = .ok (.bipush 8, 2) := by decide +kernel
theorem dX6_nest_29 : decode cX6_nest 29 = .ok (.if_icmp .le 5, 3) := by decide +kernel
theorem dX6_nest_32 : decode cX6_nest 32 = .ok (.iconst (-1), 1) := by decide +kernel
theorem dX6_nest_33 : decode cX6_nest 33 = .ok (.ireturn, 1) := by decide +kernel
theorem dX6_nest_34 : decode cX6_nest 34 = .ok (.aload_n 0, 1) := by decide +kernel
theorem dX6_nest_35 : decode cX6_nest 35 = .ok (.getfield 200, 3) := by decide +kernel
theorem dX6_nest_38 : decode cX6_nest 38 = .ok (.istore 5, 2) := by decide +kernel
theorem dX6_nest_40 : decode cX6_nest 40 = .ok (.iload 5, 2) := by decide +kernel
theorem dX6_nest_42 : decode cX6_nest 42 = .ok (.ifCond .lt 13, 3) := by decide +kernel
theorem dX6_nest_45 : decode cX6_nest 45 = .ok (.iload 5, 2) := by decide +kernel
theorem dX6_nest_47 : decode cX6_nest 47 = .ok (.aload_n 0, 1) := by decide +kernel
theorem dX6_nest_48 : decode cX6_nest 48 = .ok (.getfield 58, 3) := by decide +kernel
theorem dX6_nest_51 : decode cX6_nest 51 = .ok (.arraylength, 1) := by decide +kernel
theorem dX6_nest_52 : decode cX6_nest 52 = .ok (.if_icmp .lt 5, 3) := by decide +kernel
theorem dX6_nest_55 : decode cX6_nest 55 = .ok (.iconst (-1), 1) := by decide +kernel
theorem dX6_nest_56 : decode cX6_nest 56 = .ok (.ireturn, 1) := by decide +kernel
theorem dX6_nest_57 : decode cX6_nest 57 = .ok (.aload_n 0, 1) := by decide +kernel
theorem dX6_nest_58 : decode cX6_nest 58 = .ok (.getfield 58, 3) := by decide +kernel
theorem dX6_nest_61 : decode cX6_nest 61 = .ok (.iload 5, 2) := by decide +kernel
theorem dX6_nest_63 : decode cX6_nest 63 = .ok (.aaload, 1) := by decide +kernel
theorem dX6_nest_64 : decode cX6_nest 64 = .ok (.aload 4, 2) := by decide +kernel
theorem dX6_nest_66 : decode cX6_nest 66 = .ok (.iload_n 3, 1) := by decide +kernel
theorem dX6_nest_67 : decode cX6_nest 67 = .ok (.invokevirtual 203, 3) := by decide +kernel
theorem dX6_nest_70 : decode cX6_nest 70 = .ok (.aload_n 0, 1) := by decide +kernel
theorem dX6_nest_71 : decode cX6_nest 71 = .ok (.iload 5, 2) := by decide +kernel
theorem dX6_nest_73 : decode cX6_nest 73 = .ok (.iconst 1, 1) := by decide +kernel
theorem dX6_nest_74 : decode cX6_nest 74 = .ok (.iadd, 1) := by decide +kernel
theorem dX6_nest_75 : decode cX6_nest 75 = .ok (.putfield 200, 3) := by decide +kernel
theorem dX6_nest_78 : decode cX6_nest 78 = .ok (.aload_n 0, 1) := by decide +kernel
theorem dX6_nest_79 : decode cX6_nest 79 = .ok (.dup, 1) := by decide +kernel
theorem dX6_nest_80 : decode cX6_nest 80 = .ok (.getfield 109, 3) := by decide +kernel
theorem dX6_nest_83 : decode cX6_nest 83 = .ok (.iconst 1, 1) := by decide +kernel
theorem dX6_nest_84 : decode cX6_nest 84 = .ok (.iadd, 1) := by decide +kernel
theorem dX6_nest_85 : decode cX6_nest 85 = .ok (.putfield 109, 3) := by decide +kernel
theorem dX6_nest_88 : decode cX6_nest 88 = .ok (.iload 5, 2) := by decide +kernel
theorem dX6_nest_90 : decode cX6_nest 90 = .ok (.ireturn, 1) := by decide +kernel
theorem dX6_equal_0 : decode cX6_equal 0 = .ok (.iload_n 1, 1) := by decide +kernel
theorem dX6_equal_1 : decode cX6_equal 1 = .ok (.ifCond .lt 28, 3) := by decide +kernel
theorem dX6_equal_4 : decode cX6_equal 4 = .ok (.iload_n 1, 1) := by decide +kernel
theorem dX6_equal_5 : decode cX6_equal 5 = .ok (.aload_n 0, 1) := by decide +kernel
theorem dX6_equal_6 : decode cX6_equal 6 = .ok (.getfield 58, 3) := by decide +kernel
theorem dX6_equal_9 : decode cX6_equal 9 = .ok (.arraylength, 1) := by decide +kernel
theorem dX6_equal_10 : decode cX6_equal 10 = .ok (.if_icmp .ge 19, 3) := by decide +kernel
theorem dX6_equal_13 : decode cX6_equal 13 = .ok (.aload_n 0, 1) := by decide +kernel
theorem dX6_equal_14 : decode cX6_equal 14 = .ok (.getfield 58, 3) := by decide +kernel
theorem dX6_equal_17 : decode cX6_equal 17 = .ok (.iload_n 1, 1) := by decide +kernel
theorem dX6_equal_18 : decode cX6_equal 18 = .ok (.aaload, 1) := by decide +kernel
theorem dX6_equal_19 : decode cX6_equal 19 = .ok (.invokevirtual 209, 3) := by decide +kernel
theorem dX6_equal_22 : decode cX6_equal 22 = .ok (.ifCond .eq 7, 3) := by decide +kernel
theorem dX6_equal_25 : decode cX6_equal 25 = .ok (.iconst 1, 1) := by decide +kernel
theorem dX6_equal_26 : decode cX6_equal 26 = .ok (.goto 4, 3) := by decide +kernel
theorem dX6_equal_29 : decode cX6_equal 29 = .ok (.iconst 0, 1) := by decide +kernel
theorem dX6_equal_30 : decode cX6_equal 30 = .ok (.ireturn, 1) := by decide +kernel
theorem dX6_fit_0 : decode cX6_fit 0 = .ok (.iload_n 1, 1) := by decide +kernel
theorem dX6_fit_1 : decode cX6_fit 1 = .ok (.ifCond .lt 8, 3) := by decide +kernel
theorem dX6_fit_4 : decode cX6_fit 4 = .ok (.iload_n 1, 1) := by decide +kernel
theorem dX6_fit_5 : decode cX6_fit 5 = .ok (.iconst 2, 1) := by decide +kernel
theorem dX6_fit_6 : decode cX6_fit 6 = .ok (.if_icmp .le 5, 3) := by decide +kernel
theorem dX6_fit_9 : decode cX6_fit 9 = .ok (.iconst (-1), 1) := by decide +kernel
theorem dX6_fit_10 : decode cX6_fit 10 = .ok (.ireturn, 1) := by decide +kernel
theorem dX6_fit_11 : decode cX6_fit 11 = .ok (.aload_n 0, 1) := by decide +kernel
theorem dX6_fit_12 : decode cX6_fit 12 = .ok (.getfield 76, 3) := by decide +kernel
theorem dX6_fit_15 : decode cX6_fit 15 = .ok (.iconst 1, 1) := by decide +kernel
theorem dX6_fit_16 : decode cX6_fit 16 = .ok (.iconst 2, 1) := by decide +kernel
theorem dX6_fit_17 : decode cX6_fit 17 = .ok (.iload_n 1, 1) := by decide +kernel
theorem dX6_fit_18 : decode cX6_fit 18 = .ok (.imul, 1) := by decide +kernel
theorem dX6_fit_19 : decode cX6_fit 19 = .ok (.iadd, 1) := by decide +kernel
theorem dX6_fit_20 : decode cX6_fit 20 = .ok (.invokevirtual 212, 3) := by decide +kernel
theorem dX6_fit_23 : decode cX6_fit 23 = .ok (.ireturn, 1) := by decide +kernel
theorem dX6_gauge_0 : decode cX6_gauge 0 = .ok (.aload_n 0, 1) := by decide +kernel
theorem dX6_gauge_1 : decode cX6_gauge 1 = .ok (.iload_n 1, 1) := by decide +kernel
theorem dX6_gauge_2 : decode cX6_gauge 2 = .ok (.iload_n 2, 1) := by decide +kernel
theorem dX6_gauge_3 : decode cX6_gauge 3 = .ok (.invokevirtual 80, 3) := by decide +kernel
theorem dX6_gauge_6 : decode cX6_gauge 6 = .ok (.astore 7, 2) := by decide +kernel
theorem dX6_gauge_8 : decode cX6_gauge 8 = .ok (.aload 7, 2) := by decide +kernel
theorem dX6_gauge_10 : decode cX6_gauge 10 = .ok (.ifnull 28, 3) := by decide +kernel
theorem dX6_gauge_13 : decode cX6_gauge 13 = .ok (.dload_n 3, 1) := by decide +kernel
theorem dX6_gauge_14 : decode cX6_gauge 14 = .ok (.dconst 0, 1) := by decide +kernel
theorem dX6_gauge_15 : decode cX6_gauge 15 = .ok (.ldc2_w 84, 3) := by decide +kernel
theorem dX6_gauge_18 : decode cX6_gauge 18 = .ok (.invokestatic 86, 3) := by decide +kernel
theorem dX6_gauge_21 : decode cX6_gauge 21 = .ok (.ifCond .eq 17, 3) := by decide +kernel
theorem dX6_gauge_24 : decode cX6_gauge 24 = .ok (.dload 5, 2) := by decide +kernel
theorem dX6_gauge_26 : decode cX6_gauge 26 = .ok (.ldc2_w 124, 3) := by decide +kernel
theorem dX6_gauge_29 : decode cX6_gauge 29 = .ok (.ldc2_w 126, 3) := by decide +kernel
theorem dX6_gauge_32 : decode cX6_gauge 32 = .ok (.invokestatic 86, 3) := by decide +kernel
theorem dX6_gauge_35 : decode cX6_gauge 35 = .ok (.ifCond .ne 5, 3) := by decide +kernel
theorem dX6_gauge_38 : decode cX6_gauge 38 = .ok (.iconst 0, 1) := by decide +kernel
theorem dX6_gauge_39 : decode cX6_gauge 39 = .ok (.ireturn, 1) := by decide +kernel
theorem dX6_gauge_40 : decode cX6_gauge 40 = .ok (.aload_n 0, 1) := by decide +kernel
theorem dX6_gauge_41 : decode cX6_gauge 41 = .ok (.getfield 76, 3) := by decide +kernel
theorem dX6_gauge_44 : decode cX6_gauge 44 = .ok (.dload_n 3, 1) := by decide +kernel
theorem dX6_gauge_45 : decode cX6_gauge 45 = .ok (.dload 5, 2) := by decide +kernel
theorem dX6_gauge_47 : decode cX6_gauge 47 = .ok (.invokevirtual 216, 3) := by decide +kernel
theorem dX6_gauge_50 : decode cX6_gauge 50 = .ok (.ifCond .ne 5, 3) := by decide +kernel
theorem dX6_gauge_53 : decode cX6_gauge 53 = .ok (.iconst 0, 1) := by decide +kernel
theorem dX6_gauge_54 : decode cX6_gauge 54 = .ok (.ireturn, 1) := by decide +kernel
theorem dX6_gauge_55 : decode cX6_gauge 55 = .ok (.aload 7, 2) := by decide +kernel
theorem dX6_gauge_57 : decode cX6_gauge 57 = .ok (.iconst 1, 1) := by decide +kernel
theorem dX6_gauge_58 : decode cX6_gauge 58 = .ok (.putfield 220, 3) := by decide +kernel
theorem dX6_gauge_61 : decode cX6_gauge 61 = .ok (.aload 7, 2) := by decide +kernel
theorem dX6_gauge_63 : decode cX6_gauge 63 = .ok (.dload 5, 2) := by decide +kernel
theorem dX6_gauge_65 : decode cX6_gauge 65 = .ok (.putfield 224, 3) := by decide +kernel
theorem dX6_gauge_68 : decode cX6_gauge 68 = .ok (.iconst 1, 1) := by decide +kernel
theorem dX6_gauge_69 : decode cX6_gauge 69 = .ok (.ireturn, 1) := by decide +kernel
theorem dX6_tide_0 : decode cX6_tide 0 = .ok (.dload_n 1, 1) := by decide +kernel
theorem dX6_tide_1 : decode cX6_tide 1 = .ok (.dconst 0, 1) := by decide +kernel
theorem dX6_tide_2 : decode cX6_tide 2 = .ok (.ldc2_w 84, 3) := by decide +kernel
theorem dX6_tide_5 : decode cX6_tide 5 = .ok (.invokestatic 86, 3) := by decide +kernel
theorem dX6_tide_8 : decode cX6_tide 8 = .ok (.ifCond .eq 14, 3) := by decide +kernel
theorem dX6_tide_11 : decode cX6_tide 11 = .ok (.aload_n 0, 1) := by decide +kernel
theorem dX6_tide_12 : decode cX6_tide 12 = .ok (.getfield 76, 3) := by decide +kernel
theorem dX6_tide_15 : decode cX6_tide 15 = .ok (.dload_n 1, 1) := by decide +kernel
theorem dX6_tide_16 : decode cX6_tide 16 = .ok (.invokevirtual 227, 3) := by decide +kernel
theorem dX6_tide_19 : decode cX6_tide 19 = .ok (.goto 4, 3) := by decide +kernel
theorem dX6_tide_22 : decode cX6_tide 22 = .ok (.dconst 0, 1) := by decide +kernel
theorem dX6_tide_23 : decode cX6_tide 23 = .ok (.dreturn, 1) := by decide +kernel
theorem dX6_save_0 : decode cX6_save 0 = .ok (.aload_n 0, 1) := by decide +kernel
theorem dX6_save_1 : decode cX6_save 1 = .ok (.getfield 231, 3) := by decide +kernel
theorem dX6_save_4 : decode cX6_save 4 = .ok (.istore_n 1, 1) := by decide +kernel
theorem dX6_save_5 : decode cX6_save 5 = .ok (.iload_n 1, 1) := by decide +kernel
theorem dX6_save_6 : decode cX6_save 6 = .ok (.ifCond .lt 12, 3) := by decide +kernel
theorem dX6_save_9 : decode cX6_save 9 = .ok (.iload_n 1, 1) := by decide +kernel
theorem dX6_save_10 : decode cX6_save 10 = .ok (.aload_n 0, 1) := by decide +kernel
theorem dX6_save_11 : decode cX6_save 11 = .ok (.getfield 69, 3) := by decide +kernel
theorem dX6_save_14 : decode cX6_save 14 = .ok (.arraylength, 1) := by decide +kernel
theorem dX6_save_15 : decode cX6_save 15 = .ok (.if_icmp .lt 5, 3) := by decide +kernel
theorem dX6_save_18 : decode cX6_save 18 = .ok (.iconst (-1), 1) := by decide +kernel
theorem dX6_save_19 : decode cX6_save 19 = .ok (.ireturn, 1) := by decide +kernel
theorem dX6_save_20 : decode cX6_save 20 = .ok (.aload_n 0, 1) := by decide +kernel
theorem dX6_save_21 : decode cX6_save 21 = .ok (.getfield 69, 3) := by decide +kernel
theorem dX6_save_24 : decode cX6_save 24 = .ok (.iload_n 1, 1) := by decide +kernel
theorem dX6_save_25 : decode cX6_save 25 = .ok (.aaload, 1) := by decide +kernel
theorem dX6_save_26 : decode cX6_save 26 = .ok (.astore_n 2, 1) := by decide +kernel
theorem dX6_save_27 : decode cX6_save 27 = .ok (.aload_n 2, 1) := by decide +kernel
theorem dX6_save_28 : decode cX6_save 28 = .ok (.aload_n 0, 1) := by decide +kernel
theorem dX6_save_29 : decode cX6_save 29 = .ok (.getfield 31, 3) := by decide +kernel
theorem dX6_save_32 : decode cX6_save 32 = .ok (.invokevirtual 234, 3) := by decide +kernel
theorem dX6_save_35 : decode cX6_save 35 = .ok (.aload_n 2, 1) := by decide +kernel
theorem dX6_save_36 : decode cX6_save 36 = .ok (.aload_n 0, 1) := by decide +kernel
theorem dX6_save_37 : decode cX6_save 37 = .ok (.getfield 43, 3) := by decide +kernel
theorem dX6_save_40 : decode cX6_save 40 = .ok (.invokevirtual 240, 3) := by decide +kernel
theorem dX6_save_43 : decode cX6_save 43 = .ok (.aload_n 2, 1) := by decide +kernel
theorem dX6_save_44 : decode cX6_save 44 = .ok (.aload_n 0, 1) := by decide +kernel
theorem dX6_save_45 : decode cX6_save 45 = .ok (.getfield 58, 3) := by decide +kernel
theorem dX6_save_48 : decode cX6_save 48 = .ok (.invokevirtual 244, 3) := by decide +kernel
theorem dX6_save_51 : decode cX6_save 51 = .ok (.aload_n 2, 1) := by decide +kernel
theorem dX6_save_52 : decode cX6_save 52 = .ok (.aload_n 0, 1) := by decide +kernel
theorem dX6_save_53 : decode cX6_save 53 = .ok (.getfield 35, 3) := by decide +kernel
theorem dX6_save_56 : decode cX6_save 56 = .ok (.invokevirtual 248, 3) := by decide +kernel
theorem dX6_save_59 : decode cX6_save 59 = .ok (.aload_n 2, 1) := by decide +kernel
theorem dX6_save_60 : decode cX6_save 60 = .ok (.aload_n 0, 1) := by decide +kernel
theorem dX6_save_61 : decode cX6_save 61 = .ok (.getfield 252, 3) := by decide +kernel
theorem dX6_save_64 : decode cX6_save 64 = .ok (.putfield 255, 3) := by decide +kernel
theorem dX6_save_67 : decode cX6_save 67 = .ok (.aload_n 2, 1) := by decide +kernel
theorem dX6_save_68 : decode cX6_save 68 = .ok (.aload_n 0, 1) := by decide +kernel
theorem dX6_save_69 : decode cX6_save 69 = .ok (.getfield 180, 3) := by decide +kernel
theorem dX6_save_72 : decode cX6_save 72 = .ok (.putfield 256, 3) := by decide +kernel
theorem dX6_save_75 : decode cX6_save 75 = .ok (.aload_n 2, 1) := by decide +kernel
theorem dX6_save_76 : decode cX6_save 76 = .ok (.aload_n 0, 1) := by decide +kernel
theorem dX6_save_77 : decode cX6_save 77 = .ok (.getfield 109, 3) := by decide +kernel
theorem dX6_save_80 : decode cX6_save 80 = .ok (.putfield 257, 3) := by decide +kernel
theorem dX6_save_83 : decode cX6_save 83 = .ok (.aload_n 0, 1) := by decide +kernel
theorem dX6_save_84 : decode cX6_save 84 = .ok (.iload_n 1, 1) := by decide +kernel
theorem dX6_save_85 : decode cX6_save 85 = .ok (.iconst 1, 1) := by decide +kernel
theorem dX6_save_86 : decode cX6_save 86 = .ok (.iadd, 1) := by decide +kernel
theorem dX6_save_87 : decode cX6_save 87 = .ok (.putfield 231, 3) := by decide +kernel
theorem dX6_save_90 : decode cX6_save 90 = .ok (.iload_n 1, 1) := by decide +kernel
theorem dX6_save_91 : decode cX6_save 91 = .ok (.ireturn, 1) := by decide +kernel
theorem dX6_back_0 : decode cX6_back 0 = .ok (.iload_n 1, 1) := by decide +kernel
theorem dX6_back_1 : decode cX6_back 1 = .ok (.ifCond .lt 12, 3) := by decide +kernel
theorem dX6_back_4 : decode cX6_back 4 = .ok (.iload_n 1, 1) := by decide +kernel
theorem dX6_back_5 : decode cX6_back 5 = .ok (.aload_n 0, 1) := by decide +kernel
theorem dX6_back_6 : decode cX6_back 6 = .ok (.getfield 69, 3) := by decide +kernel
theorem dX6_back_9 : decode cX6_back 9 = .ok (.arraylength, 1) := by decide +kernel
theorem dX6_back_10 : decode cX6_back 10 = .ok (.if_icmp .lt 5, 3) := by decide +kernel
theorem dX6_back_13 : decode cX6_back 13 = .ok (.iconst 0, 1) := by decide +kernel
theorem dX6_back_14 : decode cX6_back 14 = .ok (.ireturn, 1) := by decide +kernel
theorem dX6_back_15 : decode cX6_back 15 = .ok (.aload_n 0, 1) := by decide +kernel
theorem dX6_back_16 : decode cX6_back 16 = .ok (.getfield 69, 3) := by decide +kernel
theorem dX6_back_19 : decode cX6_back 19 = .ok (.iload_n 1, 1) := by decide +kernel
theorem dX6_back_20 : decode cX6_back 20 = .ok (.aaload, 1) := by decide +kernel
theorem dX6_back_21 : decode cX6_back 21 = .ok (.astore_n 2, 1) := by decide +kernel
theorem dX6_back_22 : decode cX6_back 22 = .ok (.aload_n 2, 1) := by decide +kernel
theorem dX6_back_23 : decode cX6_back 23 = .ok (.getfield 257, 3) := by decide +kernel
theorem dX6_back_26 : decode cX6_back 26 = .ok (.aload_n 0, 1) := by decide +kernel
theorem dX6_back_27 : decode cX6_back 27 = .ok (.getfield 109, 3) := by decide +kernel
theorem dX6_back_30 : decode cX6_back 30 = .ok (.if_icmp .eq 5, 3) := by decide +kernel
theorem dX6_back_33 : decode cX6_back 33 = .ok (.iconst 0, 1) := by decide +kernel
theorem dX6_back_34 : decode cX6_back 34 = .ok (.ireturn, 1) := by decide +kernel
theorem dX6_back_35 : decode cX6_back 35 = .ok (.aload_n 2, 1) := by decide +kernel
theorem dX6_back_36 : decode cX6_back 36 = .ok (.aload_n 0, 1) := by decide +kernel
theorem dX6_back_37 : decode cX6_back 37 = .ok (.getfield 31, 3) := by decide +kernel
theorem dX6_back_40 : decode cX6_back 40 = .ok (.invokevirtual 258, 3) := by decide +kernel
theorem dX6_back_43 : decode cX6_back 43 = .ok (.aload_n 2, 1) := by decide +kernel
theorem dX6_back_44 : decode cX6_back 44 = .ok (.aload_n 0, 1) := by decide +kernel
theorem dX6_back_45 : decode cX6_back 45 = .ok (.getfield 43, 3) := by decide +kernel
theorem dX6_back_48 : decode cX6_back 48 = .ok (.invokevirtual 261, 3) := by decide +kernel
theorem dX6_back_51 : decode cX6_back 51 = .ok (.aload_n 2, 1) := by decide +kernel
theorem dX6_back_52 : decode cX6_back 52 = .ok (.aload_n 0, 1) := by decide +kernel
theorem dX6_back_53 : decode cX6_back 53 = .ok (.getfield 58, 3) := by decide +kernel
theorem dX6_back_56 : decode cX6_back 56 = .ok (.invokevirtual 264, 3) := by decide +kernel
theorem dX6_back_59 : decode cX6_back 59 = .ok (.aload_n 2, 1) := by decide +kernel
theorem dX6_back_60 : decode cX6_back 60 = .ok (.aload_n 0, 1) := by decide +kernel
theorem dX6_back_61 : decode cX6_back 61 = .ok (.getfield 35, 3) := by decide +kernel
theorem dX6_back_64 : decode cX6_back 64 = .ok (.invokevirtual 267, 3) := by decide +kernel
theorem dX6_back_67 : decode cX6_back 67 = .ok (.aload_n 0, 1) := by decide +kernel
theorem dX6_back_68 : decode cX6_back 68 = .ok (.aload_n 2, 1) := by decide +kernel
theorem dX6_back_69 : decode cX6_back 69 = .ok (.getfield 255, 3) := by decide +kernel
theorem dX6_back_72 : decode cX6_back 72 = .ok (.putfield 252, 3) := by decide +kernel
theorem dX6_back_75 : decode cX6_back 75 = .ok (.aload_n 0, 1) := by decide +kernel
theorem dX6_back_76 : decode cX6_back 76 = .ok (.aload_n 2, 1) := by decide +kernel
theorem dX6_back_77 : decode cX6_back 77 = .ok (.getfield 256, 3) := by decide +kernel
theorem dX6_back_80 : decode cX6_back 80 = .ok (.putfield 180, 3) := by decide +kernel
theorem dX6_back_83 : decode cX6_back 83 = .ok (.iconst 1, 1) := by decide +kernel
theorem dX6_back_84 : decode cX6_back 84 = .ok (.ireturn, 1) := by decide +kernel
theorem dX6_ice_0 : decode cX6_ice 0 = .ok (.aload_n 0, 1) := by decide +kernel
theorem dX6_ice_1 : decode cX6_ice 1 = .ok (.iload_n 1, 1) := by decide +kernel
theorem dX6_ice_2 : decode cX6_ice 2 = .ok (.iload_n 2, 1) := by decide +kernel
theorem dX6_ice_3 : decode cX6_ice 3 = .ok (.invokevirtual 128, 3) := by decide +kernel
theorem dX6_ice_6 : decode cX6_ice 6 = .ok (.astore_n 3, 1) := by decide +kernel
theorem dX6_ice_7 : decode cX6_ice 7 = .ok (.aload_n 3, 1) := by decide +kernel
theorem dX6_ice_8 : decode cX6_ice 8 = .ok (.ifnonnull 5, 3) := by decide +kernel
theorem dX6_ice_11 : decode cX6_ice 11 = .ok (.dconst 0, 1) := by decide +kernel
theorem dX6_ice_12 : decode cX6_ice 12 = .ok (.dreturn, 1) := by decide +kernel
theorem dX6_ice_13 : decode cX6_ice 13 = .ok (.ldc2_w 270, 3) := by decide +kernel
theorem dX6_ice_16 : decode cX6_ice 16 = .ok (.ldc2_w 272, 3) := by decide +kernel
theorem dX6_ice_19 : decode cX6_ice 19 = .ok (.aload_n 3, 1) := by decide +kernel
theorem dX6_ice_20 : decode cX6_ice 20 = .ok (.getfield 183, 3) := by decide +kernel
theorem dX6_ice_23 : decode cX6_ice 23 = .ok (.dadd, 1) := by decide +kernel
theorem dX6_ice_24 : decode cX6_ice 24 = .ok (.dsub, 1) := by decide +kernel
theorem dX6_ice_25 : decode cX6_ice 25 = .ok (.ldc2_w 186, 3) := by decide +kernel
theorem dX6_ice_28 : decode cX6_ice 28 = .ok (.dmul, 1) := by decide +kernel
theorem dX6_ice_29 : decode cX6_ice 29 = .ok (.dstore 4, 2) := by decide +kernel
theorem dX6_ice_31 : decode cX6_ice 31 = .ok (.dload 4, 2) := by decide +kernel
theorem dX6_ice_33 : decode cX6_ice 33 = .ok (.dconst 0, 1) := by decide +kernel
theorem dX6_ice_34 : decode cX6_ice 34 = .ok (.dcmp .g, 1) := by decide +kernel
theorem dX6_ice_35 : decode cX6_ice 35 = .ok (.ifCond .ge 5, 3) := by decide +kernel
theorem dX6_ice_38 : decode cX6_ice 38 = .ok (.dconst 0, 1) := by decide +kernel
theorem dX6_ice_39 : decode cX6_ice 39 = .ok (.dreturn, 1) := by decide +kernel
theorem dX6_ice_40 : decode cX6_ice 40 = .ok (.dload 4, 2) := by decide +kernel
theorem dX6_ice_42 : decode cX6_ice 42 = .ok (.dconst 1, 1) := by decide +kernel
theorem dX6_ice_43 : decode cX6_ice 43 = .ok (.dcmp .l, 1) := by decide +kernel
theorem dX6_ice_44 : decode cX6_ice 44 = .ok (.ifCond .le 7, 3) := by decide +kernel
theorem dX6_ice_47 : decode cX6_ice 47 = .ok (.dconst 1, 1) := by decide +kernel
theorem dX6_ice_48 : decode cX6_ice 48 = .ok (.goto 5, 3) := by decide +kernel
theorem dX6_ice_51 : decode cX6_ice 51 = .ok (.dload 4, 2) := by decide +kernel
theorem dX6_ice_53 : decode cX6_ice 53 = .ok (.dreturn, 1) := by decide +kernel
theorem dX6_mud_0 : decode cX6_mud 0 = .ok (.aload_n 0, 1) := by decide +kernel
theorem dX6_mud_1 : decode cX6_mud 1 = .ok (.iload_n 1, 1) := by decide +kernel
theorem dX6_mud_2 : decode cX6_mud 2 = .ok (.iload_n 2, 1) := by decide +kernel
theorem dX6_mud_3 : decode cX6_mud 3 = .ok (.invokevirtual 128, 3) := by decide +kernel
theorem dX6_mud_6 : decode cX6_mud 6 = .ok (.astore_n 3, 1) := by decide +kernel
theorem dX6_mud_7 : decode cX6_mud 7 = .ok (.aload_n 3, 1) := by decide +kernel
theorem dX6_mud_8 : decode cX6_mud 8 = .ok (.ifnonnull 7, 3) := by decide +kernel
theorem dX6_mud_11 : decode cX6_mud 11 = .ok (.dconst 0, 1) := by decide +kernel
theorem dX6_mud_12 : decode cX6_mud 12 = .ok (.goto 7, 3) := by decide +kernel
theorem dX6_mud_15 : decode cX6_mud 15 = .ok (.aload_n 3, 1) := by decide +kernel
theorem dX6_mud_16 : decode cX6_mud 16 = .ok (.getfield 274, 3) := by decide +kernel
theorem dX6_mud_19 : decode cX6_mud 19 = .ok (.dreturn, 1) := by decide +kernel
theorem dX6_differs_0 : decode cX6_differs 0 = .ok (.aload_n 0, 1) := by decide +kernel
theorem dX6_differs_1 : decode cX6_differs 1 = .ok (.iload_n 1, 1) := by decide +kernel
theorem dX6_differs_2 : decode cX6_differs 2 = .ok (.iload_n 2, 1) := by decide +kernel
theorem dX6_differs_3 : decode cX6_differs 3 = .ok (.invokevirtual 128, 3) := by decide +kernel
theorem dX6_differs_6 : decode cX6_differs 6 = .ok (.astore_n 3, 1) := by decide +kernel
theorem dX6_differs_7 : decode cX6_differs 7 = .ok (.aload_n 3, 1) := by decide +kernel
theorem dX6_differs_8 : decode cX6_differs 8 = .ok (.ifnull 10, 3) := by decide +kernel
theorem dX6_differs_11 : decode cX6_differs 11 = .ok (.aload_n 3, 1) := by decide +kernel
theorem dX6_differs_12 : decode cX6_differs 12 = .ok (.getfield 220, 3) := by decide +kernel
theorem dX6_differs_15 : decode cX6_differs 15 = .ok (.ifCond .ne 5, 3) := by decide +kernel
theorem dX6_differs_18 : decode cX6_differs 18 = .ok (.dconst 0, 1) := by decide +kernel
theorem dX6_differs_19 : decode cX6_differs 19 = .ok (.dreturn, 1) := by decide +kernel
theorem dX6_differs_20 : decode cX6_differs 20 = .ok (.aload_n 3, 1) := by decide +kernel
theorem dX6_differs_21 : decode cX6_differs 21 = .ok (.getfield 224, 3) := by decide +kernel
theorem dX6_differs_24 : decode cX6_differs 24 = .ok (.aload_n 3, 1) := by decide +kernel
theorem dX6_differs_25 : decode cX6_differs 25 = .ok (.invokevirtual 144, 3) := by decide +kernel
theorem dX6_differs_28 : decode cX6_differs 28 = .ok (.dsub, 1) := by decide +kernel
theorem dX6_differs_29 : decode cX6_differs 29 = .ok (.dreturn, 1) := by decide +kernel
theorem dX6_step_0 : decode cX6_step 0 = .ok (.aload_n 0, 1) := by decide +kernel
theorem dX6_step_1 : decode cX6_step 1 = .ok (.getfield 252, 3) := by decide +kernel
theorem dX6_step_4 : decode cX6_step 4 = .ok (.ldc2_w 277, 3) := by decide +kernel
theorem dX6_step_7 : decode cX6_step 7 = .ok (.ddiv, 1) := by decide +kernel
theorem dX6_step_8 : decode cX6_step 8 = .ok (.d2l, 1) := by decide +kernel
theorem dX6_step_9 : decode cX6_step 9 = .ok (.ldc2_w 279, 3) := by decide +kernel
theorem dX6_step_12 : decode cX6_step 12 = .ok (.invokestatic 281, 3) := by decide +kernel
theorem dX6_step_15 : decode cX6_step 15 = .ok (.l2i, 1) := by decide +kernel
theorem dX6_step_16 : decode cX6_step 16 = .ok (.istore_n 3, 1) := by decide +kernel
theorem dX6_step_17 : decode cX6_step 17 = .ok (.aload_n 0, 1) := by decide +kernel
theorem dX6_step_18 : decode cX6_step 18 = .ok (.getfield 31, 3) := by decide +kernel
theorem dX6_step_21 : decode cX6_step 21 = .ok (.astore 4, 2) := by decide +kernel
theorem dX6_step_23 : decode cX6_step 23 = .ok (.aload 4, 2) := by decide +kernel
theorem dX6_step_25 : decode cX6_step 25 = .ok (.arraylength, 1) := by decide +kernel
theorem dX6_step_26 : decode cX6_step 26 = .ok (.istore 5, 2) := by decide +kernel
theorem dX6_step_28 : decode cX6_step 28 = .ok (.iconst 0, 1) := by decide +kernel
theorem dX6_step_29 : decode cX6_step 29 = .ok (.istore 6, 2) := by decide +kernel
theorem dX6_step_31 : decode cX6_step 31 = .ok (.iload 6, 2) := by decide +kernel
theorem dX6_step_33 : decode cX6_step 33 = .ok (.iload 5, 2) := by decide +kernel
theorem dX6_step_35 : decode cX6_step 35 = .ok (.if_icmp .ge 21, 3) := by decide +kernel
theorem dX6_step_38 : decode cX6_step 38 = .ok (.aload 4, 2) := by decide +kernel
theorem dX6_step_40 : decode cX6_step 40 = .ok (.iload 6, 2) := by decide +kernel
theorem dX6_step_42 : decode cX6_step 42 = .ok (.aaload, 1) := by decide +kernel
theorem dX6_step_43 : decode cX6_step 43 = .ok (.astore 7, 2) := by decide +kernel
theorem dX6_step_45 : decode cX6_step 45 = .ok (.aload 7, 2) := by decide +kernel
theorem dX6_step_47 : decode cX6_step 47 = .ok (.invokevirtual 287, 3) := by decide +kernel
theorem dX6_step_50 : decode cX6_step 50 = .ok (.iinc 6 1, 3) := by decide +kernel
theorem dX6_step_53 : decode cX6_step 53 = .ok (.goto (-22), 3) := by decide +kernel
theorem dX6_step_56 : decode cX6_step 56 = .ok (.aload_n 0, 1) := by decide +kernel
theorem dX6_step_57 : decode cX6_step 57 = .ok (.getfield 35, 3) := by decide +kernel
theorem dX6_step_60 : decode cX6_step 60 = .ok (.astore 4, 2) := by decide +kernel
theorem dX6_step_62 : decode cX6_step 62 = .ok (.aload 4, 2) := by decide +kernel
theorem dX6_step_64 : decode cX6_step 64 = .ok (.arraylength, 1) := by decide +kernel
theorem dX6_step_65 : decode cX6_step 65 = .ok (.istore 5, 2) := by decide +kernel
theorem dX6_step_67 : decode cX6_step 67 = .ok (.iconst 0, 1) := by decide +kernel
theorem dX6_step_68 : decode cX6_step 68 = .ok (.istore 6, 2) := by decide +kernel
theorem dX6_step_70 : decode cX6_step 70 = .ok (.iload 6, 2) := by decide +kernel
theorem dX6_step_72 : decode cX6_step 72 = .ok (.iload 5, 2) := by decide +kernel
theorem dX6_step_74 : decode cX6_step 74 = .ok (.if_icmp .ge 25, 3) := by decide +kernel
theorem dX6_step_77 : decode cX6_step 77 = .ok (.aload 4, 2) := by decide +kernel
theorem dX6_step_79 : decode cX6_step 79 = .ok (.iload 6, 2) := by decide +kernel
theorem dX6_step_81 : decode cX6_step 81 = .ok (.aaload, 1) := by decide +kernel
theorem dX6_step_82 : decode cX6_step 82 = .ok (.astore 7, 2) := by decide +kernel
theorem dX6_step_84 : decode cX6_step 84 = .ok (.aload 7, 2) := by decide +kernel
theorem dX6_step_86 : decode cX6_step 86 = .ok (.aload_n 0, 1) := by decide +kernel
theorem dX6_step_87 : decode cX6_step 87 = .ok (.getfield 252, 3) := by decide +kernel
theorem dX6_step_90 : decode cX6_step 90 = .ok (.invokevirtual 290, 3) := by decide +kernel
theorem dX6_step_93 : decode cX6_step 93 = .ok (.iinc 6 1, 3) := by decide +kernel
theorem dX6_step_96 : decode cX6_step 96 = .ok (.goto (-26), 3) := by decide +kernel
theorem dX6_step_99 : decode cX6_step 99 = .ok (.aload_n 0, 1) := by decide +kernel
theorem dX6_step_100 : decode cX6_step 100 = .ok (.getfield 43, 3) := by decide +kernel
theorem dX6_step_103 : decode cX6_step 103 = .ok (.astore 4, 2) := by decide +kernel
theorem dX6_step_105 : decode cX6_step 105 = .ok (.aload 4, 2) := by decide +kernel
theorem dX6_step_107 : decode cX6_step 107 = .ok (.arraylength, 1) := by decide +kernel
theorem dX6_step_108 : decode cX6_step 108 = .ok (.istore 5, 2) := by decide +kernel
theorem dX6_step_110 : decode cX6_step 110 = .ok (.iconst 0, 1) := by decide +kernel
theorem dX6_step_111 : decode cX6_step 111 = .ok (.istore 6, 2) := by decide +kernel
theorem dX6_step_113 : decode cX6_step 113 = .ok (.iload 6, 2) := by decide +kernel
theorem dX6_step_115 : decode cX6_step 115 = .ok (.iload 5, 2) := by decide +kernel
theorem dX6_step_117 : decode cX6_step 117 = .ok (.if_icmp .ge 45, 3) := by decide +kernel
theorem dX6_step_120 : decode cX6_step 120 = .ok (.aload 4, 2) := by decide +kernel
theorem dX6_step_122 : decode cX6_step 122 = .ok (.iload 6, 2) := by decide +kernel
theorem dX6_step_124 : decode cX6_step 124 = .ok (.aaload, 1) := by decide +kernel
theorem dX6_step_125 : decode cX6_step 125 = .ok (.astore 7, 2) := by decide +kernel
theorem dX6_step_127 : decode cX6_step 127 = .ok (.aload 7, 2) := by decide +kernel
theorem dX6_step_129 : decode cX6_step 129 = .ok (.dload_n 1, 1) := by decide +kernel
theorem dX6_step_130 : decode cX6_step 130 = .ok (.aload 7, 2) := by decide +kernel
theorem dX6_step_132 : decode cX6_step 132 = .ok (.getfield 155, 3) := by decide +kernel
theorem dX6_step_135 : decode cX6_step 135 = .ok (.ifCond .ne 12, 3) := by decide +kernel
theorem dX6_step_138 : decode cX6_step 138 = .ok (.aload_n 0, 1) := by decide +kernel
theorem dX6_step_139 : decode cX6_step 139 = .ok (.getfield 47, 3) := by decide +kernel
theorem dX6_step_142 : decode cX6_step 142 = .ok (.iload_n 3, 1) := by decide +kernel
theorem dX6_step_143 : decode cX6_step 143 = .ok (.daload, 1) := by decide +kernel
theorem dX6_step_144 : decode cX6_step 144 = .ok (.goto 9, 3) := by decide +kernel
theorem dX6_step_147 : decode cX6_step 147 = .ok (.aload_n 0, 1) := by decide +kernel
theorem dX6_step_148 : decode cX6_step 148 = .ok (.getfield 51, 3) := by decide +kernel
theorem dX6_step_151 : decode cX6_step 151 = .ok (.iload_n 3, 1) := by decide +kernel
theorem dX6_step_152 : decode cX6_step 152 = .ok (.daload, 1) := by decide +kernel
theorem dX6_step_153 : decode cX6_step 153 = .ok (.invokevirtual 293, 3) := by decide +kernel
theorem dX6_step_156 : decode cX6_step 156 = .ok (.iinc 6 1, 3) := by decide +kernel
theorem dX6_step_159 : decode cX6_step 159 = .ok (.goto (-46), 3) := by decide +kernel
theorem dX6_step_162 : decode cX6_step 162 = .ok (.aload_n 0, 1) := by decide +kernel
theorem dX6_step_163 : decode cX6_step 163 = .ok (.getfield 43, 3) := by decide +kernel
theorem dX6_step_166 : decode cX6_step 166 = .ok (.astore 4, 2) := by decide +kernel
theorem dX6_step_168 : decode cX6_step 168 = .ok (.aload 4, 2) := by decide +kernel
theorem dX6_step_170 : decode cX6_step 170 = .ok (.arraylength, 1) := by decide +kernel
theorem dX6_step_171 : decode cX6_step 171 = .ok (.istore 5, 2) := by decide +kernel
theorem dX6_step_173 : decode cX6_step 173 = .ok (.iconst 0, 1) := by decide +kernel
theorem dX6_step_174 : decode cX6_step 174 = .ok (.istore 6, 2) := by decide +kernel
theorem dX6_step_176 : decode cX6_step 176 = .ok (.iload 6, 2) := by decide +kernel
theorem dX6_step_178 : decode cX6_step 178 = .ok (.iload 5, 2) := by decide +kernel
theorem dX6_step_180 : decode cX6_step 180 = .ok (.if_icmp .ge 21, 3) := by decide +kernel
theorem dX6_step_183 : decode cX6_step 183 = .ok (.aload 4, 2) := by decide +kernel
theorem dX6_step_185 : decode cX6_step 185 = .ok (.iload 6, 2) := by decide +kernel
theorem dX6_step_187 : decode cX6_step 187 = .ok (.aaload, 1) := by decide +kernel
theorem dX6_step_188 : decode cX6_step 188 = .ok (.astore 7, 2) := by decide +kernel
theorem dX6_step_190 : decode cX6_step 190 = .ok (.aload 7, 2) := by decide +kernel
theorem dX6_step_192 : decode cX6_step 192 = .ok (.invokevirtual 297, 3) := by decide +kernel
theorem dX6_step_195 : decode cX6_step 195 = .ok (.iinc 6 1, 3) := by decide +kernel
theorem dX6_step_198 : decode cX6_step 198 = .ok (.goto (-22), 3) := by decide +kernel
theorem dX6_step_201 : decode cX6_step 201 = .ok (.aload_n 0, 1) := by decide +kernel
theorem dX6_step_202 : decode cX6_step 202 = .ok (.getfield 31, 3) := by decide +kernel
theorem dX6_step_205 : decode cX6_step 205 = .ok (.astore 4, 2) := by decide +kernel
theorem dX6_step_207 : decode cX6_step 207 = .ok (.aload 4, 2) := by decide +kernel
theorem dX6_step_209 : decode cX6_step 209 = .ok (.arraylength, 1) := by decide +kernel
theorem dX6_step_210 : decode cX6_step 210 = .ok (.istore 5, 2) := by decide +kernel
theorem dX6_step_212 : decode cX6_step 212 = .ok (.iconst 0, 1) := by decide +kernel
theorem dX6_step_213 : decode cX6_step 213 = .ok (.istore 6, 2) := by decide +kernel
theorem dX6_step_215 : decode cX6_step 215 = .ok (.iload 6, 2) := by decide +kernel
theorem dX6_step_217 : decode cX6_step 217 = .ok (.iload 5, 2) := by decide +kernel
theorem dX6_step_219 : decode cX6_step 219 = .ok (.if_icmp .ge 37, 3) := by decide +kernel
theorem dX6_step_222 : decode cX6_step 222 = .ok (.aload 4, 2) := by decide +kernel
theorem dX6_step_224 : decode cX6_step 224 = .ok (.iload 6, 2) := by decide +kernel
theorem dX6_step_226 : decode cX6_step 226 = .ok (.aaload, 1) := by decide +kernel
theorem dX6_step_227 : decode cX6_step 227 = .ok (.astore 7, 2) := by decide +kernel
theorem dX6_step_229 : decode cX6_step 229 = .ok (.aload_n 0, 1) := by decide +kernel
theorem dX6_step_230 : decode cX6_step 230 = .ok (.aload_n 0, 1) := by decide +kernel
theorem dX6_step_231 : decode cX6_step 231 = .ok (.getfield 180, 3) := by decide +kernel
theorem dX6_step_234 : decode cX6_step 234 = .ok (.aload 7, 2) := by decide +kernel
theorem dX6_step_236 : decode cX6_step 236 = .ok (.dload_n 1, 1) := by decide +kernel
theorem dX6_step_237 : decode cX6_step 237 = .ok (.invokevirtual 300, 3) := by decide +kernel
theorem dX6_step_240 : decode cX6_step 240 = .ok (.ladd, 1) := by decide +kernel
theorem dX6_step_241 : decode cX6_step 241 = .ok (.putfield 180, 3) := by decide +kernel
theorem dX6_step_244 : decode cX6_step 244 = .ok (.aload 7, 2) := by decide +kernel
theorem dX6_step_246 : decode cX6_step 246 = .ok (.dload_n 1, 1) := by decide +kernel
theorem dX6_step_247 : decode cX6_step 247 = .ok (.invokevirtual 304, 3) := by decide +kernel
theorem dX6_step_250 : decode cX6_step 250 = .ok (.iinc 6 1, 3) := by decide +kernel
theorem dX6_step_253 : decode cX6_step 253 = .ok (.goto (-38), 3) := by decide +kernel
theorem dX6_step_256 : decode cX6_step 256 = .ok (.aload_n 0, 1) := by decide +kernel
theorem dX6_step_257 : decode cX6_step 257 = .ok (.aload_n 0, 1) := by decide +kernel
theorem dX6_step_258 : decode cX6_step 258 = .ok (.getfield 252, 3) := by decide +kernel
theorem dX6_step_261 : decode cX6_step 261 = .ok (.dload_n 1, 1) := by decide +kernel
theorem dX6_step_262 : decode cX6_step 262 = .ok (.dadd, 1) := by decide +kernel
theorem dX6_step_263 : decode cX6_step 263 = .ok (.putfield 252, 3) := by decide +kernel
theorem dX6_step_266 : decode cX6_step 266 = .ok (.return_, 1) := by decide +kernel
theorem dX6_cellAt_0 : decode cX6_cellAt 0 = .ok (.iload_n 1, 1) := by decide +kernel
theorem dX6_cellAt_1 : decode cX6_cellAt 1 = .ok (.ifCond .lt 23, 3) := by decide +kernel
theorem dX6_cellAt_4 : decode cX6_cellAt 4 = .ok (.iload_n 1, 1) := by decide +kernel
theorem dX6_cellAt_5 : decode cX6_cellAt 5 = .ok (.aload_n 0, 1) := by decide +kernel
theorem dX6_cellAt_6 : decode cX6_cellAt 6 = .ok (.getfield 21, 3) := by decide +kernel
theorem dX6_cellAt_9 : decode cX6_cellAt 9 = .ok (.if_icmp .ge 15, 3) := by decide +kernel
theorem dX6_cellAt_12 : decode cX6_cellAt 12 = .ok (.iload_n 2, 1) := by decide +kernel
theorem dX6_cellAt_13 : decode cX6_cellAt 13 = .ok (.ifCond .lt 11, 3) := by decide +kernel
theorem dX6_cellAt_16 : decode cX6_cellAt 16 = .ok (.iload_n 2, 1) := by decide +kernel
theorem dX6_cellAt_17 : decode cX6_cellAt 17 = .ok (.aload_n 0, 1) := by decide +kernel
theorem dX6_cellAt_18 : decode cX6_cellAt 18 = .ok (.getfield 25, 3) := by decide +kernel
theorem dX6_cellAt_21 : decode cX6_cellAt 21 = .ok (.if_icmp .lt 5, 3) := by decide +kernel
theorem dX6_cellAt_24 : decode cX6_cellAt 24 = .ok (.aconst_null, 1) := by decide +kernel
theorem dX6_cellAt_25 : decode cX6_cellAt 25 = .ok (.areturn, 1) := by decide +kernel
theorem dX6_cellAt_26 : decode cX6_cellAt 26 = .ok (.iload_n 2, 1) := by decide +kernel
theorem dX6_cellAt_27 : decode cX6_cellAt 27 = .ok (.aload_n 0, 1) := by decide +kernel
theorem dX6_cellAt_28 : decode cX6_cellAt 28 = .ok (.getfield 21, 3) := by decide +kernel
theorem dX6_cellAt_31 : decode cX6_cellAt 31 = .ok (.imul, 1) := by decide +kernel
theorem dX6_cellAt_32 : decode cX6_cellAt 32 = .ok (.iload_n 1, 1) := by decide +kernel
theorem dX6_cellAt_33 : decode cX6_cellAt 33 = .ok (.iadd, 1) := by decide +kernel
theorem dX6_cellAt_34 : decode cX6_cellAt 34 = .ok (.istore_n 3, 1) := by decide +kernel
theorem dX6_cellAt_35 : decode cX6_cellAt 35 = .ok (.iload_n 3, 1) := by decide +kernel
theorem dX6_cellAt_36 : decode cX6_cellAt 36 = .ok (.aload_n 0, 1) := by decide +kernel
theorem dX6_cellAt_37 : decode cX6_cellAt 37 = .ok (.getfield 31, 3) := by decide +kernel
theorem dX6_cellAt_40 : decode cX6_cellAt 40 = .ok (.arraylength, 1) := by decide +kernel
theorem dX6_cellAt_41 : decode cX6_cellAt 41 = .ok (.if_icmp .ge 12, 3) := by decide +kernel
theorem dX6_cellAt_44 : decode cX6_cellAt 44 = .ok (.aload_n 0, 1) := by decide +kernel
theorem dX6_cellAt_45 : decode cX6_cellAt 45 = .ok (.getfield 31, 3) := by decide +kernel
theorem dX6_cellAt_48 : decode cX6_cellAt 48 = .ok (.iload_n 3, 1) := by decide +kernel
theorem dX6_cellAt_49 : decode cX6_cellAt 49 = .ok (.aaload, 1) := by decide +kernel
theorem dX6_cellAt_50 : decode cX6_cellAt 50 = .ok (.goto 4, 3) := by decide +kernel
theorem dX6_cellAt_53 : decode cX6_cellAt 53 = .ok (.aconst_null, 1) := by decide +kernel
theorem dX6_cellAt_54 : decode cX6_cellAt 54 = .ok (.areturn, 1) := by decide +kernel
theorem dX6_waterAt_0 : decode cX6_waterAt 0 = .ok (.aload_n 0, 1) := by decide +kernel
theorem dX6_waterAt_1 : decode cX6_waterAt 1 = .ok (.iload_n 1, 1) := by decide +kernel
theorem dX6_waterAt_2 : decode cX6_waterAt 2 = .ok (.iload_n 2, 1) := by decide +kernel
theorem dX6_waterAt_3 : decode cX6_waterAt 3 = .ok (.invokevirtual 80, 3) := by decide +kernel
theorem dX6_waterAt_6 : decode cX6_waterAt 6 = .ok (.astore_n 3, 1) := by decide +kernel
theorem dX6_waterAt_7 : decode cX6_waterAt 7 = .ok (.aload_n 3, 1) := by decide +kernel
theorem dX6_waterAt_8 : decode cX6_waterAt 8 = .ok (.ifnull 14, 3) := by decide +kernel
theorem dX6_waterAt_11 : decode cX6_waterAt 11 = .ok (.aload_n 3, 1) := by decide +kernel
theorem dX6_waterAt_12 : decode cX6_waterAt 12 = .ok (.getfield 307, 3) := by decide +kernel
theorem dX6_waterAt_15 : decode cX6_waterAt 15 = .ok (.ifCond .eq 7, 3) := by decide +kernel
theorem dX6_waterAt_18 : decode cX6_waterAt 18 = .ok (.aload_n 3, 1) := by decide +kernel
theorem dX6_waterAt_19 : decode cX6_waterAt 19 = .ok (.goto 4, 3) := by decide +kernel
theorem dX6_waterAt_22 : decode cX6_waterAt 22 = .ok (.aconst_null, 1) := by decide +kernel
theorem dX6_waterAt_23 : decode cX6_waterAt 23 = .ok (.areturn, 1) := by decide +kernel
theorem dX6_sideAt_0 : decode cX6_sideAt 0 = .ok (.iload_n 1, 1) := by decide +kernel
theorem dX6_sideAt_1 : decode cX6_sideAt 1 = .ok (.ifCond .lt 12, 3) := by decide +kernel
theorem dX6_sideAt_4 : decode cX6_sideAt 4 = .ok (.iload_n 1, 1) := by decide +kernel
theorem dX6_sideAt_5 : decode cX6_sideAt 5 = .ok (.aload_n 0, 1) := by decide +kernel
theorem dX6_sideAt_6 : decode cX6_sideAt 6 = .ok (.getfield 35, 3) := by decide +kernel
theorem dX6_sideAt_9 : decode cX6_sideAt 9 = .ok (.arraylength, 1) := by decide +kernel
theorem dX6_sideAt_10 : decode cX6_sideAt 10 = .ok (.if_icmp .lt 7, 3) := by decide +kernel
theorem dX6_sideAt_13 : decode cX6_sideAt 13 = .ok (.aconst_null, 1) := by decide +kernel
theorem dX6_sideAt_14 : decode cX6_sideAt 14 = .ok (.goto 9, 3) := by decide +kernel
theorem dX6_sideAt_17 : decode cX6_sideAt 17 = .ok (.aload_n 0, 1) := by decide +kernel
theorem dX6_sideAt_18 : decode cX6_sideAt 18 = .ok (.getfield 35, 3) := by decide +kernel
theorem dX6_sideAt_21 : decode cX6_sideAt 21 = .ok (.iload_n 1, 1) := by decide +kernel
theorem dX6_sideAt_22 : decode cX6_sideAt 22 = .ok (.aaload, 1) := by decide +kernel

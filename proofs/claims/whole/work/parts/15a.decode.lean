theorem dX5_init_0 : decode cX5_init 0 = .ok (.aload_n 0, 1) := by decide +kernel
theorem dX5_init_1 : decode cX5_init 1 = .ok (.invokespecial 3, 3) := by decide +kernel
theorem dX5_init_4 : decode cX5_init 4 = .ok (.aload_n 0, 1) := by decide +kernel
theorem dX5_init_5 : decode cX5_init 5 = .ok (.bipush 40, 2) := by decide +kernel
theorem dX5_init_7 : decode cX5_init 7 = .ok (.newarray .double, 2) := by decide +kernel
theorem dX5_init_9 : decode cX5_init 9 = .ok (.putfield 9, 3) := by decide +kernel
theorem dX5_init_12 : decode cX5_init 12 = .ok (.aload_n 0, 1) := by decide +kernel
theorem dX5_init_13 : decode cX5_init 13 = .ok (.bipush 40, 2) := by decide +kernel
theorem dX5_init_15 : decode cX5_init 15 = .ok (.newarray .double, 2) := by decide +kernel
theorem dX5_init_17 : decode cX5_init 17 = .ok (.putfield 15, 3) := by decide +kernel
theorem dX5_init_20 : decode cX5_init 20 = .ok (.aload_n 0, 1) := by decide +kernel
theorem dX5_init_21 : decode cX5_init 21 = .ok (.iconst 5, 1) := by decide +kernel
theorem dX5_init_22 : decode cX5_init 22 = .ok (.iconst 5, 1) := by decide +kernel
theorem dX5_init_23 : decode cX5_init 23 = .ok (.multianewarray 18 2, 4) := by decide +kernel
theorem dX5_init_27 : decode cX5_init 27 = .ok (.putfield 20, 3) := by decide +kernel
theorem dX5_init_30 : decode cX5_init 30 = .ok (.aload_n 0, 1) := by decide +kernel
theorem dX5_init_31 : decode cX5_init 31 = .ok (.iconst 5, 1) := by decide +kernel
theorem dX5_init_32 : decode cX5_init 32 = .ok (.newarray .double, 2) := by decide +kernel
theorem dX5_init_34 : decode cX5_init 34 = .ok (.putfield 23, 3) := by decide +kernel
theorem dX5_init_37 : decode cX5_init 37 = .ok (.aload_n 0, 1) := by decide +kernel
theorem dX5_init_38 : decode cX5_init 38 = .ok (.iconst 5, 1) := by decide +kernel
theorem dX5_init_39 : decode cX5_init 39 = .ok (.newarray .boolean, 2) := by decide +kernel
theorem dX5_init_41 : decode cX5_init 41 = .ok (.putfield 26, 3) := by decide +kernel
theorem dX5_init_44 : decode cX5_init 44 = .ok (.aload_n 0, 1) := by decide +kernel
theorem dX5_init_45 : decode cX5_init 45 = .ok (.iconst 5, 1) := by decide +kernel
theorem dX5_init_46 : decode cX5_init 46 = .ok (.newarray .double, 2) := by decide +kernel
theorem dX5_init_48 : decode cX5_init 48 = .ok (.putfield 30, 3) := by decide +kernel
theorem dX5_init_51 : decode cX5_init 51 = .ok (.aload_n 0, 1) := by decide +kernel
theorem dX5_init_52 : decode cX5_init 52 = .ok (.iconst 5, 1) := by decide +kernel
theorem dX5_init_53 : decode cX5_init 53 = .ok (.newarray .double, 2) := by decide +kernel
theorem dX5_init_55 : decode cX5_init 55 = .ok (.putfield 33, 3) := by decide +kernel
theorem dX5_init_58 : decode cX5_init 58 = .ok (.return_, 1) := by decide +kernel
theorem dX5_note_0 : decode cX5_note 0 = .ok (.aload_n 0, 1) := by decide +kernel
theorem dX5_note_1 : decode cX5_note 1 = .ok (.getfield 36, 3) := by decide +kernel
theorem dX5_note_4 : decode cX5_note 4 = .ok (.istore 5, 2) := by decide +kernel
theorem dX5_note_6 : decode cX5_note 6 = .ok (.iload 5, 2) := by decide +kernel
theorem dX5_note_8 : decode cX5_note 8 = .ok (.ifCond .lt 23, 3) := by decide +kernel
theorem dX5_note_11 : decode cX5_note 11 = .ok (.iload 5, 2) := by decide +kernel
theorem dX5_note_13 : decode cX5_note 13 = .ok (.aload_n 0, 1) := by decide +kernel
theorem dX5_note_14 : decode cX5_note 14 = .ok (.getfield 9, 3) := by decide +kernel
theorem dX5_note_17 : decode cX5_note 17 = .ok (.arraylength, 1) := by decide +kernel
theorem dX5_note_18 : decode cX5_note 18 = .ok (.if_icmp .ge 13, 3) := by decide +kernel
theorem dX5_note_21 : decode cX5_note 21 = .ok (.iload 5, 2) := by decide +kernel
theorem dX5_note_23 : decode cX5_note 23 = .ok (.aload_n 0, 1) := by decide +kernel
theorem dX5_note_24 : decode cX5_note 24 = .ok (.getfield 15, 3) := by decide +kernel
theorem dX5_note_27 : decode cX5_note 27 = .ok (.arraylength, 1) := by decide +kernel
theorem dX5_note_28 : decode cX5_note 28 = .ok (.if_icmp .lt 5, 3) := by decide +kernel
theorem dX5_note_31 : decode cX5_note 31 = .ok (.iconst 0, 1) := by decide +kernel
theorem dX5_note_32 : decode cX5_note 32 = .ok (.ireturn, 1) := by decide +kernel
theorem dX5_note_33 : decode cX5_note 33 = .ok (.aload_n 0, 1) := by decide +kernel
theorem dX5_note_34 : decode cX5_note 34 = .ok (.getfield 9, 3) := by decide +kernel
theorem dX5_note_37 : decode cX5_note 37 = .ok (.iload 5, 2) := by decide +kernel
theorem dX5_note_39 : decode cX5_note 39 = .ok (.dload_n 1, 1) := by decide +kernel
theorem dX5_note_40 : decode cX5_note 40 = .ok (.dastore, 1) := by decide +kernel
theorem dX5_note_41 : decode cX5_note 41 = .ok (.aload_n 0, 1) := by decide +kernel
theorem dX5_note_42 : decode cX5_note 42 = .ok (.getfield 15, 3) := by decide +kernel
theorem dX5_note_45 : decode cX5_note 45 = .ok (.iload 5, 2) := by decide +kernel
theorem dX5_note_47 : decode cX5_note 47 = .ok (.dload_n 3, 1) := by decide +kernel
theorem dX5_note_48 : decode cX5_note 48 = .ok (.dastore, 1) := by decide +kernel
theorem dX5_note_49 : decode cX5_note 49 = .ok (.aload_n 0, 1) := by decide +kernel
theorem dX5_note_50 : decode cX5_note 50 = .ok (.iload 5, 2) := by decide +kernel
theorem dX5_note_52 : decode cX5_note 52 = .ok (.iconst 1, 1) := by decide +kernel
theorem dX5_note_53 : decode cX5_note 53 = .ok (.iadd, 1) := by decide +kernel
theorem dX5_note_54 : decode cX5_note 54 = .ok (.putfield 36, 3) := by decide +kernel
theorem dX5_note_57 : decode cX5_note 57 = .ok (.iconst 1, 1) := by decide +kernel
theorem dX5_note_58 : decode cX5_note 58 = .ok (.ireturn, 1) := by decide +kernel
theorem dX5_solve_0 : decode cX5_solve 0 = .ok (.iload_n 1, 1) := by decide +kernel
theorem dX5_solve_1 : decode cX5_solve 1 = .ok (.iconst 5, 1) := by decide +kernel
theorem dX5_solve_2 : decode cX5_solve 2 = .ok (.invokestatic 40, 3) := by decide +kernel
theorem dX5_solve_5 : decode cX5_solve 5 = .ok (.istore_n 2, 1) := by decide +kernel
theorem dX5_solve_6 : decode cX5_solve 6 = .ok (.aload_n 0, 1) := by decide +kernel
theorem dX5_solve_7 : decode cX5_solve 7 = .ok (.iload_n 2, 1) := by decide +kernel
theorem dX5_solve_8 : decode cX5_solve 8 = .ok (.invokevirtual 46, 3) := by decide +kernel
theorem dX5_solve_11 : decode cX5_solve 11 = .ok (.aload_n 0, 1) := by decide +kernel
theorem dX5_solve_12 : decode cX5_solve 12 = .ok (.iload_n 2, 1) := by decide +kernel
theorem dX5_solve_13 : decode cX5_solve 13 = .ok (.invokevirtual 50, 3) := by decide +kernel
theorem dX5_solve_16 : decode cX5_solve 16 = .ok (.istore_n 3, 1) := by decide +kernel
theorem dX5_solve_17 : decode cX5_solve 17 = .ok (.aload_n 0, 1) := by decide +kernel
theorem dX5_solve_18 : decode cX5_solve 18 = .ok (.iload_n 2, 1) := by decide +kernel
theorem dX5_solve_19 : decode cX5_solve 19 = .ok (.invokevirtual 54, 3) := by decide +kernel
theorem dX5_solve_22 : decode cX5_solve 22 = .ok (.aload_n 0, 1) := by decide +kernel
theorem dX5_solve_23 : decode cX5_solve 23 = .ok (.iload_n 2, 1) := by decide +kernel
theorem dX5_solve_24 : decode cX5_solve 24 = .ok (.putfield 57, 3) := by decide +kernel
theorem dX5_solve_27 : decode cX5_solve 27 = .ok (.iload_n 3, 1) := by decide +kernel
theorem dX5_solve_28 : decode cX5_solve 28 = .ok (.ireturn, 1) := by decide +kernel
theorem dX5_heightAt_0 : decode cX5_heightAt 0 = .ok (.aload_n 0, 1) := by decide +kernel
theorem dX5_heightAt_1 : decode cX5_heightAt 1 = .ok (.getfield 57, 3) := by decide +kernel
theorem dX5_heightAt_4 : decode cX5_heightAt 4 = .ok (.ifCond .ne 5, 3) := by decide +kernel
theorem dX5_heightAt_7 : decode cX5_heightAt 7 = .ok (.dconst 0, 1) := by decide +kernel
theorem dX5_heightAt_8 : decode cX5_heightAt 8 = .ok (.dreturn, 1) := by decide +kernel
theorem dX5_heightAt_9 : decode cX5_heightAt 9 = .ok (.aload_n 0, 1) := by decide +kernel
theorem dX5_heightAt_10 : decode cX5_heightAt 10 = .ok (.dload_n 1, 1) := by decide +kernel
theorem dX5_heightAt_11 : decode cX5_heightAt 11 = .ok (.aload_n 0, 1) := by decide +kernel
theorem dX5_heightAt_12 : decode cX5_heightAt 12 = .ok (.getfield 57, 3) := by decide +kernel
theorem dX5_heightAt_15 : decode cX5_heightAt 15 = .ok (.invokevirtual 60, 3) := by decide +kernel
theorem dX5_heightAt_18 : decode cX5_heightAt 18 = .ok (.aload_n 0, 1) := by decide +kernel
theorem dX5_heightAt_19 : decode cX5_heightAt 19 = .ok (.getfield 33, 3) := by decide +kernel
theorem dX5_heightAt_22 : decode cX5_heightAt 22 = .ok (.iconst 0, 1) := by decide +kernel
theorem dX5_heightAt_23 : decode cX5_heightAt 23 = .ok (.daload, 1) := by decide +kernel
theorem dX5_heightAt_24 : decode cX5_heightAt 24 = .ok (.dstore_n 3, 1) := by decide +kernel
theorem dX5_heightAt_25 : decode cX5_heightAt 25 = .ok (.iconst 1, 1) := by decide +kernel
theorem dX5_heightAt_26 : decode cX5_heightAt 26 = .ok (.istore 5, 2) := by decide +kernel
theorem dX5_heightAt_28 : decode cX5_heightAt 28 = .ok (.iload 5, 2) := by decide +kernel
theorem dX5_heightAt_30 : decode cX5_heightAt 30 = .ok (.aload_n 0, 1) := by decide +kernel
theorem dX5_heightAt_31 : decode cX5_heightAt 31 = .ok (.getfield 57, 3) := by decide +kernel
theorem dX5_heightAt_34 : decode cX5_heightAt 34 = .ok (.if_icmp .ge 37, 3) := by decide +kernel
theorem dX5_heightAt_37 : decode cX5_heightAt 37 = .ok (.iload 5, 2) := by decide +kernel
theorem dX5_heightAt_39 : decode cX5_heightAt 39 = .ok (.aload_n 0, 1) := by decide +kernel
theorem dX5_heightAt_40 : decode cX5_heightAt 40 = .ok (.getfield 33, 3) := by decide +kernel
theorem dX5_heightAt_43 : decode cX5_heightAt 43 = .ok (.arraylength, 1) := by decide +kernel
theorem dX5_heightAt_44 : decode cX5_heightAt 44 = .ok (.if_icmp .ge 27, 3) := by decide +kernel
theorem dX5_heightAt_47 : decode cX5_heightAt 47 = .ok (.dload_n 3, 1) := by decide +kernel
theorem dX5_heightAt_48 : decode cX5_heightAt 48 = .ok (.aload_n 0, 1) := by decide +kernel
theorem dX5_heightAt_49 : decode cX5_heightAt 49 = .ok (.getfield 33, 3) := by decide +kernel
theorem dX5_heightAt_52 : decode cX5_heightAt 52 = .ok (.iload 5, 2) := by decide +kernel
theorem dX5_heightAt_54 : decode cX5_heightAt 54 = .ok (.daload, 1) := by decide +kernel
theorem dX5_heightAt_55 : decode cX5_heightAt 55 = .ok (.aload_n 0, 1) := by decide +kernel
theorem dX5_heightAt_56 : decode cX5_heightAt 56 = .ok (.getfield 30, 3) := by decide +kernel
theorem dX5_heightAt_59 : decode cX5_heightAt 59 = .ok (.iload 5, 2) := by decide +kernel
theorem dX5_heightAt_61 : decode cX5_heightAt 61 = .ok (.daload, 1) := by decide +kernel
theorem dX5_heightAt_62 : decode cX5_heightAt 62 = .ok (.dmul, 1) := by decide +kernel
theorem dX5_heightAt_63 : decode cX5_heightAt 63 = .ok (.dadd, 1) := by decide +kernel
theorem dX5_heightAt_64 : decode cX5_heightAt 64 = .ok (.dstore_n 3, 1) := by decide +kernel
theorem dX5_heightAt_65 : decode cX5_heightAt 65 = .ok (.iinc 5 1, 3) := by decide +kernel
theorem dX5_heightAt_68 : decode cX5_heightAt 68 = .ok (.goto (-40), 3) := by decide +kernel
theorem dX5_heightAt_71 : decode cX5_heightAt 71 = .ok (.dload_n 3, 1) := by decide +kernel
theorem dX5_heightAt_72 : decode cX5_heightAt 72 = .ok (.dreturn, 1) := by decide +kernel
theorem dX5_addUp_0 : decode cX5_addUp 0 = .ok (.iconst 0, 1) := by decide +kernel
theorem dX5_addUp_1 : decode cX5_addUp 1 = .ok (.istore_n 2, 1) := by decide +kernel
theorem dX5_addUp_2 : decode cX5_addUp 2 = .ok (.iload_n 2, 1) := by decide +kernel
theorem dX5_addUp_3 : decode cX5_addUp 3 = .ok (.iload_n 1, 1) := by decide +kernel
theorem dX5_addUp_4 : decode cX5_addUp 4 = .ok (.if_icmp .ge 38, 3) := by decide +kernel
theorem dX5_addUp_7 : decode cX5_addUp 7 = .ok (.aload_n 0, 1) := by decide +kernel
theorem dX5_addUp_8 : decode cX5_addUp 8 = .ok (.getfield 23, 3) := by decide +kernel
theorem dX5_addUp_11 : decode cX5_addUp 11 = .ok (.iload_n 2, 1) := by decide +kernel
theorem dX5_addUp_12 : decode cX5_addUp 12 = .ok (.dconst 0, 1) := by decide +kernel
theorem dX5_addUp_13 : decode cX5_addUp 13 = .ok (.dastore, 1) := by decide +kernel
theorem dX5_addUp_14 : decode cX5_addUp 14 = .ok (.iconst 0, 1) := by decide +kernel
theorem dX5_addUp_15 : decode cX5_addUp 15 = .ok (.istore_n 3, 1) := by decide +kernel
theorem dX5_addUp_16 : decode cX5_addUp 16 = .ok (.iload_n 3, 1) := by decide +kernel
theorem dX5_addUp_17 : decode cX5_addUp 17 = .ok (.iload_n 1, 1) := by decide +kernel
theorem dX5_addUp_18 : decode cX5_addUp 18 = .ok (.if_icmp .ge 18, 3) := by decide +kernel
theorem dX5_addUp_21 : decode cX5_addUp 21 = .ok (.aload_n 0, 1) := by decide +kernel
theorem dX5_addUp_22 : decode cX5_addUp 22 = .ok (.getfield 20, 3) := by decide +kernel
theorem dX5_addUp_25 : decode cX5_addUp 25 = .ok (.iload_n 2, 1) := by decide +kernel
theorem dX5_addUp_26 : decode cX5_addUp 26 = .ok (.aaload, 1) := by decide +kernel
theorem dX5_addUp_27 : decode cX5_addUp 27 = .ok (.iload_n 3, 1) := by decide +kernel
theorem dX5_addUp_28 : decode cX5_addUp 28 = .ok (.dconst 0, 1) := by decide +kernel
theorem dX5_addUp_29 : decode cX5_addUp 29 = .ok (.dastore, 1) := by decide +kernel
theorem dX5_addUp_30 : decode cX5_addUp 30 = .ok (.iinc 3 1, 3) := by decide +kernel
theorem dX5_addUp_33 : decode cX5_addUp 33 = .ok (.goto (-17), 3) := by decide +kernel
theorem dX5_addUp_36 : decode cX5_addUp 36 = .ok (.iinc 2 1, 3) := by decide +kernel
theorem dX5_addUp_39 : decode cX5_addUp 39 = .ok (.goto (-37), 3) := by decide +kernel
theorem dX5_addUp_42 : decode cX5_addUp 42 = .ok (.iconst 0, 1) := by decide +kernel
theorem dX5_addUp_43 : decode cX5_addUp 43 = .ok (.istore_n 2, 1) := by decide +kernel
theorem dX5_addUp_44 : decode cX5_addUp 44 = .ok (.iload_n 2, 1) := by decide +kernel
theorem dX5_addUp_45 : decode cX5_addUp 45 = .ok (.aload_n 0, 1) := by decide +kernel
theorem dX5_addUp_46 : decode cX5_addUp 46 = .ok (.getfield 36, 3) := by decide +kernel
theorem dX5_addUp_49 : decode cX5_addUp 49 = .ok (.if_icmp .ge 116, 3) := by decide +kernel
theorem dX5_addUp_52 : decode cX5_addUp 52 = .ok (.iload_n 2, 1) := by decide +kernel
theorem dX5_addUp_53 : decode cX5_addUp 53 = .ok (.aload_n 0, 1) := by decide +kernel
theorem dX5_addUp_54 : decode cX5_addUp 54 = .ok (.getfield 9, 3) := by decide +kernel
theorem dX5_addUp_57 : decode cX5_addUp 57 = .ok (.arraylength, 1) := by decide +kernel
theorem dX5_addUp_58 : decode cX5_addUp 58 = .ok (.if_icmp .ge 107, 3) := by decide +kernel
theorem dX5_addUp_61 : decode cX5_addUp 61 = .ok (.aload_n 0, 1) := by decide +kernel
theorem dX5_addUp_62 : decode cX5_addUp 62 = .ok (.aload_n 0, 1) := by decide +kernel
theorem dX5_addUp_63 : decode cX5_addUp 63 = .ok (.getfield 9, 3) := by decide +kernel
theorem dX5_addUp_66 : decode cX5_addUp 66 = .ok (.iload_n 2, 1) := by decide +kernel
theorem dX5_addUp_67 : decode cX5_addUp 67 = .ok (.daload, 1) := by decide +kernel
theorem dX5_addUp_68 : decode cX5_addUp 68 = .ok (.iload_n 1, 1) := by decide +kernel
theorem dX5_addUp_69 : decode cX5_addUp 69 = .ok (.invokevirtual 60, 3) := by decide +kernel
theorem dX5_addUp_72 : decode cX5_addUp 72 = .ok (.iconst 0, 1) := by decide +kernel
theorem dX5_addUp_73 : decode cX5_addUp 73 = .ok (.istore_n 3, 1) := by decide +kernel
theorem dX5_addUp_74 : decode cX5_addUp 74 = .ok (.iload_n 3, 1) := by decide +kernel
theorem dX5_addUp_75 : decode cX5_addUp 75 = .ok (.iload_n 1, 1) := by decide +kernel
theorem dX5_addUp_76 : decode cX5_addUp 76 = .ok (.if_icmp .ge 83, 3) := by decide +kernel
theorem dX5_addUp_79 : decode cX5_addUp 79 = .ok (.aload_n 0, 1) := by decide +kernel
theorem dX5_addUp_80 : decode cX5_addUp 80 = .ok (.getfield 23, 3) := by decide +kernel
theorem dX5_addUp_83 : decode cX5_addUp 83 = .ok (.iload_n 3, 1) := by decide +kernel
theorem dX5_addUp_84 : decode cX5_addUp 84 = .ok (.aload_n 0, 1) := by decide +kernel
theorem dX5_addUp_85 : decode cX5_addUp 85 = .ok (.getfield 23, 3) := by decide +kernel
theorem dX5_addUp_88 : decode cX5_addUp 88 = .ok (.iload_n 3, 1) := by decide +kernel
theorem dX5_addUp_89 : decode cX5_addUp 89 = .ok (.daload, 1) := by decide +kernel
theorem dX5_addUp_90 : decode cX5_addUp 90 = .ok (.aload_n 0, 1) := by decide +kernel
theorem dX5_addUp_91 : decode cX5_addUp 91 = .ok (.getfield 30, 3) := by decide +kernel
theorem dX5_addUp_94 : decode cX5_addUp 94 = .ok (.iload_n 3, 1) := by decide +kernel
theorem dX5_addUp_95 : decode cX5_addUp 95 = .ok (.daload, 1) := by decide +kernel
theorem dX5_addUp_96 : decode cX5_addUp 96 = .ok (.aload_n 0, 1) := by decide +kernel
theorem dX5_addUp_97 : decode cX5_addUp 97 = .ok (.getfield 15, 3) := by decide +kernel
theorem dX5_addUp_100 : decode cX5_addUp 100 = .ok (.iload_n 2, 1) := by decide +kernel
theorem dX5_addUp_101 : decode cX5_addUp 101 = .ok (.daload, 1) := by decide +kernel
theorem dX5_addUp_102 : decode cX5_addUp 102 = .ok (.dmul, 1) := by decide +kernel
theorem dX5_addUp_103 : decode cX5_addUp 103 = .ok (.dadd, 1) := by decide +kernel
theorem dX5_addUp_104 : decode cX5_addUp 104 = .ok (.dastore, 1) := by decide +kernel
theorem dX5_addUp_105 : decode cX5_addUp 105 = .ok (.iconst 0, 1) := by decide +kernel
theorem dX5_addUp_106 : decode cX5_addUp 106 = .ok (.istore 4, 2) := by decide +kernel
theorem dX5_addUp_108 : decode cX5_addUp 108 = .ok (.iload 4, 2) := by decide +kernel
theorem dX5_addUp_110 : decode cX5_addUp 110 = .ok (.iload_n 1, 1) := by decide +kernel
theorem dX5_addUp_111 : decode cX5_addUp 111 = .ok (.if_icmp .ge 42, 3) := by decide +kernel
theorem dX5_addUp_114 : decode cX5_addUp 114 = .ok (.aload_n 0, 1) := by decide +kernel
theorem dX5_addUp_115 : decode cX5_addUp 115 = .ok (.getfield 20, 3) := by decide +kernel
theorem dX5_addUp_118 : decode cX5_addUp 118 = .ok (.iload_n 3, 1) := by decide +kernel
theorem dX5_addUp_119 : decode cX5_addUp 119 = .ok (.aaload, 1) := by decide +kernel
theorem dX5_addUp_120 : decode cX5_addUp 120 = .ok (.iload 4, 2) := by decide +kernel
theorem dX5_addUp_122 : decode cX5_addUp 122 = .ok (.aload_n 0, 1) := by decide +kernel
theorem dX5_addUp_123 : decode cX5_addUp 123 = .ok (.getfield 20, 3) := by decide +kernel
theorem dX5_addUp_126 : decode cX5_addUp 126 = .ok (.iload_n 3, 1) := by decide +kernel
theorem dX5_addUp_127 : decode cX5_addUp 127 = .ok (.aaload, 1) := by decide +kernel
theorem dX5_addUp_128 : decode cX5_addUp 128 = .ok (.iload 4, 2) := by decide +kernel
theorem dX5_addUp_130 : decode cX5_addUp 130 = .ok (.daload, 1) := by decide +kernel
theorem dX5_addUp_131 : decode cX5_addUp 131 = .ok (.aload_n 0, 1) := by decide +kernel
theorem dX5_addUp_132 : decode cX5_addUp 132 = .ok (.getfield 30, 3) := by decide +kernel
theorem dX5_addUp_135 : decode cX5_addUp 135 = .ok (.iload_n 3, 1) := by decide +kernel
theorem dX5_addUp_136 : decode cX5_addUp 136 = .ok (.daload, 1) := by decide +kernel
theorem dX5_addUp_137 : decode cX5_addUp 137 = .ok (.aload_n 0, 1) := by decide +kernel
theorem dX5_addUp_138 : decode cX5_addUp 138 = .ok (.getfield 30, 3) := by decide +kernel
theorem dX5_addUp_141 : decode cX5_addUp 141 = .ok (.iload 4, 2) := by decide +kernel
theorem dX5_addUp_143 : decode cX5_addUp 143 = .ok (.daload, 1) := by decide +kernel
theorem dX5_addUp_144 : decode cX5_addUp 144 = .ok (.dmul, 1) := by decide +kernel
theorem dX5_addUp_145 : decode cX5_addUp 145 = .ok (.dadd, 1) := by decide +kernel
theorem dX5_addUp_146 : decode cX5_addUp 146 = .ok (.dastore, 1) := by decide +kernel
theorem dX5_addUp_147 : decode cX5_addUp 147 = .ok (.iinc 4 1, 3) := by decide +kernel
theorem dX5_addUp_150 : decode cX5_addUp 150 = .ok (.goto (-42), 3) := by decide +kernel
theorem dX5_addUp_153 : decode cX5_addUp 153 = .ok (.iinc 3 1, 3) := by decide +kernel
theorem dX5_addUp_156 : decode cX5_addUp 156 = .ok (.goto (-82), 3) := by decide +kernel
theorem dX5_addUp_159 : decode cX5_addUp 159 = .ok (.iinc 2 1, 3) := by decide +kernel
theorem dX5_addUp_162 : decode cX5_addUp 162 = .ok (.goto (-118), 3) := by decide +kernel
theorem dX5_addUp_165 : decode cX5_addUp 165 = .ok (.return_, 1) := by decide +kernel
theorem dX5_clearBelow_0 : decode cX5_clearBelow 0 = .ok (.iconst 0, 1) := by decide +kernel
theorem dX5_clearBelow_1 : decode cX5_clearBelow 1 = .ok (.istore_n 2, 1) := by decide +kernel
theorem dX5_clearBelow_2 : decode cX5_clearBelow 2 = .ok (.iconst 0, 1) := by decide +kernel
theorem dX5_clearBelow_3 : decode cX5_clearBelow 3 = .ok (.istore_n 3, 1) := by decide +kernel
theorem dX5_clearBelow_4 : decode cX5_clearBelow 4 = .ok (.iload_n 3, 1) := by decide +kernel
theorem dX5_clearBelow_5 : decode cX5_clearBelow 5 = .ok (.iload_n 1, 1) := by decide +kernel
theorem dX5_clearBelow_6 : decode cX5_clearBelow 6 = .ok (.if_icmp .ge 91, 3) := by decide +kernel
theorem dX5_clearBelow_9 : decode cX5_clearBelow 9 = .ok (.aload_n 0, 1) := by decide +kernel
theorem dX5_clearBelow_10 : decode cX5_clearBelow 10 = .ok (.getfield 20, 3) := by decide +kernel
theorem dX5_clearBelow_13 : decode cX5_clearBelow 13 = .ok (.iload_n 3, 1) := by decide +kernel
theorem dX5_clearBelow_14 : decode cX5_clearBelow 14 = .ok (.aaload, 1) := by decide +kernel
theorem dX5_clearBelow_15 : decode cX5_clearBelow 15 = .ok (.iload_n 3, 1) := by decide +kernel
theorem dX5_clearBelow_16 : decode cX5_clearBelow 16 = .ok (.daload, 1) := by decide +kernel
theorem dX5_clearBelow_17 : decode cX5_clearBelow 17 = .ok (.dstore 4, 2) := by decide +kernel
theorem dX5_clearBelow_19 : decode cX5_clearBelow 19 = .ok (.aload_n 0, 1) := by decide +kernel
theorem dX5_clearBelow_20 : decode cX5_clearBelow 20 = .ok (.getfield 26, 3) := by decide +kernel
theorem dX5_clearBelow_23 : decode cX5_clearBelow 23 = .ok (.iload_n 3, 1) := by decide +kernel
theorem dX5_clearBelow_24 : decode cX5_clearBelow 24 = .ok (.dload 4, 2) := by decide +kernel
theorem dX5_clearBelow_26 : decode cX5_clearBelow 26 = .ok (.invokestatic 64, 3) := by decide +kernel
theorem dX5_clearBelow_29 : decode cX5_clearBelow 29 = .ok (.ldc2_w 68, 3) := by decide +kernel
theorem dX5_clearBelow_32 : decode cX5_clearBelow 32 = .ok (.dcmp .l, 1) := by decide +kernel
theorem dX5_clearBelow_33 : decode cX5_clearBelow 33 = .ok (.ifCond .le 7, 3) := by decide +kernel
theorem dX5_clearBelow_36 : decode cX5_clearBelow 36 = .ok (.iconst 1, 1) := by decide +kernel
theorem dX5_clearBelow_37 : decode cX5_clearBelow 37 = .ok (.goto 4, 3) := by decide +kernel
theorem dX5_clearBelow_40 : decode cX5_clearBelow 40 = .ok (.iconst 0, 1) := by decide +kernel
theorem dX5_clearBelow_41 : decode cX5_clearBelow 41 = .ok (.bastore, 1) := by decide +kernel
theorem dX5_clearBelow_42 : decode cX5_clearBelow 42 = .ok (.aload_n 0, 1) := by decide +kernel
theorem dX5_clearBelow_43 : decode cX5_clearBelow 43 = .ok (.getfield 26, 3) := by decide +kernel
theorem dX5_clearBelow_46 : decode cX5_clearBelow 46 = .ok (.iload_n 3, 1) := by decide +kernel
theorem dX5_clearBelow_47 : decode cX5_clearBelow 47 = .ok (.baload, 1) := by decide +kernel
theorem dX5_clearBelow_48 : decode cX5_clearBelow 48 = .ok (.ifCond .eq 43, 3) := by decide +kernel
theorem dX5_clearBelow_51 : decode cX5_clearBelow 51 = .ok (.iinc 2 1, 3) := by decide +kernel
theorem dX5_clearBelow_54 : decode cX5_clearBelow 54 = .ok (.iload_n 3, 1) := by decide +kernel
theorem dX5_clearBelow_55 : decode cX5_clearBelow 55 = .ok (.iconst 1, 1) := by decide +kernel
theorem dX5_clearBelow_56 : decode cX5_clearBelow 56 = .ok (.iadd, 1) := by decide +kernel
theorem dX5_clearBelow_57 : decode cX5_clearBelow 57 = .ok (.istore 6, 2) := by decide +kernel
theorem dX5_clearBelow_59 : decode cX5_clearBelow 59 = .ok (.iload 6, 2) := by decide +kernel
theorem dX5_clearBelow_61 : decode cX5_clearBelow 61 = .ok (.iload_n 1, 1) := by decide +kernel
theorem dX5_clearBelow_62 : decode cX5_clearBelow 62 = .ok (.if_icmp .ge 29, 3) := by decide +kernel
theorem dX5_clearBelow_65 : decode cX5_clearBelow 65 = .ok (.aload_n 0, 1) := by decide +kernel
theorem dX5_clearBelow_66 : decode cX5_clearBelow 66 = .ok (.iload 6, 2) := by decide +kernel
theorem dX5_clearBelow_68 : decode cX5_clearBelow 68 = .ok (.iload_n 3, 1) := by decide +kernel
theorem dX5_clearBelow_69 : decode cX5_clearBelow 69 = .ok (.aload_n 0, 1) := by decide +kernel
theorem dX5_clearBelow_70 : decode cX5_clearBelow 70 = .ok (.getfield 20, 3) := by decide +kernel
theorem dX5_clearBelow_73 : decode cX5_clearBelow 73 = .ok (.iload 6, 2) := by decide +kernel
theorem dX5_clearBelow_75 : decode cX5_clearBelow 75 = .ok (.aaload, 1) := by decide +kernel
theorem dX5_clearBelow_76 : decode cX5_clearBelow 76 = .ok (.iload_n 3, 1) := by decide +kernel
theorem dX5_clearBelow_77 : decode cX5_clearBelow 77 = .ok (.daload, 1) := by decide +kernel
theorem dX5_clearBelow_78 : decode cX5_clearBelow 78 = .ok (.dload 4, 2) := by decide +kernel
theorem dX5_clearBelow_80 : decode cX5_clearBelow 80 = .ok (.ddiv, 1) := by decide +kernel
theorem dX5_clearBelow_81 : decode cX5_clearBelow 81 = .ok (.iload_n 1, 1) := by decide +kernel
theorem dX5_clearBelow_82 : decode cX5_clearBelow 82 = .ok (.invokevirtual 70, 3) := by decide +kernel
theorem dX5_clearBelow_85 : decode cX5_clearBelow 85 = .ok (.iinc 6 1, 3) := by decide +kernel
theorem dX5_clearBelow_88 : decode cX5_clearBelow 88 = .ok (.goto (-29), 3) := by decide +kernel
theorem dX5_clearBelow_91 : decode cX5_clearBelow 91 = .ok (.iinc 3 1, 3) := by decide +kernel
theorem dX5_clearBelow_94 : decode cX5_clearBelow 94 = .ok (.goto (-90), 3) := by decide +kernel
theorem dX5_clearBelow_97 : decode cX5_clearBelow 97 = .ok (.iload_n 2, 1) := by decide +kernel
theorem dX5_clearBelow_98 : decode cX5_clearBelow 98 = .ok (.ireturn, 1) := by decide +kernel
theorem dX5_subtractRow_0 : decode cX5_subtractRow 0 = .ok (.iload_n 2, 1) := by decide +kernel
theorem dX5_subtractRow_1 : decode cX5_subtractRow 1 = .ok (.istore 6, 2) := by decide +kernel
theorem dX5_subtractRow_3 : decode cX5_subtractRow 3 = .ok (.iload 6, 2) := by decide +kernel
theorem dX5_subtractRow_5 : decode cX5_subtractRow 5 = .ok (.iload 5, 2) := by decide +kernel
theorem dX5_subtractRow_7 : decode cX5_subtractRow 7 = .ok (.if_icmp .ge 39, 3) := by decide +kernel
theorem dX5_subtractRow_10 : decode cX5_subtractRow 10 = .ok (.aload_n 0, 1) := by decide +kernel
theorem dX5_subtractRow_11 : decode cX5_subtractRow 11 = .ok (.getfield 20, 3) := by decide +kernel
theorem dX5_subtractRow_14 : decode cX5_subtractRow 14 = .ok (.iload_n 1, 1) := by decide +kernel
theorem dX5_subtractRow_15 : decode cX5_subtractRow 15 = .ok (.aaload, 1) := by decide +kernel
theorem dX5_subtractRow_16 : decode cX5_subtractRow 16 = .ok (.iload 6, 2) := by decide +kernel
theorem dX5_subtractRow_18 : decode cX5_subtractRow 18 = .ok (.aload_n 0, 1) := by decide +kernel
theorem dX5_subtractRow_19 : decode cX5_subtractRow 19 = .ok (.getfield 20, 3) := by decide +kernel
theorem dX5_subtractRow_22 : decode cX5_subtractRow 22 = .ok (.iload_n 1, 1) := by decide +kernel
theorem dX5_subtractRow_23 : decode cX5_subtractRow 23 = .ok (.aaload, 1) := by decide +kernel
theorem dX5_subtractRow_24 : decode cX5_subtractRow 24 = .ok (.iload 6, 2) := by decide +kernel
theorem dX5_subtractRow_26 : decode cX5_subtractRow 26 = .ok (.daload, 1) := by decide +kernel
theorem dX5_subtractRow_27 : decode cX5_subtractRow 27 = .ok (.dload_n 3, 1) := by decide +kernel
theorem dX5_subtractRow_28 : decode cX5_subtractRow 28 = .ok (.aload_n 0, 1) := by decide +kernel
theorem dX5_subtractRow_29 : decode cX5_subtractRow 29 = .ok (.getfield 20, 3) := by decide +kernel
theorem dX5_subtractRow_32 : decode cX5_subtractRow 32 = .ok (.iload_n 2, 1) := by decide +kernel
theorem dX5_subtractRow_33 : decode cX5_subtractRow 33 = .ok (.aaload, 1) := by decide +kernel
theorem dX5_subtractRow_34 : decode cX5_subtractRow 34 = .ok (.iload 6, 2) := by decide +kernel
theorem dX5_subtractRow_36 : decode cX5_subtractRow 36 = .ok (.daload, 1) := by decide +kernel
theorem dX5_subtractRow_37 : decode cX5_subtractRow 37 = .ok (.dmul, 1) := by decide +kernel
theorem dX5_subtractRow_38 : decode cX5_subtractRow 38 = .ok (.dsub, 1) := by decide +kernel
theorem dX5_subtractRow_39 : decode cX5_subtractRow 39 = .ok (.dastore, 1) := by decide +kernel
theorem dX5_subtractRow_40 : decode cX5_subtractRow 40 = .ok (.iinc 6 1, 3) := by decide +kernel
theorem dX5_subtractRow_43 : decode cX5_subtractRow 43 = .ok (.goto (-40), 3) := by decide +kernel
theorem dX5_subtractRow_46 : decode cX5_subtractRow 46 = .ok (.aload_n 0, 1) := by decide +kernel
theorem dX5_subtractRow_47 : decode cX5_subtractRow 47 = .ok (.getfield 23, 3) := by decide +kernel
theorem dX5_subtractRow_50 : decode cX5_subtractRow 50 = .ok (.iload_n 1, 1) := by decide +kernel
theorem dX5_subtractRow_51 : decode cX5_subtractRow 51 = .ok (.aload_n 0, 1) := by decide +kernel
theorem dX5_subtractRow_52 : decode cX5_subtractRow 52 = .ok (.getfield 23, 3) := by decide +kernel
theorem dX5_subtractRow_55 : decode cX5_subtractRow 55 = .ok (.iload_n 1, 1) := by decide +kernel
theorem dX5_subtractRow_56 : decode cX5_subtractRow 56 = .ok (.daload, 1) := by decide +kernel
theorem dX5_subtractRow_57 : decode cX5_subtractRow 57 = .ok (.dload_n 3, 1) := by decide +kernel
theorem dX5_subtractRow_58 : decode cX5_subtractRow 58 = .ok (.aload_n 0, 1) := by decide +kernel
theorem dX5_subtractRow_59 : decode cX5_subtractRow 59 = .ok (.getfield 23, 3) := by decide +kernel
theorem dX5_subtractRow_62 : decode cX5_subtractRow 62 = .ok (.iload_n 2, 1) := by decide +kernel
theorem dX5_subtractRow_63 : decode cX5_subtractRow 63 = .ok (.daload, 1) := by decide +kernel
theorem dX5_subtractRow_64 : decode cX5_subtractRow 64 = .ok (.dmul, 1) := by decide +kernel
theorem dX5_subtractRow_65 : decode cX5_subtractRow 65 = .ok (.dsub, 1) := by decide +kernel
theorem dX5_subtractRow_66 : decode cX5_subtractRow 66 = .ok (.dastore, 1) := by decide +kernel
theorem dX5_subtractRow_67 : decode cX5_subtractRow 67 = .ok (.return_, 1) := by decide +kernel
theorem dX5_solveUpwards_0 : decode cX5_solveUpwards 0 = .ok (.iload_n 1, 1) := by decide +kernel
theorem dX5_solveUpwards_1 : decode cX5_solveUpwards 1 = .ok (.iconst 1, 1) := by decide +kernel
theorem dX5_solveUpwards_2 : decode cX5_solveUpwards 2 = .ok (.isub, 1) := by decide +kernel
theorem dX5_solveUpwards_3 : decode cX5_solveUpwards 3 = .ok (.istore_n 2, 1) := by decide +kernel
theorem dX5_solveUpwards_4 : decode cX5_solveUpwards 4 = .ok (.iload_n 2, 1) := by decide +kernel
theorem dX5_solveUpwards_5 : decode cX5_solveUpwards 5 = .ok (.ifCond .lt 82, 3) := by decide +kernel
theorem dX5_solveUpwards_8 : decode cX5_solveUpwards 8 = .ok (.aload_n 0, 1) := by decide +kernel
theorem dX5_solveUpwards_9 : decode cX5_solveUpwards 9 = .ok (.getfield 23, 3) := by decide +kernel
theorem dX5_solveUpwards_12 : decode cX5_solveUpwards 12 = .ok (.iload_n 2, 1) := by decide +kernel
theorem dX5_solveUpwards_13 : decode cX5_solveUpwards 13 = .ok (.daload, 1) := by decide +kernel
theorem dX5_solveUpwards_14 : decode cX5_solveUpwards 14 = .ok (.dstore_n 3, 1) := by decide +kernel
theorem dX5_solveUpwards_15 : decode cX5_solveUpwards 15 = .ok (.iload_n 2, 1) := by decide +kernel
theorem dX5_solveUpwards_16 : decode cX5_solveUpwards 16 = .ok (.iconst 1, 1) := by decide +kernel
theorem dX5_solveUpwards_17 : decode cX5_solveUpwards 17 = .ok (.iadd, 1) := by decide +kernel
theorem dX5_solveUpwards_18 : decode cX5_solveUpwards 18 = .ok (.istore 5, 2) := by decide +kernel
theorem dX5_solveUpwards_20 : decode cX5_solveUpwards 20 = .ok (.iload 5, 2) := by decide +kernel
theorem dX5_solveUpwards_22 : decode cX5_solveUpwards 22 = .ok (.iload_n 1, 1) := by decide +kernel
theorem dX5_solveUpwards_23 : decode cX5_solveUpwards 23 = .ok (.if_icmp .ge 29, 3) := by decide +kernel
theorem dX5_solveUpwards_26 : decode cX5_solveUpwards 26 = .ok (.dload_n 3, 1) := by decide +kernel
theorem dX5_solveUpwards_27 : decode cX5_solveUpwards 27 = .ok (.aload_n 0, 1) := by decide +kernel
theorem dX5_solveUpwards_28 : decode cX5_solveUpwards 28 = .ok (.getfield 20, 3) := by decide +kernel
theorem dX5_solveUpwards_31 : decode cX5_solveUpwards 31 = .ok (.iload_n 2, 1) := by decide +kernel
theorem dX5_solveUpwards_32 : decode cX5_solveUpwards 32 = .ok (.aaload, 1) := by decide +kernel
theorem dX5_solveUpwards_33 : decode cX5_solveUpwards 33 = .ok (.iload 5, 2) := by decide +kernel
theorem dX5_solveUpwards_35 : decode cX5_solveUpwards 35 = .ok (.daload, 1) := by decide +kernel
theorem dX5_solveUpwards_36 : decode cX5_solveUpwards 36 = .ok (.aload_n 0, 1) := by decide +kernel
theorem dX5_solveUpwards_37 : decode cX5_solveUpwards 37 = .ok (.getfield 33, 3) := by decide +kernel
theorem dX5_solveUpwards_40 : decode cX5_solveUpwards 40 = .ok (.iload 5, 2) := by decide +kernel
theorem dX5_solveUpwards_42 : decode cX5_solveUpwards 42 = .ok (.daload, 1) := by decide +kernel
theorem dX5_solveUpwards_43 : decode cX5_solveUpwards 43 = .ok (.dmul, 1) := by decide +kernel
theorem dX5_solveUpwards_44 : decode cX5_solveUpwards 44 = .ok (.dsub, 1) := by decide +kernel
theorem dX5_solveUpwards_45 : decode cX5_solveUpwards 45 = .ok (.dstore_n 3, 1) := by decide +kernel
theorem dX5_solveUpwards_46 : decode cX5_solveUpwards 46 = .ok (.iinc 5 1, 3) := by decide +kernel
theorem dX5_solveUpwards_49 : decode cX5_solveUpwards 49 = .ok (.goto (-29), 3) := by decide +kernel
theorem dX5_solveUpwards_52 : decode cX5_solveUpwards 52 = .ok (.aload_n 0, 1) := by decide +kernel
theorem dX5_solveUpwards_53 : decode cX5_solveUpwards 53 = .ok (.getfield 33, 3) := by decide +kernel
theorem dX5_solveUpwards_56 : decode cX5_solveUpwards 56 = .ok (.iload_n 2, 1) := by decide +kernel
theorem dX5_solveUpwards_57 : decode cX5_solveUpwards 57 = .ok (.aload_n 0, 1) := by decide +kernel
theorem dX5_solveUpwards_58 : decode cX5_solveUpwards 58 = .ok (.getfield 26, 3) := by decide +kernel
theorem dX5_solveUpwards_61 : decode cX5_solveUpwards 61 = .ok (.iload_n 2, 1) := by decide +kernel
theorem dX5_solveUpwards_62 : decode cX5_solveUpwards 62 = .ok (.baload, 1) := by decide +kernel
theorem dX5_solveUpwards_63 : decode cX5_solveUpwards 63 = .ok (.ifCond .eq 16, 3) := by decide +kernel
theorem dX5_solveUpwards_66 : decode cX5_solveUpwards 66 = .ok (.dload_n 3, 1) := by decide +kernel
theorem dX5_solveUpwards_67 : decode cX5_solveUpwards 67 = .ok (.aload_n 0, 1) := by decide +kernel
theorem dX5_solveUpwards_68 : decode cX5_solveUpwards 68 = .ok (.getfield 20, 3) := by decide +kernel
theorem dX5_solveUpwards_71 : decode cX5_solveUpwards 71 = .ok (.iload_n 2, 1) := by decide +kernel
theorem dX5_solveUpwards_72 : decode cX5_solveUpwards 72 = .ok (.aaload, 1) := by decide +kernel
theorem dX5_solveUpwards_73 : decode cX5_solveUpwards 73 = .ok (.iload_n 2, 1) := by decide +kernel
theorem dX5_solveUpwards_74 : decode cX5_solveUpwards 74 = .ok (.daload, 1) := by decide +kernel
theorem dX5_solveUpwards_75 : decode cX5_solveUpwards 75 = .ok (.ddiv, 1) := by decide +kernel
theorem dX5_solveUpwards_76 : decode cX5_solveUpwards 76 = .ok (.goto 4, 3) := by decide +kernel
theorem dX5_solveUpwards_79 : decode cX5_solveUpwards 79 = .ok (.dconst 0, 1) := by decide +kernel
theorem dX5_solveUpwards_80 : decode cX5_solveUpwards 80 = .ok (.dastore, 1) := by decide +kernel
theorem dX5_solveUpwards_81 : decode cX5_solveUpwards 81 = .ok (.iinc 2 (-1), 3) := by decide +kernel
theorem dX5_solveUpwards_84 : decode cX5_solveUpwards 84 = .ok (.goto (-80), 3) := by decide +kernel
theorem dX5_solveUpwards_87 : decode cX5_solveUpwards 87 = .ok (.return_, 1) := by decide +kernel
theorem dX5_fillSaws_0 : decode cX5_fillSaws 0 = .ok (.dload_n 1, 1) := by decide +kernel
theorem dX5_fillSaws_1 : decode cX5_fillSaws 1 = .ok (.ldc2_w 74, 3) := by decide +kernel
theorem dX5_fillSaws_4 : decode cX5_fillSaws 4 = .ok (.dmul, 1) := by decide +kernel
theorem dX5_fillSaws_5 : decode cX5_fillSaws 5 = .ok (.dstore 4, 2) := by decide +kernel
theorem dX5_fillSaws_7 : decode cX5_fillSaws 7 = .ok (.aload_n 0, 1) := by decide +kernel
theorem dX5_fillSaws_8 : decode cX5_fillSaws 8 = .ok (.getfield 30, 3) := by decide +kernel
theorem dX5_fillSaws_11 : decode cX5_fillSaws 11 = .ok (.iconst 0, 1) := by decide +kernel
theorem dX5_fillSaws_12 : decode cX5_fillSaws 12 = .ok (.dconst 1, 1) := by decide +kernel
theorem dX5_fillSaws_13 : decode cX5_fillSaws 13 = .ok (.dastore, 1) := by decide +kernel
theorem dX5_fillSaws_14 : decode cX5_fillSaws 14 = .ok (.iconst 1, 1) := by decide +kernel
theorem dX5_fillSaws_15 : decode cX5_fillSaws 15 = .ok (.istore 6, 2) := by decide +kernel
theorem dX5_fillSaws_17 : decode cX5_fillSaws 17 = .ok (.iload 6, 2) := by decide +kernel
theorem dX5_fillSaws_19 : decode cX5_fillSaws 19 = .ok (.iconst 1, 1) := by decide +kernel
theorem dX5_fillSaws_20 : decode cX5_fillSaws 20 = .ok (.iadd, 1) := by decide +kernel
theorem dX5_fillSaws_21 : decode cX5_fillSaws 21 = .ok (.iload_n 3, 1) := by decide +kernel
theorem dX5_fillSaws_22 : decode cX5_fillSaws 22 = .ok (.if_icmp .ge 55, 3) := by decide +kernel
theorem dX5_fillSaws_25 : decode cX5_fillSaws 25 = .ok (.dload 4, 2) := by decide +kernel
theorem dX5_fillSaws_27 : decode cX5_fillSaws 27 = .ok (.sipush 3600, 3) := by decide +kernel
theorem dX5_fillSaws_30 : decode cX5_fillSaws 30 = .ok (.iload 6, 2) := by decide +kernel
theorem dX5_fillSaws_32 : decode cX5_fillSaws 32 = .ok (.iconst 1, 1) := by decide +kernel
theorem dX5_fillSaws_33 : decode cX5_fillSaws 33 = .ok (.iadd, 1) := by decide +kernel
theorem dX5_fillSaws_34 : decode cX5_fillSaws 34 = .ok (.iconst 2, 1) := by decide +kernel
theorem dX5_fillSaws_35 : decode cX5_fillSaws 35 = .ok (.idiv, 1) := by decide +kernel
theorem dX5_fillSaws_36 : decode cX5_fillSaws 36 = .ok (.imul, 1) := by decide +kernel
theorem dX5_fillSaws_37 : decode cX5_fillSaws 37 = .ok (.i2d, 1) := by decide +kernel
theorem dX5_fillSaws_38 : decode cX5_fillSaws 38 = .ok (.ddiv, 1) := by decide +kernel
theorem dX5_fillSaws_39 : decode cX5_fillSaws 39 = .ok (.dstore 7, 2) := by decide +kernel
theorem dX5_fillSaws_41 : decode cX5_fillSaws 41 = .ok (.aload_n 0, 1) := by decide +kernel
theorem dX5_fillSaws_42 : decode cX5_fillSaws 42 = .ok (.getfield 30, 3) := by decide +kernel
theorem dX5_fillSaws_45 : decode cX5_fillSaws 45 = .ok (.iload 6, 2) := by decide +kernel
theorem dX5_fillSaws_47 : decode cX5_fillSaws 47 = .ok (.dload 7, 2) := by decide +kernel
theorem dX5_fillSaws_49 : decode cX5_fillSaws 49 = .ok (.invokestatic 76, 3) := by decide +kernel
theorem dX5_fillSaws_52 : decode cX5_fillSaws 52 = .ok (.dastore, 1) := by decide +kernel
theorem dX5_fillSaws_53 : decode cX5_fillSaws 53 = .ok (.aload_n 0, 1) := by decide +kernel
theorem dX5_fillSaws_54 : decode cX5_fillSaws 54 = .ok (.getfield 30, 3) := by decide +kernel
theorem dX5_fillSaws_57 : decode cX5_fillSaws 57 = .ok (.iload 6, 2) := by decide +kernel
theorem dX5_fillSaws_59 : decode cX5_fillSaws 59 = .ok (.iconst 1, 1) := by decide +kernel
theorem dX5_fillSaws_60 : decode cX5_fillSaws 60 = .ok (.iadd, 1) := by decide +kernel
theorem dX5_fillSaws_61 : decode cX5_fillSaws 61 = .ok (.dload 7, 2) := by decide +kernel
theorem dX5_fillSaws_63 : decode cX5_fillSaws 63 = .ok (.ldc2_w 79, 3) := by decide +kernel
theorem dX5_fillSaws_66 : decode cX5_fillSaws 66 = .ok (.dadd, 1) := by decide +kernel
theorem dX5_fillSaws_67 : decode cX5_fillSaws 67 = .ok (.invokestatic 76, 3) := by decide +kernel
theorem dX5_fillSaws_70 : decode cX5_fillSaws 70 = .ok (.dastore, 1) := by decide +kernel
theorem dX5_fillSaws_71 : decode cX5_fillSaws 71 = .ok (.iinc 6 2, 3) := by decide +kernel
theorem dX5_fillSaws_74 : decode cX5_fillSaws 74 = .ok (.goto (-57), 3) := by decide +kernel
theorem dX5_fillSaws_77 : decode cX5_fillSaws 77 = .ok (.return_, 1) := by decide +kernel

theorem dX3_init_0 : decode cX3_init 0 = .ok (.aload_n 0, 1) := by decide +kernel
theorem dX3_init_1 : decode cX3_init 1 = .ok (.invokespecial 3, 3) := by decide +kernel
theorem dX3_init_4 : decode cX3_init 4 = .ok (.aload_n 0, 1) := by decide +kernel
theorem dX3_init_5 : decode cX3_init 5 = .ok (.bipush 8, 2) := by decide +kernel
theorem dX3_init_7 : decode cX3_init 7 = .ok (.newarray .double, 2) := by decide +kernel
theorem dX3_init_9 : decode cX3_init 9 = .ok (.putfield 9, 3) := by decide +kernel
theorem dX3_init_12 : decode cX3_init 12 = .ok (.aload_n 0, 1) := by decide +kernel
theorem dX3_init_13 : decode cX3_init 13 = .ok (.bipush 8, 2) := by decide +kernel
theorem dX3_init_15 : decode cX3_init 15 = .ok (.newarray .double, 2) := by decide +kernel
theorem dX3_init_17 : decode cX3_init 17 = .ok (.putfield 15, 3) := by decide +kernel
theorem dX3_init_20 : decode cX3_init 20 = .ok (.return_, 1) := by decide +kernel
theorem dX3_tell_0 : decode cX3_tell 0 = .ok (.iload_n 1, 1) := by decide +kernel
theorem dX3_tell_1 : decode cX3_tell 1 = .ok (.ifCond .lt 21, 3) := by decide +kernel
theorem dX3_tell_4 : decode cX3_tell 4 = .ok (.iload_n 1, 1) := by decide +kernel
theorem dX3_tell_5 : decode cX3_tell 5 = .ok (.aload_n 0, 1) := by decide +kernel
theorem dX3_tell_6 : decode cX3_tell 6 = .ok (.getfield 9, 3) := by decide +kernel
theorem dX3_tell_9 : decode cX3_tell 9 = .ok (.arraylength, 1) := by decide +kernel
theorem dX3_tell_10 : decode cX3_tell 10 = .ok (.if_icmp .ge 12, 3) := by decide +kernel
theorem dX3_tell_13 : decode cX3_tell 13 = .ok (.iload_n 1, 1) := by decide +kernel
theorem dX3_tell_14 : decode cX3_tell 14 = .ok (.aload_n 0, 1) := by decide +kernel
theorem dX3_tell_15 : decode cX3_tell 15 = .ok (.getfield 15, 3) := by decide +kernel
theorem dX3_tell_18 : decode cX3_tell 18 = .ok (.arraylength, 1) := by decide +kernel
theorem dX3_tell_19 : decode cX3_tell 19 = .ok (.if_icmp .lt 4, 3) := by decide +kernel
theorem dX3_tell_22 : decode cX3_tell 22 = .ok (.return_, 1) := by decide +kernel
theorem dX3_tell_23 : decode cX3_tell 23 = .ok (.aload_n 0, 1) := by decide +kernel
theorem dX3_tell_24 : decode cX3_tell 24 = .ok (.getfield 9, 3) := by decide +kernel
theorem dX3_tell_27 : decode cX3_tell 27 = .ok (.iload_n 1, 1) := by decide +kernel
theorem dX3_tell_28 : decode cX3_tell 28 = .ok (.dload_n 2, 1) := by decide +kernel
theorem dX3_tell_29 : decode cX3_tell 29 = .ok (.dastore, 1) := by decide +kernel
theorem dX3_tell_30 : decode cX3_tell 30 = .ok (.aload_n 0, 1) := by decide +kernel
theorem dX3_tell_31 : decode cX3_tell 31 = .ok (.getfield 15, 3) := by decide +kernel
theorem dX3_tell_34 : decode cX3_tell 34 = .ok (.iload_n 1, 1) := by decide +kernel
theorem dX3_tell_35 : decode cX3_tell 35 = .ok (.dload 4, 2) := by decide +kernel
theorem dX3_tell_37 : decode cX3_tell 37 = .ok (.dastore, 1) := by decide +kernel
theorem dX3_tell_38 : decode cX3_tell 38 = .ok (.aload_n 0, 1) := by decide +kernel
theorem dX3_tell_39 : decode cX3_tell 39 = .ok (.iconst 1, 1) := by decide +kernel
theorem dX3_tell_40 : decode cX3_tell 40 = .ok (.putfield 18, 3) := by decide +kernel
theorem dX3_tell_43 : decode cX3_tell 43 = .ok (.return_, 1) := by decide +kernel
theorem dX3_stand_0 : decode cX3_stand 0 = .ok (.aload_n 0, 1) := by decide +kernel
theorem dX3_stand_1 : decode cX3_stand 1 = .ok (.dconst 0, 1) := by decide +kernel
theorem dX3_stand_2 : decode cX3_stand 2 = .ok (.putfield 22, 3) := by decide +kernel
theorem dX3_stand_5 : decode cX3_stand 5 = .ok (.iconst 0, 1) := by decide +kernel
theorem dX3_stand_6 : decode cX3_stand 6 = .ok (.istore_n 3, 1) := by decide +kernel
theorem dX3_stand_7 : decode cX3_stand 7 = .ok (.aload_n 0, 1) := by decide +kernel
theorem dX3_stand_8 : decode cX3_stand 8 = .ok (.getfield 18, 3) := by decide +kernel
theorem dX3_stand_11 : decode cX3_stand 11 = .ok (.ifCond .eq 74, 3) := by decide +kernel
theorem dX3_stand_14 : decode cX3_stand 14 = .ok (.iload_n 3, 1) := by decide +kernel
theorem dX3_stand_15 : decode cX3_stand 15 = .ok (.aload_n 0, 1) := by decide +kernel
theorem dX3_stand_16 : decode cX3_stand 16 = .ok (.getfield 9, 3) := by decide +kernel
theorem dX3_stand_19 : decode cX3_stand 19 = .ok (.arraylength, 1) := by decide +kernel
theorem dX3_stand_20 : decode cX3_stand 20 = .ok (.if_icmp .ge 65, 3) := by decide +kernel
theorem dX3_stand_23 : decode cX3_stand 23 = .ok (.iload_n 3, 1) := by decide +kernel
theorem dX3_stand_24 : decode cX3_stand 24 = .ok (.aload_n 0, 1) := by decide +kernel
theorem dX3_stand_25 : decode cX3_stand 25 = .ok (.getfield 15, 3) := by decide +kernel
theorem dX3_stand_28 : decode cX3_stand 28 = .ok (.arraylength, 1) := by decide +kernel
theorem dX3_stand_29 : decode cX3_stand 29 = .ok (.if_icmp .ge 56, 3) := by decide +kernel
theorem dX3_stand_32 : decode cX3_stand 32 = .ok (.aload_n 0, 1) := by decide +kernel
theorem dX3_stand_33 : decode cX3_stand 33 = .ok (.getfield 9, 3) := by decide +kernel
theorem dX3_stand_36 : decode cX3_stand 36 = .ok (.iload_n 3, 1) := by decide +kernel
theorem dX3_stand_37 : decode cX3_stand 37 = .ok (.daload, 1) := by decide +kernel
theorem dX3_stand_38 : decode cX3_stand 38 = .ok (.dconst 0, 1) := by decide +kernel
theorem dX3_stand_39 : decode cX3_stand 39 = .ok (.dcmp .l, 1) := by decide +kernel
theorem dX3_stand_40 : decode cX3_stand 40 = .ok (.ifCond .le 39, 3) := by decide +kernel
theorem dX3_stand_43 : decode cX3_stand 43 = .ok (.aload_n 0, 1) := by decide +kernel
theorem dX3_stand_44 : decode cX3_stand 44 = .ok (.aload_n 0, 1) := by decide +kernel
theorem dX3_stand_45 : decode cX3_stand 45 = .ok (.getfield 22, 3) := by decide +kernel
theorem dX3_stand_48 : decode cX3_stand 48 = .ok (.aload_n 0, 1) := by decide +kernel
theorem dX3_stand_49 : decode cX3_stand 49 = .ok (.getfield 9, 3) := by decide +kernel
theorem dX3_stand_52 : decode cX3_stand 52 = .ok (.iload_n 3, 1) := by decide +kernel
theorem dX3_stand_53 : decode cX3_stand 53 = .ok (.daload, 1) := by decide +kernel
theorem dX3_stand_54 : decode cX3_stand 54 = .ok (.dload_n 1, 1) := by decide +kernel
theorem dX3_stand_55 : decode cX3_stand 55 = .ok (.sipush 3600, 3) := by decide +kernel
theorem dX3_stand_58 : decode cX3_stand 58 = .ok (.iload_n 3, 1) := by decide +kernel
theorem dX3_stand_59 : decode cX3_stand 59 = .ok (.iconst 1, 1) := by decide +kernel
theorem dX3_stand_60 : decode cX3_stand 60 = .ok (.iadd, 1) := by decide +kernel
theorem dX3_stand_61 : decode cX3_stand 61 = .ok (.imul, 1) := by decide +kernel
theorem dX3_stand_62 : decode cX3_stand 62 = .ok (.i2d, 1) := by decide +kernel
theorem dX3_stand_63 : decode cX3_stand 63 = .ok (.ddiv, 1) := by decide +kernel
theorem dX3_stand_64 : decode cX3_stand 64 = .ok (.aload_n 0, 1) := by decide +kernel
theorem dX3_stand_65 : decode cX3_stand 65 = .ok (.getfield 15, 3) := by decide +kernel
theorem dX3_stand_68 : decode cX3_stand 68 = .ok (.iload_n 3, 1) := by decide +kernel
theorem dX3_stand_69 : decode cX3_stand 69 = .ok (.daload, 1) := by decide +kernel
theorem dX3_stand_70 : decode cX3_stand 70 = .ok (.dadd, 1) := by decide +kernel
theorem dX3_stand_71 : decode cX3_stand 71 = .ok (.invokestatic 26, 3) := by decide +kernel
theorem dX3_stand_74 : decode cX3_stand 74 = .ok (.dmul, 1) := by decide +kernel
theorem dX3_stand_75 : decode cX3_stand 75 = .ok (.dadd, 1) := by decide +kernel
theorem dX3_stand_76 : decode cX3_stand 76 = .ok (.putfield 22, 3) := by decide +kernel
theorem dX3_stand_79 : decode cX3_stand 79 = .ok (.iinc 3 1, 3) := by decide +kernel
theorem dX3_stand_82 : decode cX3_stand 82 = .ok (.goto (-75), 3) := by decide +kernel
theorem dX3_stand_85 : decode cX3_stand 85 = .ok (.return_, 1) := by decide +kernel

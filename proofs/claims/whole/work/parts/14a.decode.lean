theorem dX4_init_0 : decode cX4_init 0 = .ok (.aload_n 0, 1) := by decide +kernel
theorem dX4_init_1 : decode cX4_init 1 = .ok (.invokespecial 3, 3) := by decide +kernel
theorem dX4_init_4 : decode cX4_init 4 = .ok (.aload_n 0, 1) := by decide +kernel
theorem dX4_init_5 : decode cX4_init 5 = .ok (.bipush 80, 2) := by decide +kernel
theorem dX4_init_7 : decode cX4_init 7 = .ok (.newarray .long, 2) := by decide +kernel
theorem dX4_init_9 : decode cX4_init 9 = .ok (.putfield 9, 3) := by decide +kernel
theorem dX4_init_12 : decode cX4_init 12 = .ok (.aload_n 0, 1) := by decide +kernel
theorem dX4_init_13 : decode cX4_init 13 = .ok (.iconst 4, 1) := by decide +kernel
theorem dX4_init_14 : decode cX4_init 14 = .ok (.newarray .long, 2) := by decide +kernel
theorem dX4_init_16 : decode cX4_init 16 = .ok (.putfield 15, 3) := by decide +kernel
theorem dX4_init_19 : decode cX4_init 19 = .ok (.aload_n 0, 1) := by decide +kernel
theorem dX4_init_20 : decode cX4_init 20 = .ok (.iconst (-1), 1) := by decide +kernel
theorem dX4_init_21 : decode cX4_init 21 = .ok (.putfield 18, 3) := by decide +kernel
theorem dX4_init_24 : decode cX4_init 24 = .ok (.aload_n 0, 1) := by decide +kernel
theorem dX4_init_25 : decode cX4_init 25 = .ok (.iload_n 1, 1) := by decide +kernel
theorem dX4_init_26 : decode cX4_init 26 = .ok (.newarray .long, 2) := by decide +kernel
theorem dX4_init_28 : decode cX4_init 28 = .ok (.putfield 22, 3) := by decide +kernel
theorem dX4_init_31 : decode cX4_init 31 = .ok (.aload_n 0, 1) := by decide +kernel
theorem dX4_init_32 : decode cX4_init 32 = .ok (.iload_n 1, 1) := by decide +kernel
theorem dX4_init_33 : decode cX4_init 33 = .ok (.newarray .double, 2) := by decide +kernel
theorem dX4_init_35 : decode cX4_init 35 = .ok (.putfield 25, 3) := by decide +kernel
theorem dX4_init_38 : decode cX4_init 38 = .ok (.aload_n 0, 1) := by decide +kernel
theorem dX4_init_39 : decode cX4_init 39 = .ok (.iload_n 1, 1) := by decide +kernel
theorem dX4_init_40 : decode cX4_init 40 = .ok (.newarray .double, 2) := by decide +kernel
theorem dX4_init_42 : decode cX4_init 42 = .ok (.putfield 29, 3) := by decide +kernel
theorem dX4_init_45 : decode cX4_init 45 = .ok (.aload_n 0, 1) := by decide +kernel
theorem dX4_init_46 : decode cX4_init 46 = .ok (.iload_n 1, 1) := by decide +kernel
theorem dX4_init_47 : decode cX4_init 47 = .ok (.newarray .double, 2) := by decide +kernel
theorem dX4_init_49 : decode cX4_init 49 = .ok (.putfield 32, 3) := by decide +kernel
theorem dX4_init_52 : decode cX4_init 52 = .ok (.aload_n 0, 1) := by decide +kernel
theorem dX4_init_53 : decode cX4_init 53 = .ok (.iload_n 2, 1) := by decide +kernel
theorem dX4_init_54 : decode cX4_init 54 = .ok (.newarray .double, 2) := by decide +kernel
theorem dX4_init_56 : decode cX4_init 56 = .ok (.putfield 35, 3) := by decide +kernel
theorem dX4_init_59 : decode cX4_init 59 = .ok (.return_, 1) := by decide +kernel
theorem dX4_keepCells_0 : decode cX4_keepCells 0 = .ok (.iconst 0, 1) := by decide +kernel
theorem dX4_keepCells_1 : decode cX4_keepCells 1 = .ok (.istore_n 2, 1) := by decide +kernel
theorem dX4_keepCells_2 : decode cX4_keepCells 2 = .ok (.iload_n 2, 1) := by decide +kernel
theorem dX4_keepCells_3 : decode cX4_keepCells 3 = .ok (.aload_n 0, 1) := by decide +kernel
theorem dX4_keepCells_4 : decode cX4_keepCells 4 = .ok (.aload_n 1, 1) := by decide +kernel
theorem dX4_keepCells_5 : decode cX4_keepCells 5 = .ok (.invokevirtual 38, 3) := by decide +kernel
theorem dX4_keepCells_8 : decode cX4_keepCells 8 = .ok (.if_icmp .ge 57, 3) := by decide +kernel
theorem dX4_keepCells_11 : decode cX4_keepCells 11 = .ok (.aload_n 0, 1) := by decide +kernel
theorem dX4_keepCells_12 : decode cX4_keepCells 12 = .ok (.getfield 22, 3) := by decide +kernel
theorem dX4_keepCells_15 : decode cX4_keepCells 15 = .ok (.iload_n 2, 1) := by decide +kernel
theorem dX4_keepCells_16 : decode cX4_keepCells 16 = .ok (.aload_n 1, 1) := by decide +kernel
theorem dX4_keepCells_17 : decode cX4_keepCells 17 = .ok (.iload_n 2, 1) := by decide +kernel
theorem dX4_keepCells_18 : decode cX4_keepCells 18 = .ok (.aaload, 1) := by decide +kernel
theorem dX4_keepCells_19 : decode cX4_keepCells 19 = .ok (.getfield 42, 3) := by decide +kernel
theorem dX4_keepCells_22 : decode cX4_keepCells 22 = .ok (.lastore, 1) := by decide +kernel
theorem dX4_keepCells_23 : decode cX4_keepCells 23 = .ok (.aload_n 0, 1) := by decide +kernel
theorem dX4_keepCells_24 : decode cX4_keepCells 24 = .ok (.getfield 25, 3) := by decide +kernel
theorem dX4_keepCells_27 : decode cX4_keepCells 27 = .ok (.iload_n 2, 1) := by decide +kernel
theorem dX4_keepCells_28 : decode cX4_keepCells 28 = .ok (.aload_n 1, 1) := by decide +kernel
theorem dX4_keepCells_29 : decode cX4_keepCells 29 = .ok (.iload_n 2, 1) := by decide +kernel
theorem dX4_keepCells_30 : decode cX4_keepCells 30 = .ok (.aaload, 1) := by decide +kernel
theorem dX4_keepCells_31 : decode cX4_keepCells 31 = .ok (.getfield 47, 3) := by decide +kernel
theorem dX4_keepCells_34 : decode cX4_keepCells 34 = .ok (.dastore, 1) := by decide +kernel
theorem dX4_keepCells_35 : decode cX4_keepCells 35 = .ok (.aload_n 0, 1) := by decide +kernel
theorem dX4_keepCells_36 : decode cX4_keepCells 36 = .ok (.getfield 29, 3) := by decide +kernel
theorem dX4_keepCells_39 : decode cX4_keepCells 39 = .ok (.iload_n 2, 1) := by decide +kernel
theorem dX4_keepCells_40 : decode cX4_keepCells 40 = .ok (.aload_n 1, 1) := by decide +kernel
theorem dX4_keepCells_41 : decode cX4_keepCells 41 = .ok (.iload_n 2, 1) := by decide +kernel
theorem dX4_keepCells_42 : decode cX4_keepCells 42 = .ok (.aaload, 1) := by decide +kernel
theorem dX4_keepCells_43 : decode cX4_keepCells 43 = .ok (.getfield 50, 3) := by decide +kernel
theorem dX4_keepCells_46 : decode cX4_keepCells 46 = .ok (.dastore, 1) := by decide +kernel
theorem dX4_keepCells_47 : decode cX4_keepCells 47 = .ok (.aload_n 0, 1) := by decide +kernel
theorem dX4_keepCells_48 : decode cX4_keepCells 48 = .ok (.getfield 32, 3) := by decide +kernel
theorem dX4_keepCells_51 : decode cX4_keepCells 51 = .ok (.iload_n 2, 1) := by decide +kernel
theorem dX4_keepCells_52 : decode cX4_keepCells 52 = .ok (.aload_n 1, 1) := by decide +kernel
theorem dX4_keepCells_53 : decode cX4_keepCells 53 = .ok (.iload_n 2, 1) := by decide +kernel
theorem dX4_keepCells_54 : decode cX4_keepCells 54 = .ok (.aaload, 1) := by decide +kernel
theorem dX4_keepCells_55 : decode cX4_keepCells 55 = .ok (.getfield 52, 3) := by decide +kernel
theorem dX4_keepCells_58 : decode cX4_keepCells 58 = .ok (.dastore, 1) := by decide +kernel
theorem dX4_keepCells_59 : decode cX4_keepCells 59 = .ok (.iinc 2 1, 3) := by decide +kernel
theorem dX4_keepCells_62 : decode cX4_keepCells 62 = .ok (.goto (-60), 3) := by decide +kernel
theorem dX4_keepCells_65 : decode cX4_keepCells 65 = .ok (.return_, 1) := by decide +kernel
theorem dX4_giveCells_0 : decode cX4_giveCells 0 = .ok (.iconst 0, 1) := by decide +kernel
theorem dX4_giveCells_1 : decode cX4_giveCells 1 = .ok (.istore_n 2, 1) := by decide +kernel
theorem dX4_giveCells_2 : decode cX4_giveCells 2 = .ok (.iload_n 2, 1) := by decide +kernel
theorem dX4_giveCells_3 : decode cX4_giveCells 3 = .ok (.aload_n 0, 1) := by decide +kernel
theorem dX4_giveCells_4 : decode cX4_giveCells 4 = .ok (.aload_n 1, 1) := by decide +kernel
theorem dX4_giveCells_5 : decode cX4_giveCells 5 = .ok (.invokevirtual 38, 3) := by decide +kernel
theorem dX4_giveCells_8 : decode cX4_giveCells 8 = .ok (.if_icmp .ge 57, 3) := by decide +kernel
theorem dX4_giveCells_11 : decode cX4_giveCells 11 = .ok (.aload_n 1, 1) := by decide +kernel
theorem dX4_giveCells_12 : decode cX4_giveCells 12 = .ok (.iload_n 2, 1) := by decide +kernel
theorem dX4_giveCells_13 : decode cX4_giveCells 13 = .ok (.aaload, 1) := by decide +kernel
theorem dX4_giveCells_14 : decode cX4_giveCells 14 = .ok (.aload_n 0, 1) := by decide +kernel
theorem dX4_giveCells_15 : decode cX4_giveCells 15 = .ok (.getfield 22, 3) := by decide +kernel
theorem dX4_giveCells_18 : decode cX4_giveCells 18 = .ok (.iload_n 2, 1) := by decide +kernel
theorem dX4_giveCells_19 : decode cX4_giveCells 19 = .ok (.laload, 1) := by decide +kernel
theorem dX4_giveCells_20 : decode cX4_giveCells 20 = .ok (.putfield 42, 3) := by decide +kernel
theorem dX4_giveCells_23 : decode cX4_giveCells 23 = .ok (.aload_n 1, 1) := by decide +kernel
theorem dX4_giveCells_24 : decode cX4_giveCells 24 = .ok (.iload_n 2, 1) := by decide +kernel
theorem dX4_giveCells_25 : decode cX4_giveCells 25 = .ok (.aaload, 1) := by decide +kernel
theorem dX4_giveCells_26 : decode cX4_giveCells 26 = .ok (.aload_n 0, 1) := by decide +kernel
theorem dX4_giveCells_27 : decode cX4_giveCells 27 = .ok (.getfield 25, 3) := by decide +kernel
theorem dX4_giveCells_30 : decode cX4_giveCells 30 = .ok (.iload_n 2, 1) := by decide +kernel
theorem dX4_giveCells_31 : decode cX4_giveCells 31 = .ok (.daload, 1) := by decide +kernel
theorem dX4_giveCells_32 : decode cX4_giveCells 32 = .ok (.putfield 47, 3) := by decide +kernel
theorem dX4_giveCells_35 : decode cX4_giveCells 35 = .ok (.aload_n 1, 1) := by decide +kernel
theorem dX4_giveCells_36 : decode cX4_giveCells 36 = .ok (.iload_n 2, 1) := by decide +kernel
theorem dX4_giveCells_37 : decode cX4_giveCells 37 = .ok (.aaload, 1) := by decide +kernel
theorem dX4_giveCells_38 : decode cX4_giveCells 38 = .ok (.aload_n 0, 1) := by decide +kernel
theorem dX4_giveCells_39 : decode cX4_giveCells 39 = .ok (.getfield 29, 3) := by decide +kernel
theorem dX4_giveCells_42 : decode cX4_giveCells 42 = .ok (.iload_n 2, 1) := by decide +kernel
theorem dX4_giveCells_43 : decode cX4_giveCells 43 = .ok (.daload, 1) := by decide +kernel
theorem dX4_giveCells_44 : decode cX4_giveCells 44 = .ok (.putfield 50, 3) := by decide +kernel
theorem dX4_giveCells_47 : decode cX4_giveCells 47 = .ok (.aload_n 1, 1) := by decide +kernel
theorem dX4_giveCells_48 : decode cX4_giveCells 48 = .ok (.iload_n 2, 1) := by decide +kernel
theorem dX4_giveCells_49 : decode cX4_giveCells 49 = .ok (.aaload, 1) := by decide +kernel
theorem dX4_giveCells_50 : decode cX4_giveCells 50 = .ok (.aload_n 0, 1) := by decide +kernel
theorem dX4_giveCells_51 : decode cX4_giveCells 51 = .ok (.getfield 32, 3) := by decide +kernel
theorem dX4_giveCells_54 : decode cX4_giveCells 54 = .ok (.iload_n 2, 1) := by decide +kernel
theorem dX4_giveCells_55 : decode cX4_giveCells 55 = .ok (.daload, 1) := by decide +kernel
theorem dX4_giveCells_56 : decode cX4_giveCells 56 = .ok (.putfield 52, 3) := by decide +kernel
theorem dX4_giveCells_59 : decode cX4_giveCells 59 = .ok (.iinc 2 1, 3) := by decide +kernel
theorem dX4_giveCells_62 : decode cX4_giveCells 62 = .ok (.goto (-60), 3) := by decide +kernel
theorem dX4_giveCells_65 : decode cX4_giveCells 65 = .ok (.return_, 1) := by decide +kernel
theorem dX4_keepFaces_0 : decode cX4_keepFaces 0 = .ok (.iconst 0, 1) := by decide +kernel
theorem dX4_keepFaces_1 : decode cX4_keepFaces 1 = .ok (.istore_n 2, 1) := by decide +kernel
theorem dX4_keepFaces_2 : decode cX4_keepFaces 2 = .ok (.iload_n 2, 1) := by decide +kernel
theorem dX4_keepFaces_3 : decode cX4_keepFaces 3 = .ok (.aload_n 1, 1) := by decide +kernel
theorem dX4_keepFaces_4 : decode cX4_keepFaces 4 = .ok (.arraylength, 1) := by decide +kernel
theorem dX4_keepFaces_5 : decode cX4_keepFaces 5 = .ok (.if_icmp .ge 30, 3) := by decide +kernel
theorem dX4_keepFaces_8 : decode cX4_keepFaces 8 = .ok (.iload_n 2, 1) := by decide +kernel
theorem dX4_keepFaces_9 : decode cX4_keepFaces 9 = .ok (.aload_n 0, 1) := by decide +kernel
theorem dX4_keepFaces_10 : decode cX4_keepFaces 10 = .ok (.getfield 35, 3) := by decide +kernel
theorem dX4_keepFaces_13 : decode cX4_keepFaces 13 = .ok (.arraylength, 1) := by decide +kernel
theorem dX4_keepFaces_14 : decode cX4_keepFaces 14 = .ok (.if_icmp .ge 21, 3) := by decide +kernel
theorem dX4_keepFaces_17 : decode cX4_keepFaces 17 = .ok (.aload_n 0, 1) := by decide +kernel
theorem dX4_keepFaces_18 : decode cX4_keepFaces 18 = .ok (.getfield 35, 3) := by decide +kernel
theorem dX4_keepFaces_21 : decode cX4_keepFaces 21 = .ok (.iload_n 2, 1) := by decide +kernel
theorem dX4_keepFaces_22 : decode cX4_keepFaces 22 = .ok (.aload_n 1, 1) := by decide +kernel
theorem dX4_keepFaces_23 : decode cX4_keepFaces 23 = .ok (.iload_n 2, 1) := by decide +kernel
theorem dX4_keepFaces_24 : decode cX4_keepFaces 24 = .ok (.aaload, 1) := by decide +kernel
theorem dX4_keepFaces_25 : decode cX4_keepFaces 25 = .ok (.getfield 54, 3) := by decide +kernel
theorem dX4_keepFaces_28 : decode cX4_keepFaces 28 = .ok (.dastore, 1) := by decide +kernel
theorem dX4_keepFaces_29 : decode cX4_keepFaces 29 = .ok (.iinc 2 1, 3) := by decide +kernel
theorem dX4_keepFaces_32 : decode cX4_keepFaces 32 = .ok (.goto (-30), 3) := by decide +kernel
theorem dX4_keepFaces_35 : decode cX4_keepFaces 35 = .ok (.return_, 1) := by decide +kernel
theorem dX4_giveFaces_0 : decode cX4_giveFaces 0 = .ok (.iconst 0, 1) := by decide +kernel
theorem dX4_giveFaces_1 : decode cX4_giveFaces 1 = .ok (.istore_n 2, 1) := by decide +kernel
theorem dX4_giveFaces_2 : decode cX4_giveFaces 2 = .ok (.iload_n 2, 1) := by decide +kernel
theorem dX4_giveFaces_3 : decode cX4_giveFaces 3 = .ok (.aload_n 1, 1) := by decide +kernel
theorem dX4_giveFaces_4 : decode cX4_giveFaces 4 = .ok (.arraylength, 1) := by decide +kernel
theorem dX4_giveFaces_5 : decode cX4_giveFaces 5 = .ok (.if_icmp .ge 30, 3) := by decide +kernel
theorem dX4_giveFaces_8 : decode cX4_giveFaces 8 = .ok (.iload_n 2, 1) := by decide +kernel
theorem dX4_giveFaces_9 : decode cX4_giveFaces 9 = .ok (.aload_n 0, 1) := by decide +kernel
theorem dX4_giveFaces_10 : decode cX4_giveFaces 10 = .ok (.getfield 35, 3) := by decide +kernel
theorem dX4_giveFaces_13 : decode cX4_giveFaces 13 = .ok (.arraylength, 1) := by decide +kernel
theorem dX4_giveFaces_14 : decode cX4_giveFaces 14 = .ok (.if_icmp .ge 21, 3) := by decide +kernel
theorem dX4_giveFaces_17 : decode cX4_giveFaces 17 = .ok (.aload_n 1, 1) := by decide +kernel
theorem dX4_giveFaces_18 : decode cX4_giveFaces 18 = .ok (.iload_n 2, 1) := by decide +kernel
theorem dX4_giveFaces_19 : decode cX4_giveFaces 19 = .ok (.aaload, 1) := by decide +kernel
theorem dX4_giveFaces_20 : decode cX4_giveFaces 20 = .ok (.aload_n 0, 1) := by decide +kernel
theorem dX4_giveFaces_21 : decode cX4_giveFaces 21 = .ok (.getfield 35, 3) := by decide +kernel
theorem dX4_giveFaces_24 : decode cX4_giveFaces 24 = .ok (.iload_n 2, 1) := by decide +kernel
theorem dX4_giveFaces_25 : decode cX4_giveFaces 25 = .ok (.daload, 1) := by decide +kernel
theorem dX4_giveFaces_26 : decode cX4_giveFaces 26 = .ok (.putfield 54, 3) := by decide +kernel
theorem dX4_giveFaces_29 : decode cX4_giveFaces 29 = .ok (.iinc 2 1, 3) := by decide +kernel
theorem dX4_giveFaces_32 : decode cX4_giveFaces 32 = .ok (.goto (-30), 3) := by decide +kernel
theorem dX4_giveFaces_35 : decode cX4_giveFaces 35 = .ok (.return_, 1) := by decide +kernel
theorem dX4_keepNests_0 : decode cX4_keepNests 0 = .ok (.iconst 0, 1) := by decide +kernel
theorem dX4_keepNests_1 : decode cX4_keepNests 1 = .ok (.istore_n 2, 1) := by decide +kernel
theorem dX4_keepNests_2 : decode cX4_keepNests 2 = .ok (.iload_n 2, 1) := by decide +kernel
theorem dX4_keepNests_3 : decode cX4_keepNests 3 = .ok (.aload_n 0, 1) := by decide +kernel
theorem dX4_keepNests_4 : decode cX4_keepNests 4 = .ok (.getfield 9, 3) := by decide +kernel
theorem dX4_keepNests_7 : decode cX4_keepNests 7 = .ok (.arraylength, 1) := by decide +kernel
theorem dX4_keepNests_8 : decode cX4_keepNests 8 = .ok (.if_icmp .ge 38, 3) := by decide +kernel
theorem dX4_keepNests_11 : decode cX4_keepNests 11 = .ok (.iload_n 2, 1) := by decide +kernel
theorem dX4_keepNests_12 : decode cX4_keepNests 12 = .ok (.bipush 8, 2) := by decide +kernel
theorem dX4_keepNests_14 : decode cX4_keepNests 14 = .ok (.idiv, 1) := by decide +kernel
theorem dX4_keepNests_15 : decode cX4_keepNests 15 = .ok (.aload_n 1, 1) := by decide +kernel
theorem dX4_keepNests_16 : decode cX4_keepNests 16 = .ok (.arraylength, 1) := by decide +kernel
theorem dX4_keepNests_17 : decode cX4_keepNests 17 = .ok (.if_icmp .ge 29, 3) := by decide +kernel
theorem dX4_keepNests_20 : decode cX4_keepNests 20 = .ok (.aload_n 0, 1) := by decide +kernel
theorem dX4_keepNests_21 : decode cX4_keepNests 21 = .ok (.getfield 9, 3) := by decide +kernel
theorem dX4_keepNests_24 : decode cX4_keepNests 24 = .ok (.iload_n 2, 1) := by decide +kernel
theorem dX4_keepNests_25 : decode cX4_keepNests 25 = .ok (.aload_n 1, 1) := by decide +kernel
theorem dX4_keepNests_26 : decode cX4_keepNests 26 = .ok (.iload_n 2, 1) := by decide +kernel
theorem dX4_keepNests_27 : decode cX4_keepNests 27 = .ok (.bipush 8, 2) := by decide +kernel
theorem dX4_keepNests_29 : decode cX4_keepNests 29 = .ok (.idiv, 1) := by decide +kernel
theorem dX4_keepNests_30 : decode cX4_keepNests 30 = .ok (.aaload, 1) := by decide +kernel
theorem dX4_keepNests_31 : decode cX4_keepNests 31 = .ok (.getfield 59, 3) := by decide +kernel
theorem dX4_keepNests_34 : decode cX4_keepNests 34 = .ok (.iload_n 2, 1) := by decide +kernel
theorem dX4_keepNests_35 : decode cX4_keepNests 35 = .ok (.bipush 8, 2) := by decide +kernel
theorem dX4_keepNests_37 : decode cX4_keepNests 37 = .ok (.irem, 1) := by decide +kernel
theorem dX4_keepNests_38 : decode cX4_keepNests 38 = .ok (.laload, 1) := by decide +kernel
theorem dX4_keepNests_39 : decode cX4_keepNests 39 = .ok (.lastore, 1) := by decide +kernel
theorem dX4_keepNests_40 : decode cX4_keepNests 40 = .ok (.iinc 2 1, 3) := by decide +kernel
theorem dX4_keepNests_43 : decode cX4_keepNests 43 = .ok (.goto (-41), 3) := by decide +kernel
theorem dX4_keepNests_46 : decode cX4_keepNests 46 = .ok (.return_, 1) := by decide +kernel
theorem dX4_giveNests_0 : decode cX4_giveNests 0 = .ok (.iconst 0, 1) := by decide +kernel
theorem dX4_giveNests_1 : decode cX4_giveNests 1 = .ok (.istore_n 2, 1) := by decide +kernel
theorem dX4_giveNests_2 : decode cX4_giveNests 2 = .ok (.iload_n 2, 1) := by decide +kernel
theorem dX4_giveNests_3 : decode cX4_giveNests 3 = .ok (.aload_n 0, 1) := by decide +kernel
theorem dX4_giveNests_4 : decode cX4_giveNests 4 = .ok (.getfield 9, 3) := by decide +kernel
theorem dX4_giveNests_7 : decode cX4_giveNests 7 = .ok (.arraylength, 1) := by decide +kernel
theorem dX4_giveNests_8 : decode cX4_giveNests 8 = .ok (.if_icmp .ge 38, 3) := by decide +kernel
theorem dX4_giveNests_11 : decode cX4_giveNests 11 = .ok (.iload_n 2, 1) := by decide +kernel
theorem dX4_giveNests_12 : decode cX4_giveNests 12 = .ok (.bipush 8, 2) := by decide +kernel
theorem dX4_giveNests_14 : decode cX4_giveNests 14 = .ok (.idiv, 1) := by decide +kernel
theorem dX4_giveNests_15 : decode cX4_giveNests 15 = .ok (.aload_n 1, 1) := by decide +kernel
theorem dX4_giveNests_16 : decode cX4_giveNests 16 = .ok (.arraylength, 1) := by decide +kernel
theorem dX4_giveNests_17 : decode cX4_giveNests 17 = .ok (.if_icmp .ge 29, 3) := by decide +kernel
theorem dX4_giveNests_20 : decode cX4_giveNests 20 = .ok (.aload_n 1, 1) := by decide +kernel
theorem dX4_giveNests_21 : decode cX4_giveNests 21 = .ok (.iload_n 2, 1) := by decide +kernel
theorem dX4_giveNests_22 : decode cX4_giveNests 22 = .ok (.bipush 8, 2) := by decide +kernel
theorem dX4_giveNests_24 : decode cX4_giveNests 24 = .ok (.idiv, 1) := by decide +kernel
theorem dX4_giveNests_25 : decode cX4_giveNests 25 = .ok (.aaload, 1) := by decide +kernel
theorem dX4_giveNests_26 : decode cX4_giveNests 26 = .ok (.getfield 59, 3) := by decide +kernel
theorem dX4_giveNests_29 : decode cX4_giveNests 29 = .ok (.iload_n 2, 1) := by decide +kernel
theorem dX4_giveNests_30 : decode cX4_giveNests 30 = .ok (.bipush 8, 2) := by decide +kernel
theorem dX4_giveNests_32 : decode cX4_giveNests 32 = .ok (.irem, 1) := by decide +kernel
theorem dX4_giveNests_33 : decode cX4_giveNests 33 = .ok (.aload_n 0, 1) := by decide +kernel
theorem dX4_giveNests_34 : decode cX4_giveNests 34 = .ok (.getfield 9, 3) := by decide +kernel
theorem dX4_giveNests_37 : decode cX4_giveNests 37 = .ok (.iload_n 2, 1) := by decide +kernel
theorem dX4_giveNests_38 : decode cX4_giveNests 38 = .ok (.laload, 1) := by decide +kernel
theorem dX4_giveNests_39 : decode cX4_giveNests 39 = .ok (.lastore, 1) := by decide +kernel
theorem dX4_giveNests_40 : decode cX4_giveNests 40 = .ok (.iinc 2 1, 3) := by decide +kernel
theorem dX4_giveNests_43 : decode cX4_giveNests 43 = .ok (.goto (-41), 3) := by decide +kernel
theorem dX4_giveNests_46 : decode cX4_giveNests 46 = .ok (.return_, 1) := by decide +kernel
theorem dX4_keepSides_0 : decode cX4_keepSides 0 = .ok (.iconst 0, 1) := by decide +kernel
theorem dX4_keepSides_1 : decode cX4_keepSides 1 = .ok (.istore_n 2, 1) := by decide +kernel
theorem dX4_keepSides_2 : decode cX4_keepSides 2 = .ok (.iload_n 2, 1) := by decide +kernel
theorem dX4_keepSides_3 : decode cX4_keepSides 3 = .ok (.aload_n 1, 1) := by decide +kernel
theorem dX4_keepSides_4 : decode cX4_keepSides 4 = .ok (.arraylength, 1) := by decide +kernel
theorem dX4_keepSides_5 : decode cX4_keepSides 5 = .ok (.if_icmp .ge 30, 3) := by decide +kernel
theorem dX4_keepSides_8 : decode cX4_keepSides 8 = .ok (.iload_n 2, 1) := by decide +kernel
theorem dX4_keepSides_9 : decode cX4_keepSides 9 = .ok (.aload_n 0, 1) := by decide +kernel
theorem dX4_keepSides_10 : decode cX4_keepSides 10 = .ok (.getfield 15, 3) := by decide +kernel
theorem dX4_keepSides_13 : decode cX4_keepSides 13 = .ok (.arraylength, 1) := by decide +kernel
theorem dX4_keepSides_14 : decode cX4_keepSides 14 = .ok (.if_icmp .ge 21, 3) := by decide +kernel
theorem dX4_keepSides_17 : decode cX4_keepSides 17 = .ok (.aload_n 0, 1) := by decide +kernel
theorem dX4_keepSides_18 : decode cX4_keepSides 18 = .ok (.getfield 15, 3) := by decide +kernel
theorem dX4_keepSides_21 : decode cX4_keepSides 21 = .ok (.iload_n 2, 1) := by decide +kernel
theorem dX4_keepSides_22 : decode cX4_keepSides 22 = .ok (.aload_n 1, 1) := by decide +kernel
theorem dX4_keepSides_23 : decode cX4_keepSides 23 = .ok (.iload_n 2, 1) := by decide +kernel
theorem dX4_keepSides_24 : decode cX4_keepSides 24 = .ok (.aaload, 1) := by decide +kernel
theorem dX4_keepSides_25 : decode cX4_keepSides 25 = .ok (.getfield 62, 3) := by decide +kernel
theorem dX4_keepSides_28 : decode cX4_keepSides 28 = .ok (.lastore, 1) := by decide +kernel
theorem dX4_keepSides_29 : decode cX4_keepSides 29 = .ok (.iinc 2 1, 3) := by decide +kernel
theorem dX4_keepSides_32 : decode cX4_keepSides 32 = .ok (.goto (-30), 3) := by decide +kernel
theorem dX4_keepSides_35 : decode cX4_keepSides 35 = .ok (.return_, 1) := by decide +kernel
theorem dX4_giveSides_0 : decode cX4_giveSides 0 = .ok (.iconst 0, 1) := by decide +kernel
theorem dX4_giveSides_1 : decode cX4_giveSides 1 = .ok (.istore_n 2, 1) := by decide +kernel
theorem dX4_giveSides_2 : decode cX4_giveSides 2 = .ok (.iload_n 2, 1) := by decide +kernel
theorem dX4_giveSides_3 : decode cX4_giveSides 3 = .ok (.aload_n 1, 1) := by decide +kernel
theorem dX4_giveSides_4 : decode cX4_giveSides 4 = .ok (.arraylength, 1) := by decide +kernel
theorem dX4_giveSides_5 : decode cX4_giveSides 5 = .ok (.if_icmp .ge 30, 3) := by decide +kernel
theorem dX4_giveSides_8 : decode cX4_giveSides 8 = .ok (.iload_n 2, 1) := by decide +kernel
theorem dX4_giveSides_9 : decode cX4_giveSides 9 = .ok (.aload_n 0, 1) := by decide +kernel
theorem dX4_giveSides_10 : decode cX4_giveSides 10 = .ok (.getfield 15, 3) := by decide +kernel
theorem dX4_giveSides_13 : decode cX4_giveSides 13 = .ok (.arraylength, 1) := by decide +kernel
theorem dX4_giveSides_14 : decode cX4_giveSides 14 = .ok (.if_icmp .ge 21, 3) := by decide +kernel
theorem dX4_giveSides_17 : decode cX4_giveSides 17 = .ok (.aload_n 1, 1) := by decide +kernel
theorem dX4_giveSides_18 : decode cX4_giveSides 18 = .ok (.iload_n 2, 1) := by decide +kernel
theorem dX4_giveSides_19 : decode cX4_giveSides 19 = .ok (.aaload, 1) := by decide +kernel
theorem dX4_giveSides_20 : decode cX4_giveSides 20 = .ok (.aload_n 0, 1) := by decide +kernel
theorem dX4_giveSides_21 : decode cX4_giveSides 21 = .ok (.getfield 15, 3) := by decide +kernel
theorem dX4_giveSides_24 : decode cX4_giveSides 24 = .ok (.iload_n 2, 1) := by decide +kernel
theorem dX4_giveSides_25 : decode cX4_giveSides 25 = .ok (.laload, 1) := by decide +kernel
theorem dX4_giveSides_26 : decode cX4_giveSides 26 = .ok (.putfield 62, 3) := by decide +kernel
theorem dX4_giveSides_29 : decode cX4_giveSides 29 = .ok (.iinc 2 1, 3) := by decide +kernel
theorem dX4_giveSides_32 : decode cX4_giveSides 32 = .ok (.goto (-30), 3) := by decide +kernel
theorem dX4_giveSides_35 : decode cX4_giveSides 35 = .ok (.return_, 1) := by decide +kernel
theorem dX4_cellsIn_0 : decode cX4_cellsIn 0 = .ok (.aload_n 1, 1) := by decide +kernel
theorem dX4_cellsIn_1 : decode cX4_cellsIn 1 = .ok (.arraylength, 1) := by decide +kernel
theorem dX4_cellsIn_2 : decode cX4_cellsIn 2 = .ok (.aload_n 0, 1) := by decide +kernel
theorem dX4_cellsIn_3 : decode cX4_cellsIn 3 = .ok (.getfield 22, 3) := by decide +kernel
theorem dX4_cellsIn_6 : decode cX4_cellsIn 6 = .ok (.arraylength, 1) := by decide +kernel
theorem dX4_cellsIn_7 : decode cX4_cellsIn 7 = .ok (.invokestatic 66, 3) := by decide +kernel
theorem dX4_cellsIn_10 : decode cX4_cellsIn 10 = .ok (.ireturn, 1) := by decide +kernel

theorem dX3_takeFrom_38 : decode cX3_takeFrom 38 = .ok (.putfield 32, 3) := by decide +kernel
theorem dX3_takeFrom_41 : decode cX3_takeFrom 41 = .ok (.aload_n 1, 1) := by decide +kernel
theorem dX3_takeFrom_42 : decode cX3_takeFrom 42 = .ok (.getfield 36, 3) := by decide +kernel
theorem dX3_takeFrom_45 : decode cX3_takeFrom 45 = .ok (.iconst 0, 1) := by decide +kernel
theorem dX3_takeFrom_46 : decode cX3_takeFrom 46 = .ok (.aload_n 0, 1) := by decide +kernel
theorem dX3_takeFrom_47 : decode cX3_takeFrom 47 = .ok (.getfield 36, 3) := by decide +kernel
theorem dX3_takeFrom_50 : decode cX3_takeFrom 50 = .ok (.iconst 0, 1) := by decide +kernel
theorem dX3_takeFrom_51 : decode cX3_takeFrom 51 = .ok (.aload_n 0, 1) := by decide +kernel
theorem dX3_takeFrom_52 : decode cX3_takeFrom 52 = .ok (.getfield 36, 3) := by decide +kernel
theorem dX3_takeFrom_55 : decode cX3_takeFrom 55 = .ok (.arraylength, 1) := by decide +kernel
theorem dX3_takeFrom_56 : decode cX3_takeFrom 56 = .ok (.invokestatic 68, 3) := by decide +kernel
theorem dX3_takeFrom_59 : decode cX3_takeFrom 59 = .ok (.aload_n 1, 1) := by decide +kernel
theorem dX3_takeFrom_60 : decode cX3_takeFrom 60 = .ok (.getfield 40, 3) := by decide +kernel
theorem dX3_takeFrom_63 : decode cX3_takeFrom 63 = .ok (.iconst 0, 1) := by decide +kernel
theorem dX3_takeFrom_64 : decode cX3_takeFrom 64 = .ok (.aload_n 0, 1) := by decide +kernel
theorem dX3_takeFrom_65 : decode cX3_takeFrom 65 = .ok (.getfield 40, 3) := by decide +kernel
theorem dX3_takeFrom_68 : decode cX3_takeFrom 68 = .ok (.iconst 0, 1) := by decide +kernel
theorem dX3_takeFrom_69 : decode cX3_takeFrom 69 = .ok (.aload_n 0, 1) := by decide +kernel
theorem dX3_takeFrom_70 : decode cX3_takeFrom 70 = .ok (.getfield 40, 3) := by decide +kernel
theorem dX3_takeFrom_73 : decode cX3_takeFrom 73 = .ok (.arraylength, 1) := by decide +kernel
theorem dX3_takeFrom_74 : decode cX3_takeFrom 74 = .ok (.invokestatic 68, 3) := by decide +kernel
theorem dX3_takeFrom_77 : decode cX3_takeFrom 77 = .ok (.return_, 1) := by decide +kernel
theorem dX4_init_0 : decode cX4_init 0 = .ok (.aload_n 0, 1) := by decide +kernel
theorem dX4_init_1 : decode cX4_init 1 = .ok (.invokespecial 3, 3) := by decide +kernel
theorem dX4_init_4 : decode cX4_init 4 = .ok (.aload_n 0, 1) := by decide +kernel
theorem dX4_init_5 : decode cX4_init 5 = .ok (.new 9, 3) := by decide +kernel
theorem dX4_init_8 : decode cX4_init 8 = .ok (.dup, 1) := by decide +kernel
theorem dX4_init_9 : decode cX4_init 9 = .ok (.invokespecial 11, 3) := by decide +kernel
theorem dX4_init_12 : decode cX4_init 12 = .ok (.putfield 12, 3) := by decide +kernel
theorem dX4_init_15 : decode cX4_init 15 = .ok (.aload_n 0, 1) := by decide +kernel
theorem dX4_init_16 : decode cX4_init 16 = .ok (.aload_n 0, 1) := by decide +kernel
theorem dX4_init_17 : decode cX4_init 17 = .ok (.getfield 12, 3) := by decide +kernel
theorem dX4_init_20 : decode cX4_init 20 = .ok (.getfield 18, 3) := by decide +kernel
theorem dX4_init_23 : decode cX4_init 23 = .ok (.putfield 22, 3) := by decide +kernel
theorem dX4_init_26 : decode cX4_init 26 = .ok (.aload_n 0, 1) := by decide +kernel
theorem dX4_init_27 : decode cX4_init 27 = .ok (.sipush 175, 3) := by decide +kernel
theorem dX4_init_30 : decode cX4_init 30 = .ok (.newarray .int, 2) := by decide +kernel
theorem dX4_init_32 : decode cX4_init 32 = .ok (.putfield 23, 3) := by decide +kernel
theorem dX4_init_35 : decode cX4_init 35 = .ok (.aload_n 0, 1) := by decide +kernel
theorem dX4_init_36 : decode cX4_init 36 = .ok (.iconst 0, 1) := by decide +kernel
theorem dX4_init_37 : decode cX4_init 37 = .ok (.putfield 27, 3) := by decide +kernel
theorem dX4_init_40 : decode cX4_init 40 = .ok (.return_, 1) := by decide +kernel
theorem dX4_forget_0 : decode cX4_forget 0 = .ok (.aload_n 0, 1) := by decide +kernel
theorem dX4_forget_1 : decode cX4_forget 1 = .ok (.iconst 0, 1) := by decide +kernel
theorem dX4_forget_2 : decode cX4_forget 2 = .ok (.putfield 27, 3) := by decide +kernel
theorem dX4_forget_5 : decode cX4_forget 5 = .ok (.return_, 1) := by decide +kernel
theorem dX4_placeOf_0 : decode cX4_placeOf 0 = .ok (.iload_n 0, 1) := by decide +kernel
theorem dX4_placeOf_1 : decode cX4_placeOf 1 = .ok (.iload_n 1, 1) := by decide +kernel
theorem dX4_placeOf_2 : decode cX4_placeOf 2 = .ok (.invokestatic 31, 3) := by decide +kernel
theorem dX4_placeOf_5 : decode cX4_placeOf 5 = .ok (.iconst 5, 1) := by decide +kernel
theorem dX4_placeOf_6 : decode cX4_placeOf 6 = .ok (.imul, 1) := by decide +kernel
theorem dX4_placeOf_7 : decode cX4_placeOf 7 = .ok (.iload_n 0, 1) := by decide +kernel
theorem dX4_placeOf_8 : decode cX4_placeOf 8 = .ok (.iload_n 1, 1) := by decide +kernel
theorem dX4_placeOf_9 : decode cX4_placeOf 9 = .ok (.invokestatic 37, 3) := by decide +kernel
theorem dX4_placeOf_12 : decode cX4_placeOf 12 = .ok (.iadd, 1) := by decide +kernel
theorem dX4_placeOf_13 : decode cX4_placeOf 13 = .ok (.bipush 7, 2) := by decide +kernel
theorem dX4_placeOf_15 : decode cX4_placeOf 15 = .ok (.imul, 1) := by decide +kernel
theorem dX4_placeOf_16 : decode cX4_placeOf 16 = .ok (.iload_n 2, 1) := by decide +kernel
theorem dX4_placeOf_17 : decode cX4_placeOf 17 = .ok (.iadd, 1) := by decide +kernel
theorem dX4_placeOf_18 : decode cX4_placeOf 18 = .ok (.ireturn, 1) := by decide +kernel
theorem dX4_lesserOf_0 : decode cX4_lesserOf 0 = .ok (.iload_n 0, 1) := by decide +kernel
theorem dX4_lesserOf_1 : decode cX4_lesserOf 1 = .ok (.bipush 7, 2) := by decide +kernel
theorem dX4_lesserOf_3 : decode cX4_lesserOf 3 = .ok (.idiv, 1) := by decide +kernel
theorem dX4_lesserOf_4 : decode cX4_lesserOf 4 = .ok (.iconst 5, 1) := by decide +kernel
theorem dX4_lesserOf_5 : decode cX4_lesserOf 5 = .ok (.idiv, 1) := by decide +kernel
theorem dX4_lesserOf_6 : decode cX4_lesserOf 6 = .ok (.ireturn, 1) := by decide +kernel
theorem dX4_greaterOf_0 : decode cX4_greaterOf 0 = .ok (.iload_n 0, 1) := by decide +kernel
theorem dX4_greaterOf_1 : decode cX4_greaterOf 1 = .ok (.bipush 7, 2) := by decide +kernel
theorem dX4_greaterOf_3 : decode cX4_greaterOf 3 = .ok (.idiv, 1) := by decide +kernel
theorem dX4_greaterOf_4 : decode cX4_greaterOf 4 = .ok (.iconst 5, 1) := by decide +kernel
theorem dX4_greaterOf_5 : decode cX4_greaterOf 5 = .ok (.irem, 1) := by decide +kernel
theorem dX4_greaterOf_6 : decode cX4_greaterOf 6 = .ok (.ireturn, 1) := by decide +kernel
theorem dX4_stationOf_0 : decode cX4_stationOf 0 = .ok (.iload_n 0, 1) := by decide +kernel
theorem dX4_stationOf_1 : decode cX4_stationOf 1 = .ok (.bipush 7, 2) := by decide +kernel
theorem dX4_stationOf_3 : decode cX4_stationOf 3 = .ok (.irem, 1) := by decide +kernel
theorem dX4_stationOf_4 : decode cX4_stationOf 4 = .ok (.ireturn, 1) := by decide +kernel
theorem dX4_priceAt_0 : decode cX4_priceAt 0 = .ok (.iload_n 1, 1) := by decide +kernel
theorem dX4_priceAt_1 : decode cX4_priceAt 1 = .ok (.ifCond .lt 10, 3) := by decide +kernel
theorem dX4_priceAt_4 : decode cX4_priceAt 4 = .ok (.iload_n 1, 1) := by decide +kernel
theorem dX4_priceAt_5 : decode cX4_priceAt 5 = .ok (.sipush 175, 3) := by decide +kernel
theorem dX4_priceAt_8 : decode cX4_priceAt 8 = .ok (.if_icmp .lt 5, 3) := by decide +kernel
theorem dX4_priceAt_11 : decode cX4_priceAt 11 = .ok (.iconst 0, 1) := by decide +kernel
theorem dX4_priceAt_12 : decode cX4_priceAt 12 = .ok (.ireturn, 1) := by decide +kernel
theorem dX4_priceAt_13 : decode cX4_priceAt 13 = .ok (.aload_n 0, 1) := by decide +kernel
theorem dX4_priceAt_14 : decode cX4_priceAt 14 = .ok (.getfield 27, 3) := by decide +kernel
theorem dX4_priceAt_17 : decode cX4_priceAt 17 = .ok (.ifCond .ne 16, 3) := by decide +kernel
theorem dX4_priceAt_20 : decode cX4_priceAt 20 = .ok (.aload_n 0, 1) := by decide +kernel
theorem dX4_priceAt_21 : decode cX4_priceAt 21 = .ok (.getfield 23, 3) := by decide +kernel
theorem dX4_priceAt_24 : decode cX4_priceAt 24 = .ok (.iconst (-1), 1) := by decide +kernel
theorem dX4_priceAt_25 : decode cX4_priceAt 25 = .ok (.invokestatic 40, 3) := by decide +kernel
theorem dX4_priceAt_28 : decode cX4_priceAt 28 = .ok (.aload_n 0, 1) := by decide +kernel
theorem dX4_priceAt_29 : decode cX4_priceAt 29 = .ok (.iconst 1, 1) := by decide +kernel
theorem dX4_priceAt_30 : decode cX4_priceAt 30 = .ok (.putfield 27, 3) := by decide +kernel
theorem dX4_priceAt_33 : decode cX4_priceAt 33 = .ok (.aload_n 0, 1) := by decide +kernel
theorem dX4_priceAt_34 : decode cX4_priceAt 34 = .ok (.getfield 23, 3) := by decide +kernel
theorem dX4_priceAt_37 : decode cX4_priceAt 37 = .ok (.iload_n 1, 1) := by decide +kernel
theorem dX4_priceAt_38 : decode cX4_priceAt 38 = .ok (.iaload, 1) := by decide +kernel
theorem dX4_priceAt_39 : decode cX4_priceAt 39 = .ok (.iconst (-1), 1) := by decide +kernel
theorem dX4_priceAt_40 : decode cX4_priceAt 40 = .ok (.if_icmp .ne 52, 3) := by decide +kernel
theorem dX4_priceAt_43 : decode cX4_priceAt 43 = .ok (.aload_n 0, 1) := by decide +kernel
theorem dX4_priceAt_44 : decode cX4_priceAt 44 = .ok (.getfield 12, 3) := by decide +kernel
theorem dX4_priceAt_47 : decode cX4_priceAt 47 = .ok (.iload_n 1, 1) := by decide +kernel
theorem dX4_priceAt_48 : decode cX4_priceAt 48 = .ok (.invokestatic 46, 3) := by decide +kernel
theorem dX4_priceAt_51 : decode cX4_priceAt 51 = .ok (.iload_n 1, 1) := by decide +kernel
theorem dX4_priceAt_52 : decode cX4_priceAt 52 = .ok (.invokestatic 50, 3) := by decide +kernel
theorem dX4_priceAt_55 : decode cX4_priceAt 55 = .ok (.iload_n 1, 1) := by decide +kernel
theorem dX4_priceAt_56 : decode cX4_priceAt 56 = .ok (.invokestatic 53, 3) := by decide +kernel
theorem dX4_priceAt_59 : decode cX4_priceAt 59 = .ok (.invokevirtual 56, 3) := by decide +kernel
theorem dX4_priceAt_62 : decode cX4_priceAt 62 = .ok (.aload_n 0, 1) := by decide +kernel
theorem dX4_priceAt_63 : decode cX4_priceAt 63 = .ok (.getfield 23, 3) := by decide +kernel
theorem dX4_priceAt_66 : decode cX4_priceAt 66 = .ok (.iload_n 1, 1) := by decide +kernel
theorem dX4_priceAt_67 : decode cX4_priceAt 67 = .ok (.ldc 60, 2) := by decide +kernel
theorem dX4_priceAt_69 : decode cX4_priceAt 69 = .ok (.aload_n 0, 1) := by decide +kernel
theorem dX4_priceAt_70 : decode cX4_priceAt 70 = .ok (.getfield 12, 3) := by decide +kernel
theorem dX4_priceAt_73 : decode cX4_priceAt 73 = .ok (.getfield 61, 3) := by decide +kernel
theorem dX4_priceAt_76 : decode cX4_priceAt 76 = .ok (.getfield 65, 3) := by decide +kernel
theorem dX4_priceAt_79 : decode cX4_priceAt 79 = .ok (.imul, 1) := by decide +kernel
theorem dX4_priceAt_80 : decode cX4_priceAt 80 = .ok (.aload_n 0, 1) := by decide +kernel
theorem dX4_priceAt_81 : decode cX4_priceAt 81 = .ok (.getfield 12, 3) := by decide +kernel
theorem dX4_priceAt_84 : decode cX4_priceAt 84 = .ok (.getfield 61, 3) := by decide +kernel
theorem dX4_priceAt_87 : decode cX4_priceAt 87 = .ok (.getfield 71, 3) := by decide +kernel
theorem dX4_priceAt_90 : decode cX4_priceAt 90 = .ok (.iadd, 1) := by decide +kernel
theorem dX4_priceAt_91 : decode cX4_priceAt 91 = .ok (.iastore, 1) := by decide +kernel
theorem dX4_priceAt_92 : decode cX4_priceAt 92 = .ok (.aload_n 0, 1) := by decide +kernel
theorem dX4_priceAt_93 : decode cX4_priceAt 93 = .ok (.getfield 23, 3) := by decide +kernel
theorem dX4_priceAt_96 : decode cX4_priceAt 96 = .ok (.iload_n 1, 1) := by decide +kernel
theorem dX4_priceAt_97 : decode cX4_priceAt 97 = .ok (.iaload, 1) := by decide +kernel
theorem dX4_priceAt_98 : decode cX4_priceAt 98 = .ok (.ireturn, 1) := by decide +kernel
theorem dX4_canMeet_0 : decode cX4_canMeet 0 = .ok (.iload_n 1, 1) := by decide +kernel
theorem dX4_canMeet_1 : decode cX4_canMeet 1 = .ok (.invokestatic 46, 3) := by decide +kernel
theorem dX4_canMeet_4 : decode cX4_canMeet 4 = .ok (.istore_n 2, 1) := by decide +kernel
theorem dX4_canMeet_5 : decode cX4_canMeet 5 = .ok (.iload_n 1, 1) := by decide +kernel
theorem dX4_canMeet_6 : decode cX4_canMeet 6 = .ok (.invokestatic 50, 3) := by decide +kernel
theorem dX4_canMeet_9 : decode cX4_canMeet 9 = .ok (.istore_n 3, 1) := by decide +kernel
theorem dX4_canMeet_10 : decode cX4_canMeet 10 = .ok (.iload_n 2, 1) := by decide +kernel
theorem dX4_canMeet_11 : decode cX4_canMeet 11 = .ok (.iload_n 3, 1) := by decide +kernel
theorem dX4_canMeet_12 : decode cX4_canMeet 12 = .ok (.if_icmp .ge 53, 3) := by decide +kernel
theorem dX4_canMeet_15 : decode cX4_canMeet 15 = .ok (.aload_n 0, 1) := by decide +kernel
theorem dX4_canMeet_16 : decode cX4_canMeet 16 = .ok (.getfield 22, 3) := by decide +kernel
theorem dX4_canMeet_19 : decode cX4_canMeet 19 = .ok (.getfield 74, 3) := by decide +kernel
theorem dX4_canMeet_22 : decode cX4_canMeet 22 = .ok (.iload_n 3, 1) := by decide +kernel
theorem dX4_canMeet_23 : decode cX4_canMeet 23 = .ok (.invokevirtual 80, 3) := by decide +kernel
theorem dX4_canMeet_26 : decode cX4_canMeet 26 = .ok (.ifCond .eq 39, 3) := by decide +kernel
theorem dX4_canMeet_29 : decode cX4_canMeet 29 = .ok (.aload_n 0, 1) := by decide +kernel
theorem dX4_canMeet_30 : decode cX4_canMeet 30 = .ok (.getfield 22, 3) := by decide +kernel
theorem dX4_canMeet_33 : decode cX4_canMeet 33 = .ok (.getfield 74, 3) := by decide +kernel
theorem dX4_canMeet_36 : decode cX4_canMeet 36 = .ok (.iload_n 2, 1) := by decide +kernel
theorem dX4_canMeet_37 : decode cX4_canMeet 37 = .ok (.iload_n 3, 1) := by decide +kernel
theorem dX4_canMeet_38 : decode cX4_canMeet 38 = .ok (.invokevirtual 86, 3) := by decide +kernel
theorem dX4_canMeet_41 : decode cX4_canMeet 41 = .ok (.ifCond .eq 24, 3) := by decide +kernel
theorem dX4_canMeet_44 : decode cX4_canMeet 44 = .ok (.aload_n 0, 1) := by decide +kernel
theorem dX4_canMeet_45 : decode cX4_canMeet 45 = .ok (.getfield 22, 3) := by decide +kernel
theorem dX4_canMeet_48 : decode cX4_canMeet 48 = .ok (.getfield 90, 3) := by decide +kernel
theorem dX4_canMeet_51 : decode cX4_canMeet 51 = .ok (.iload_n 1, 1) := by decide +kernel
theorem dX4_canMeet_52 : decode cX4_canMeet 52 = .ok (.invokestatic 53, 3) := by decide +kernel
theorem dX4_canMeet_55 : decode cX4_canMeet 55 = .ok (.invokevirtual 94, 3) := by decide +kernel
theorem dX4_canMeet_58 : decode cX4_canMeet 58 = .ok (.ifCond .eq 7, 3) := by decide +kernel
theorem dX4_canMeet_61 : decode cX4_canMeet 61 = .ok (.iconst 1, 1) := by decide +kernel
theorem dX4_canMeet_62 : decode cX4_canMeet 62 = .ok (.goto 4, 3) := by decide +kernel
theorem dX4_canMeet_65 : decode cX4_canMeet 65 = .ok (.iconst 0, 1) := by decide +kernel
theorem dX4_canMeet_66 : decode cX4_canMeet 66 = .ok (.ireturn, 1) := by decide +kernel
theorem dX4_countMeets_0 : decode cX4_countMeets 0 = .ok (.iconst 0, 1) := by decide +kernel
theorem dX4_countMeets_1 : decode cX4_countMeets 1 = .ok (.istore_n 1, 1) := by decide +kernel
theorem dX4_countMeets_2 : decode cX4_countMeets 2 = .ok (.iconst 0, 1) := by decide +kernel
theorem dX4_countMeets_3 : decode cX4_countMeets 3 = .ok (.istore_n 2, 1) := by decide +kernel
theorem dX4_countMeets_4 : decode cX4_countMeets 4 = .ok (.iload_n 2, 1) := by decide +kernel
theorem dX4_countMeets_5 : decode cX4_countMeets 5 = .ok (.sipush 175, 3) := by decide +kernel
theorem dX4_countMeets_8 : decode cX4_countMeets 8 = .ok (.if_icmp .ge 25, 3) := by decide +kernel
theorem dX4_countMeets_11 : decode cX4_countMeets 11 = .ok (.iload_n 1, 1) := by decide +kernel
theorem dX4_countMeets_12 : decode cX4_countMeets 12 = .ok (.aload_n 0, 1) := by decide +kernel
theorem dX4_countMeets_13 : decode cX4_countMeets 13 = .ok (.iload_n 2, 1) := by decide +kernel
theorem dX4_countMeets_14 : decode cX4_countMeets 14 = .ok (.invokevirtual 99, 3) := by decide +kernel
theorem dX4_countMeets_17 : decode cX4_countMeets 17 = .ok (.ifCond .eq 7, 3) := by decide +kernel
theorem dX4_countMeets_20 : decode cX4_countMeets 20 = .ok (.iconst 1, 1) := by decide +kernel
theorem dX4_countMeets_21 : decode cX4_countMeets 21 = .ok (.goto 4, 3) := by decide +kernel
theorem dX4_countMeets_24 : decode cX4_countMeets 24 = .ok (.iconst 0, 1) := by decide +kernel
theorem dX4_countMeets_25 : decode cX4_countMeets 25 = .ok (.iadd, 1) := by decide +kernel
theorem dX4_countMeets_26 : decode cX4_countMeets 26 = .ok (.istore_n 1, 1) := by decide +kernel
theorem dX4_countMeets_27 : decode cX4_countMeets 27 = .ok (.iinc 2 1, 3) := by decide +kernel
theorem dX4_countMeets_30 : decode cX4_countMeets 30 = .ok (.goto (-26), 3) := by decide +kernel
theorem dX4_countMeets_33 : decode cX4_countMeets 33 = .ok (.iload_n 1, 1) := by decide +kernel
theorem dX4_countMeets_34 : decode cX4_countMeets 34 = .ok (.ireturn, 1) := by decide +kernel
theorem dX4_findBest_0 : decode cX4_findBest 0 = .ok (.iconst (-1), 1) := by decide +kernel
theorem dX4_findBest_1 : decode cX4_findBest 1 = .ok (.istore_n 1, 1) := by decide +kernel
theorem dX4_findBest_2 : decode cX4_findBest 2 = .ok (.iconst 0, 1) := by decide +kernel
theorem dX4_findBest_3 : decode cX4_findBest 3 = .ok (.istore_n 2, 1) := by decide +kernel
theorem dX4_findBest_4 : decode cX4_findBest 4 = .ok (.iconst 0, 1) := by decide +kernel
theorem dX4_findBest_5 : decode cX4_findBest 5 = .ok (.istore_n 3, 1) := by decide +kernel
theorem dX4_findBest_6 : decode cX4_findBest 6 = .ok (.iload_n 3, 1) := by decide +kernel
theorem dX4_findBest_7 : decode cX4_findBest 7 = .ok (.sipush 175, 3) := by decide +kernel
theorem dX4_findBest_10 : decode cX4_findBest 10 = .ok (.if_icmp .ge 39, 3) := by decide +kernel
theorem dX4_findBest_13 : decode cX4_findBest 13 = .ok (.aload_n 0, 1) := by decide +kernel
theorem dX4_findBest_14 : decode cX4_findBest 14 = .ok (.iload_n 3, 1) := by decide +kernel
theorem dX4_findBest_15 : decode cX4_findBest 15 = .ok (.invokevirtual 99, 3) := by decide +kernel
theorem dX4_findBest_18 : decode cX4_findBest 18 = .ok (.ifCond .eq 25, 3) := by decide +kernel
theorem dX4_findBest_21 : decode cX4_findBest 21 = .ok (.iload_n 1, 1) := by decide +kernel
theorem dX4_findBest_22 : decode cX4_findBest 22 = .ok (.iconst (-1), 1) := by decide +kernel
theorem dX4_findBest_23 : decode cX4_findBest 23 = .ok (.if_icmp .eq 12, 3) := by decide +kernel
theorem dX4_findBest_26 : decode cX4_findBest 26 = .ok (.aload_n 0, 1) := by decide +kernel
theorem dX4_findBest_27 : decode cX4_findBest 27 = .ok (.iload_n 3, 1) := by decide +kernel
theorem dX4_findBest_28 : decode cX4_findBest 28 = .ok (.invokevirtual 102, 3) := by decide +kernel
theorem dX4_findBest_31 : decode cX4_findBest 31 = .ok (.iload_n 2, 1) := by decide +kernel
theorem dX4_findBest_32 : decode cX4_findBest 32 = .ok (.if_icmp .ge 11, 3) := by decide +kernel
theorem dX4_findBest_35 : decode cX4_findBest 35 = .ok (.iload_n 3, 1) := by decide +kernel
theorem dX4_findBest_36 : decode cX4_findBest 36 = .ok (.istore_n 1, 1) := by decide +kernel
theorem dX4_findBest_37 : decode cX4_findBest 37 = .ok (.aload_n 0, 1) := by decide +kernel
theorem dX4_findBest_38 : decode cX4_findBest 38 = .ok (.iload_n 3, 1) := by decide +kernel
theorem dX4_findBest_39 : decode cX4_findBest 39 = .ok (.invokevirtual 102, 3) := by decide +kernel
theorem dX4_findBest_42 : decode cX4_findBest 42 = .ok (.istore_n 2, 1) := by decide +kernel
theorem dX4_findBest_43 : decode cX4_findBest 43 = .ok (.iinc 3 1, 3) := by decide +kernel
theorem dX4_findBest_46 : decode cX4_findBest 46 = .ok (.goto (-40), 3) := by decide +kernel
theorem dX4_findBest_49 : decode cX4_findBest 49 = .ok (.iload_n 1, 1) := by decide +kernel
theorem dX4_findBest_50 : decode cX4_findBest 50 = .ok (.ireturn, 1) := by decide +kernel
theorem dX4_firstWrong_0 : decode cX4_firstWrong 0 = .ok (.iconst 0, 1) := by decide +kernel
theorem dX4_firstWrong_1 : decode cX4_firstWrong 1 = .ok (.istore_n 2, 1) := by decide +kernel
theorem dX4_firstWrong_2 : decode cX4_firstWrong 2 = .ok (.iconst 0, 1) := by decide +kernel
theorem dX4_firstWrong_3 : decode cX4_firstWrong 3 = .ok (.istore_n 3, 1) := by decide +kernel
theorem dX4_firstWrong_4 : decode cX4_firstWrong 4 = .ok (.iload_n 3, 1) := by decide +kernel
theorem dX4_firstWrong_5 : decode cX4_firstWrong 5 = .ok (.sipush 175, 3) := by decide +kernel
theorem dX4_firstWrong_8 : decode cX4_firstWrong 8 = .ok (.if_icmp .ge 52, 3) := by decide +kernel
theorem dX4_firstWrong_11 : decode cX4_firstWrong 11 = .ok (.iload_n 2, 1) := by decide +kernel
theorem dX4_firstWrong_12 : decode cX4_firstWrong 12 = .ok (.aload_n 1, 1) := by decide +kernel
theorem dX4_firstWrong_13 : decode cX4_firstWrong 13 = .ok (.getfield 105, 3) := by decide +kernel
theorem dX4_firstWrong_16 : decode cX4_firstWrong 16 = .ok (.if_icmp .ge 44, 3) := by decide +kernel
theorem dX4_firstWrong_19 : decode cX4_firstWrong 19 = .ok (.aload_n 0, 1) := by decide +kernel
theorem dX4_firstWrong_20 : decode cX4_firstWrong 20 = .ok (.iload_n 3, 1) := by decide +kernel
theorem dX4_firstWrong_21 : decode cX4_firstWrong 21 = .ok (.invokevirtual 99, 3) := by decide +kernel
theorem dX4_firstWrong_24 : decode cX4_firstWrong 24 = .ok (.ifCond .ne 6, 3) := by decide +kernel
theorem dX4_firstWrong_27 : decode cX4_firstWrong 27 = .ok (.goto 27, 3) := by decide +kernel
theorem dX4_firstWrong_30 : decode cX4_firstWrong 30 = .ok (.aload_n 1, 1) := by decide +kernel
theorem dX4_firstWrong_31 : decode cX4_firstWrong 31 = .ok (.getfield 110, 3) := by decide +kernel
theorem dX4_firstWrong_34 : decode cX4_firstWrong 34 = .ok (.iload_n 2, 1) := by decide +kernel
theorem dX4_firstWrong_35 : decode cX4_firstWrong 35 = .ok (.iaload, 1) := by decide +kernel
theorem dX4_firstWrong_36 : decode cX4_firstWrong 36 = .ok (.aload_n 0, 1) := by decide +kernel
theorem dX4_firstWrong_37 : decode cX4_firstWrong 37 = .ok (.iload_n 3, 1) := by decide +kernel
theorem dX4_firstWrong_38 : decode cX4_firstWrong 38 = .ok (.invokevirtual 102, 3) := by decide +kernel
theorem dX4_firstWrong_41 : decode cX4_firstWrong 41 = .ok (.aload_n 1, 1) := by decide +kernel
theorem dX4_firstWrong_42 : decode cX4_firstWrong 42 = .ok (.invokevirtual 113, 3) := by decide +kernel
theorem dX4_firstWrong_45 : decode cX4_firstWrong 45 = .ok (.iand, 1) := by decide +kernel
theorem dX4_firstWrong_46 : decode cX4_firstWrong 46 = .ok (.if_icmp .eq 5, 3) := by decide +kernel
theorem dX4_firstWrong_49 : decode cX4_firstWrong 49 = .ok (.iload_n 2, 1) := by decide +kernel
theorem dX4_firstWrong_50 : decode cX4_firstWrong 50 = .ok (.ireturn, 1) := by decide +kernel
theorem dX4_firstWrong_51 : decode cX4_firstWrong 51 = .ok (.iinc 2 1, 3) := by decide +kernel
theorem dX4_firstWrong_54 : decode cX4_firstWrong 54 = .ok (.iinc 3 1, 3) := by decide +kernel
theorem dX4_firstWrong_57 : decode cX4_firstWrong 57 = .ok (.goto (-53), 3) := by decide +kernel
theorem dX4_firstWrong_60 : decode cX4_firstWrong 60 = .ok (.iconst (-1), 1) := by decide +kernel
theorem dX4_firstWrong_61 : decode cX4_firstWrong 61 = .ok (.ireturn, 1) := by decide +kernel
theorem dX5_init_0 : decode cX5_init 0 = .ok (.aload_n 0, 1) := by decide +kernel
theorem dX5_init_1 : decode cX5_init 1 = .ok (.invokespecial 3, 3) := by decide +kernel
theorem dX5_init_4 : decode cX5_init 4 = .ok (.aload_n 0, 1) := by decide +kernel
theorem dX5_init_5 : decode cX5_init 5 = .ok (.iconst 0, 1) := by decide +kernel
theorem dX5_init_6 : decode cX5_init 6 = .ok (.putfield 9, 3) := by decide +kernel
theorem dX5_init_9 : decode cX5_init 9 = .ok (.aload_n 0, 1) := by decide +kernel
theorem dX5_init_10 : decode cX5_init 10 = .ok (.bipush 12, 2) := by decide +kernel
theorem dX5_init_12 : decode cX5_init 12 = .ok (.newarray .int, 2) := by decide +kernel
theorem dX5_init_14 : decode cX5_init 14 = .ok (.putfield 15, 3) := by decide +kernel
theorem dX5_init_17 : decode cX5_init 17 = .ok (.aload_n 0, 1) := by decide +kernel
theorem dX5_init_18 : decode cX5_init 18 = .ok (.bipush 12, 2) := by decide +kernel
theorem dX5_init_20 : decode cX5_init 20 = .ok (.newarray .int, 2) := by decide +kernel
theorem dX5_init_22 : decode cX5_init 22 = .ok (.putfield 19, 3) := by decide +kernel
theorem dX5_init_25 : decode cX5_init 25 = .ok (.aload_n 0, 1) := by decide +kernel
theorem dX5_init_26 : decode cX5_init 26 = .ok (.bipush 12, 2) := by decide +kernel
theorem dX5_init_28 : decode cX5_init 28 = .ok (.newarray .int, 2) := by decide +kernel
theorem dX5_init_30 : decode cX5_init 30 = .ok (.putfield 22, 3) := by decide +kernel
theorem dX5_init_33 : decode cX5_init 33 = .ok (.aload_n 0, 1) := by decide +kernel
theorem dX5_init_34 : decode cX5_init 34 = .ok (.bipush 12, 2) := by decide +kernel
theorem dX5_init_36 : decode cX5_init 36 = .ok (.newarray .int, 2) := by decide +kernel
theorem dX5_init_38 : decode cX5_init 38 = .ok (.putfield 25, 3) := by decide +kernel
theorem dX5_init_41 : decode cX5_init 41 = .ok (.aload_n 0, 1) := by decide +kernel
theorem dX5_init_42 : decode cX5_init 42 = .ok (.bipush 12, 2) := by decide +kernel
theorem dX5_init_44 : decode cX5_init 44 = .ok (.newarray .int, 2) := by decide +kernel
theorem dX5_init_46 : decode cX5_init 46 = .ok (.putfield 28, 3) := by decide +kernel
theorem dX5_init_49 : decode cX5_init 49 = .ok (.aload_n 0, 1) := by decide +kernel
theorem dX5_init_50 : decode cX5_init 50 = .ok (.bipush 60, 2) := by decide +kernel
theorem dX5_init_52 : decode cX5_init 52 = .ok (.newarray .int, 2) := by decide +kernel
theorem dX5_init_54 : decode cX5_init 54 = .ok (.putfield 31, 3) := by decide +kernel
theorem dX5_init_57 : decode cX5_init 57 = .ok (.return_, 1) := by decide +kernel
theorem dX5_has_0 : decode cX5_has 0 = .ok (.iload_n 1, 1) := by decide +kernel
theorem dX5_has_1 : decode cX5_has 1 = .ok (.ifCond .lt 15, 3) := by decide +kernel
theorem dX5_has_4 : decode cX5_has 4 = .ok (.iload_n 1, 1) := by decide +kernel
theorem dX5_has_5 : decode cX5_has 5 = .ok (.aload_n 0, 1) := by decide +kernel
theorem dX5_has_6 : decode cX5_has 6 = .ok (.getfield 9, 3) := by decide +kernel
theorem dX5_has_9 : decode cX5_has 9 = .ok (.if_icmp .ge 7, 3) := by decide +kernel
theorem dX5_has_12 : decode cX5_has 12 = .ok (.iconst 1, 1) := by decide +kernel
theorem dX5_has_13 : decode cX5_has 13 = .ok (.goto 4, 3) := by decide +kernel
theorem dX5_has_16 : decode cX5_has 16 = .ok (.iconst 0, 1) := by decide +kernel
theorem dX5_has_17 : decode cX5_has 17 = .ok (.ireturn, 1) := by decide +kernel
theorem dX5_add_0 : decode cX5_add 0 = .ok (.aload_n 0, 1) := by decide +kernel
theorem dX5_add_1 : decode cX5_add 1 = .ok (.getfield 9, 3) := by decide +kernel
theorem dX5_add_4 : decode cX5_add 4 = .ok (.istore 6, 2) := by decide +kernel
theorem dX5_add_6 : decode cX5_add 6 = .ok (.aload_n 0, 1) := by decide +kernel
theorem dX5_add_7 : decode cX5_add 7 = .ok (.getfield 15, 3) := by decide +kernel
theorem dX5_add_10 : decode cX5_add 10 = .ok (.iload 6, 2) := by decide +kernel
theorem dX5_add_12 : decode cX5_add 12 = .ok (.iload_n 1, 1) := by decide +kernel
theorem dX5_add_13 : decode cX5_add 13 = .ok (.iastore, 1) := by decide +kernel
theorem dX5_add_14 : decode cX5_add 14 = .ok (.aload_n 0, 1) := by decide +kernel
theorem dX5_add_15 : decode cX5_add 15 = .ok (.getfield 19, 3) := by decide +kernel
theorem dX5_add_18 : decode cX5_add 18 = .ok (.iload 6, 2) := by decide +kernel
theorem dX5_add_20 : decode cX5_add 20 = .ok (.iload_n 2, 1) := by decide +kernel
theorem dX5_add_21 : decode cX5_add 21 = .ok (.iastore, 1) := by decide +kernel
theorem dX5_add_22 : decode cX5_add 22 = .ok (.aload_n 0, 1) := by decide +kernel
theorem dX5_add_23 : decode cX5_add 23 = .ok (.getfield 22, 3) := by decide +kernel
theorem dX5_add_26 : decode cX5_add 26 = .ok (.iload 6, 2) := by decide +kernel
theorem dX5_add_28 : decode cX5_add 28 = .ok (.iload_n 3, 1) := by decide +kernel
theorem dX5_add_29 : decode cX5_add 29 = .ok (.iastore, 1) := by decide +kernel
theorem dX5_add_30 : decode cX5_add 30 = .ok (.aload_n 0, 1) := by decide +kernel
theorem dX5_add_31 : decode cX5_add 31 = .ok (.getfield 25, 3) := by decide +kernel
theorem dX5_add_34 : decode cX5_add 34 = .ok (.iload 6, 2) := by decide +kernel
theorem dX5_add_36 : decode cX5_add 36 = .ok (.iload 4, 2) := by decide +kernel
theorem dX5_add_38 : decode cX5_add 38 = .ok (.iastore, 1) := by decide +kernel
theorem dX5_add_39 : decode cX5_add 39 = .ok (.aload_n 0, 1) := by decide +kernel
theorem dX5_add_40 : decode cX5_add 40 = .ok (.getfield 28, 3) := by decide +kernel
theorem dX5_add_43 : decode cX5_add 43 = .ok (.iload 6, 2) := by decide +kernel
theorem dX5_add_45 : decode cX5_add 45 = .ok (.iload 5, 2) := by decide +kernel
theorem dX5_add_47 : decode cX5_add 47 = .ok (.iastore, 1) := by decide +kernel
theorem dX5_add_48 : decode cX5_add 48 = .ok (.iconst 0, 1) := by decide +kernel
theorem dX5_add_49 : decode cX5_add 49 = .ok (.istore 7, 2) := by decide +kernel
theorem dX5_add_51 : decode cX5_add 51 = .ok (.iload 7, 2) := by decide +kernel
theorem dX5_add_53 : decode cX5_add 53 = .ok (.iconst 5, 1) := by decide +kernel
theorem dX5_add_54 : decode cX5_add 54 = .ok (.if_icmp .ge 22, 3) := by decide +kernel
theorem dX5_add_57 : decode cX5_add 57 = .ok (.aload_n 0, 1) := by decide +kernel
theorem dX5_add_58 : decode cX5_add 58 = .ok (.getfield 31, 3) := by decide +kernel
theorem dX5_add_61 : decode cX5_add 61 = .ok (.iload 6, 2) := by decide +kernel
theorem dX5_add_63 : decode cX5_add 63 = .ok (.iconst 5, 1) := by decide +kernel
theorem dX5_add_64 : decode cX5_add 64 = .ok (.imul, 1) := by decide +kernel
theorem dX5_add_65 : decode cX5_add 65 = .ok (.iload 7, 2) := by decide +kernel
theorem dX5_add_67 : decode cX5_add 67 = .ok (.iadd, 1) := by decide +kernel
theorem dX5_add_68 : decode cX5_add 68 = .ok (.iconst (-1), 1) := by decide +kernel
theorem dX5_add_69 : decode cX5_add 69 = .ok (.iastore, 1) := by decide +kernel
theorem dX5_add_70 : decode cX5_add 70 = .ok (.iinc 7 1, 3) := by decide +kernel
theorem dX5_add_73 : decode cX5_add 73 = .ok (.goto (-22), 3) := by decide +kernel
theorem dX5_add_76 : decode cX5_add 76 = .ok (.aload_n 0, 1) := by decide +kernel
theorem dX5_add_77 : decode cX5_add 77 = .ok (.dup, 1) := by decide +kernel
theorem dX5_add_78 : decode cX5_add 78 = .ok (.getfield 9, 3) := by decide +kernel
theorem dX5_add_81 : decode cX5_add 81 = .ok (.iconst 1, 1) := by decide +kernel
theorem dX5_add_82 : decode cX5_add 82 = .ok (.iadd, 1) := by decide +kernel
theorem dX5_add_83 : decode cX5_add 83 = .ok (.putfield 9, 3) := by decide +kernel
theorem dX5_add_86 : decode cX5_add 86 = .ok (.iload 6, 2) := by decide +kernel
theorem dX5_add_88 : decode cX5_add 88 = .ok (.ireturn, 1) := by decide +kernel
theorem dX5_giveTo_0 : decode cX5_giveTo 0 = .ok (.iload_n 1, 1) := by decide +kernel
theorem dX5_giveTo_1 : decode cX5_giveTo 1 = .ok (.iconst 5, 1) := by decide +kernel
theorem dX5_giveTo_2 : decode cX5_giveTo 2 = .ok (.imul, 1) := by decide +kernel
theorem dX5_giveTo_3 : decode cX5_giveTo 3 = .ok (.iload_n 2, 1) := by decide +kernel
theorem dX5_giveTo_4 : decode cX5_giveTo 4 = .ok (.iadd, 1) := by decide +kernel
theorem dX5_giveTo_5 : decode cX5_giveTo 5 = .ok (.istore 4, 2) := by decide +kernel
theorem dX5_giveTo_7 : decode cX5_giveTo 7 = .ok (.aload_n 0, 1) := by decide +kernel
theorem dX5_giveTo_8 : decode cX5_giveTo 8 = .ok (.getfield 31, 3) := by decide +kernel
theorem dX5_giveTo_11 : decode cX5_giveTo 11 = .ok (.iload 4, 2) := by decide +kernel
theorem dX5_giveTo_13 : decode cX5_giveTo 13 = .ok (.iaload, 1) := by decide +kernel
theorem dX5_giveTo_14 : decode cX5_giveTo 14 = .ok (.istore 5, 2) := by decide +kernel
theorem dX5_giveTo_16 : decode cX5_giveTo 16 = .ok (.iload 5, 2) := by decide +kernel
theorem dX5_giveTo_18 : decode cX5_giveTo 18 = .ok (.iconst (-1), 1) := by decide +kernel
theorem dX5_giveTo_19 : decode cX5_giveTo 19 = .ok (.if_icmp .eq 9, 3) := by decide +kernel
theorem dX5_giveTo_22 : decode cX5_giveTo 22 = .ok (.iload_n 3, 1) := by decide +kernel
theorem dX5_giveTo_23 : decode cX5_giveTo 23 = .ok (.iload 5, 2) := by decide +kernel
theorem dX5_giveTo_25 : decode cX5_giveTo 25 = .ok (.if_icmp .ge 11, 3) := by decide +kernel
theorem dX5_giveTo_28 : decode cX5_giveTo 28 = .ok (.aload_n 0, 1) := by decide +kernel
theorem dX5_giveTo_29 : decode cX5_giveTo 29 = .ok (.getfield 31, 3) := by decide +kernel
theorem dX5_giveTo_32 : decode cX5_giveTo 32 = .ok (.iload 4, 2) := by decide +kernel
theorem dX5_giveTo_34 : decode cX5_giveTo 34 = .ok (.iload_n 3, 1) := by decide +kernel
theorem dX5_giveTo_35 : decode cX5_giveTo 35 = .ok (.iastore, 1) := by decide +kernel
theorem dX5_giveTo_36 : decode cX5_giveTo 36 = .ok (.iload 5, 2) := by decide +kernel
theorem dX5_giveTo_38 : decode cX5_giveTo 38 = .ok (.ireturn, 1) := by decide +kernel
theorem dX5_heldBy_0 : decode cX5_heldBy 0 = .ok (.iconst 0, 1) := by decide +kernel
theorem dX5_heldBy_1 : decode cX5_heldBy 1 = .ok (.istore_n 3, 1) := by decide +kernel
theorem dX5_heldBy_2 : decode cX5_heldBy 2 = .ok (.iconst 0, 1) := by decide +kernel
theorem dX5_heldBy_3 : decode cX5_heldBy 3 = .ok (.istore 4, 2) := by decide +kernel
theorem dX5_heldBy_5 : decode cX5_heldBy 5 = .ok (.aload_n 0, 1) := by decide +kernel
theorem dX5_heldBy_6 : decode cX5_heldBy 6 = .ok (.getfield 9, 3) := by decide +kernel
theorem dX5_heldBy_9 : decode cX5_heldBy 9 = .ok (.iconst 1, 1) := by decide +kernel
theorem dX5_heldBy_10 : decode cX5_heldBy 10 = .ok (.isub, 1) := by decide +kernel
theorem dX5_heldBy_11 : decode cX5_heldBy 11 = .ok (.istore 5, 2) := by decide +kernel
theorem dX5_heldBy_13 : decode cX5_heldBy 13 = .ok (.iload 5, 2) := by decide +kernel
theorem dX5_heldBy_15 : decode cX5_heldBy 15 = .ok (.ifCond .lt 79, 3) := by decide +kernel
theorem dX5_heldBy_18 : decode cX5_heldBy 18 = .ok (.aload_n 0, 1) := by decide +kernel
theorem dX5_heldBy_19 : decode cX5_heldBy 19 = .ok (.getfield 31, 3) := by decide +kernel
theorem dX5_heldBy_22 : decode cX5_heldBy 22 = .ok (.iload 5, 2) := by decide +kernel
theorem dX5_heldBy_24 : decode cX5_heldBy 24 = .ok (.iconst 5, 1) := by decide +kernel
theorem dX5_heldBy_25 : decode cX5_heldBy 25 = .ok (.imul, 1) := by decide +kernel
theorem dX5_heldBy_26 : decode cX5_heldBy 26 = .ok (.iload_n 1, 1) := by decide +kernel
theorem dX5_heldBy_27 : decode cX5_heldBy 27 = .ok (.iadd, 1) := by decide +kernel
theorem dX5_heldBy_28 : decode cX5_heldBy 28 = .ok (.iaload, 1) := by decide +kernel
theorem dX5_heldBy_29 : decode cX5_heldBy 29 = .ok (.istore 6, 2) := by decide +kernel
theorem dX5_heldBy_31 : decode cX5_heldBy 31 = .ok (.iload 6, 2) := by decide +kernel
theorem dX5_heldBy_33 : decode cX5_heldBy 33 = .ok (.iconst (-1), 1) := by decide +kernel
theorem dX5_heldBy_34 : decode cX5_heldBy 34 = .ok (.if_icmp .eq 54, 3) := by decide +kernel
theorem dX5_heldBy_37 : decode cX5_heldBy 37 = .ok (.iload 6, 2) := by decide +kernel
theorem dX5_heldBy_39 : decode cX5_heldBy 39 = .ok (.iload_n 2, 1) := by decide +kernel
theorem dX5_heldBy_40 : decode cX5_heldBy 40 = .ok (.if_icmp .gt 48, 3) := by decide +kernel
theorem dX5_heldBy_43 : decode cX5_heldBy 43 = .ok (.iload 4, 2) := by decide +kernel
theorem dX5_heldBy_45 : decode cX5_heldBy 45 = .ok (.iload 5, 2) := by decide +kernel
theorem dX5_heldBy_47 : decode cX5_heldBy 47 = .ok (.ishr, 1) := by decide +kernel
theorem dX5_heldBy_48 : decode cX5_heldBy 48 = .ok (.iconst 1, 1) := by decide +kernel
theorem dX5_heldBy_49 : decode cX5_heldBy 49 = .ok (.iand, 1) := by decide +kernel
theorem dX5_heldBy_50 : decode cX5_heldBy 50 = .ok (.ifCond .eq 6, 3) := by decide +kernel
theorem dX5_heldBy_53 : decode cX5_heldBy 53 = .ok (.goto 35, 3) := by decide +kernel
theorem dX5_heldBy_56 : decode cX5_heldBy 56 = .ok (.iload_n 3, 1) := by decide +kernel
theorem dX5_heldBy_57 : decode cX5_heldBy 57 = .ok (.iconst 1, 1) := by decide +kernel
theorem dX5_heldBy_58 : decode cX5_heldBy 58 = .ok (.iload 5, 2) := by decide +kernel
theorem dX5_heldBy_60 : decode cX5_heldBy 60 = .ok (.ishl, 1) := by decide +kernel
theorem dX5_heldBy_61 : decode cX5_heldBy 61 = .ok (.ior, 1) := by decide +kernel
theorem dX5_heldBy_62 : decode cX5_heldBy 62 = .ok (.istore_n 3, 1) := by decide +kernel
theorem dX5_heldBy_63 : decode cX5_heldBy 63 = .ok (.aload_n 0, 1) := by decide +kernel
theorem dX5_heldBy_64 : decode cX5_heldBy 64 = .ok (.getfield 15, 3) := by decide +kernel
theorem dX5_heldBy_67 : decode cX5_heldBy 67 = .ok (.iload 5, 2) := by decide +kernel
theorem dX5_heldBy_69 : decode cX5_heldBy 69 = .ok (.iaload, 1) := by decide +kernel
theorem dX5_heldBy_70 : decode cX5_heldBy 70 = .ok (.iconst 4, 1) := by decide +kernel
theorem dX5_heldBy_71 : decode cX5_heldBy 71 = .ok (.if_icmp .ne 17, 3) := by decide +kernel
theorem dX5_heldBy_74 : decode cX5_heldBy 74 = .ok (.iload 4, 2) := by decide +kernel
theorem dX5_heldBy_76 : decode cX5_heldBy 76 = .ok (.iconst 1, 1) := by decide +kernel
theorem dX5_heldBy_77 : decode cX5_heldBy 77 = .ok (.aload_n 0, 1) := by decide +kernel
theorem dX5_heldBy_78 : decode cX5_heldBy 78 = .ok (.getfield 19, 3) := by decide +kernel
theorem dX5_heldBy_81 : decode cX5_heldBy 81 = .ok (.iload 5, 2) := by decide +kernel
theorem dX5_heldBy_83 : decode cX5_heldBy 83 = .ok (.iaload, 1) := by decide +kernel
theorem dX5_heldBy_84 : decode cX5_heldBy 84 = .ok (.ishl, 1) := by decide +kernel
theorem dX5_heldBy_85 : decode cX5_heldBy 85 = .ok (.ior, 1) := by decide +kernel
theorem dX5_heldBy_86 : decode cX5_heldBy 86 = .ok (.istore 4, 2) := by decide +kernel
theorem dX5_heldBy_88 : decode cX5_heldBy 88 = .ok (.iinc 5 (-1), 3) := by decide +kernel
theorem dX5_heldBy_91 : decode cX5_heldBy 91 = .ok (.goto (-78), 3) := by decide +kernel
theorem dX5_heldBy_94 : decode cX5_heldBy 94 = .ok (.iload_n 3, 1) := by decide +kernel
theorem dX5_heldBy_95 : decode cX5_heldBy 95 = .ok (.ireturn, 1) := by decide +kernel
theorem dX5_nextHanding_0 : decode cX5_nextHanding 0 = .ok (.sipush 501, 3) := by decide +kernel
theorem dX5_nextHanding_3 : decode cX5_nextHanding 3 = .ok (.istore_n 3, 1) := by decide +kernel
theorem dX5_nextHanding_4 : decode cX5_nextHanding 4 = .ok (.iconst 0, 1) := by decide +kernel
theorem dX5_nextHanding_5 : decode cX5_nextHanding 5 = .ok (.istore 4, 2) := by decide +kernel
theorem dX5_nextHanding_7 : decode cX5_nextHanding 7 = .ok (.iload 4, 2) := by decide +kernel
theorem dX5_nextHanding_9 : decode cX5_nextHanding 9 = .ok (.aload_n 0, 1) := by decide +kernel
theorem dX5_nextHanding_10 : decode cX5_nextHanding 10 = .ok (.getfield 9, 3) := by decide +kernel
theorem dX5_nextHanding_13 : decode cX5_nextHanding 13 = .ok (.if_icmp .ge 37, 3) := by decide +kernel
theorem dX5_nextHanding_16 : decode cX5_nextHanding 16 = .ok (.aload_n 0, 1) := by decide +kernel
theorem dX5_nextHanding_17 : decode cX5_nextHanding 17 = .ok (.getfield 31, 3) := by decide +kernel
theorem dX5_nextHanding_20 : decode cX5_nextHanding 20 = .ok (.iload 4, 2) := by decide +kernel
theorem dX5_nextHanding_22 : decode cX5_nextHanding 22 = .ok (.iconst 5, 1) := by decide +kernel
theorem dX5_nextHanding_23 : decode cX5_nextHanding 23 = .ok (.imul, 1) := by decide +kernel
theorem dX5_nextHanding_24 : decode cX5_nextHanding 24 = .ok (.iload_n 1, 1) := by decide +kernel
theorem dX5_nextHanding_25 : decode cX5_nextHanding 25 = .ok (.iadd, 1) := by decide +kernel
theorem dX5_nextHanding_26 : decode cX5_nextHanding 26 = .ok (.iaload, 1) := by decide +kernel
theorem dX5_nextHanding_27 : decode cX5_nextHanding 27 = .ok (.istore 5, 2) := by decide +kernel
theorem dX5_nextHanding_29 : decode cX5_nextHanding 29 = .ok (.iload 5, 2) := by decide +kernel
theorem dX5_nextHanding_31 : decode cX5_nextHanding 31 = .ok (.iload_n 2, 1) := by decide +kernel
theorem dX5_nextHanding_32 : decode cX5_nextHanding 32 = .ok (.if_icmp .le 12, 3) := by decide +kernel
theorem dX5_nextHanding_35 : decode cX5_nextHanding 35 = .ok (.iload 5, 2) := by decide +kernel
theorem dX5_nextHanding_37 : decode cX5_nextHanding 37 = .ok (.iload_n 3, 1) := by decide +kernel
theorem dX5_nextHanding_38 : decode cX5_nextHanding 38 = .ok (.if_icmp .ge 6, 3) := by decide +kernel
theorem dX5_nextHanding_41 : decode cX5_nextHanding 41 = .ok (.iload 5, 2) := by decide +kernel
theorem dX5_nextHanding_43 : decode cX5_nextHanding 43 = .ok (.istore_n 3, 1) := by decide +kernel
theorem dX5_nextHanding_44 : decode cX5_nextHanding 44 = .ok (.iinc 4 1, 3) := by decide +kernel
theorem dX5_nextHanding_47 : decode cX5_nextHanding 47 = .ok (.goto (-40), 3) := by decide +kernel
theorem dX5_nextHanding_50 : decode cX5_nextHanding 50 = .ok (.iload_n 3, 1) := by decide +kernel
theorem dX5_nextHanding_51 : decode cX5_nextHanding 51 = .ok (.ireturn, 1) := by decide +kernel
theorem dX5_firstHeldByOneOf_0 : decode cX5_firstHeldByOneOf 0 = .ok (.aload_n 0, 1) := by decide +kernel
theorem dX5_firstHeldByOneOf_1 : decode cX5_firstHeldByOneOf 1 = .ok (.iload_n 1, 1) := by decide +kernel
theorem dX5_firstHeldByOneOf_2 : decode cX5_firstHeldByOneOf 2 = .ok (.iload_n 3, 1) := by decide +kernel
theorem dX5_firstHeldByOneOf_3 : decode cX5_firstHeldByOneOf 3 = .ok (.invokevirtual 34, 3) := by decide +kernel
theorem dX5_firstHeldByOneOf_6 : decode cX5_firstHeldByOneOf 6 = .ok (.aload_n 0, 1) := by decide +kernel
theorem dX5_firstHeldByOneOf_7 : decode cX5_firstHeldByOneOf 7 = .ok (.iload_n 2, 1) := by decide +kernel
theorem dX5_firstHeldByOneOf_8 : decode cX5_firstHeldByOneOf 8 = .ok (.iload_n 3, 1) := by decide +kernel
theorem dX5_firstHeldByOneOf_9 : decode cX5_firstHeldByOneOf 9 = .ok (.invokevirtual 34, 3) := by decide +kernel
theorem dX5_firstHeldByOneOf_12 : decode cX5_firstHeldByOneOf 12 = .ok (.ixor, 1) := by decide +kernel
theorem dX5_firstHeldByOneOf_13 : decode cX5_firstHeldByOneOf 13 = .ok (.istore 4, 2) := by decide +kernel
theorem dX5_firstHeldByOneOf_15 : decode cX5_firstHeldByOneOf 15 = .ok (.iconst 0, 1) := by decide +kernel
theorem dX5_firstHeldByOneOf_16 : decode cX5_firstHeldByOneOf 16 = .ok (.istore 5, 2) := by decide +kernel
theorem dX5_firstHeldByOneOf_18 : decode cX5_firstHeldByOneOf 18 = .ok (.iload 5, 2) := by decide +kernel
theorem dX5_firstHeldByOneOf_20 : decode cX5_firstHeldByOneOf 20 = .ok (.aload_n 0, 1) := by decide +kernel
theorem dX5_firstHeldByOneOf_21 : decode cX5_firstHeldByOneOf 21 = .ok (.getfield 9, 3) := by decide +kernel
theorem dX5_firstHeldByOneOf_24 : decode cX5_firstHeldByOneOf 24 = .ok (.if_icmp .ge 33, 3) := by decide +kernel
theorem dX5_firstHeldByOneOf_27 : decode cX5_firstHeldByOneOf 27 = .ok (.iload 4, 2) := by decide +kernel
theorem dX5_firstHeldByOneOf_29 : decode cX5_firstHeldByOneOf 29 = .ok (.iload 5, 2) := by decide +kernel
theorem dX5_firstHeldByOneOf_31 : decode cX5_firstHeldByOneOf 31 = .ok (.ishr, 1) := by decide +kernel
theorem dX5_firstHeldByOneOf_32 : decode cX5_firstHeldByOneOf 32 = .ok (.iconst 1, 1) := by decide +kernel
theorem dX5_firstHeldByOneOf_33 : decode cX5_firstHeldByOneOf 33 = .ok (.iand, 1) := by decide +kernel
theorem dX5_firstHeldByOneOf_34 : decode cX5_firstHeldByOneOf 34 = .ok (.ifCond .eq 17, 3) := by decide +kernel
theorem dX5_firstHeldByOneOf_37 : decode cX5_firstHeldByOneOf 37 = .ok (.aload_n 0, 1) := by decide +kernel
theorem dX5_firstHeldByOneOf_38 : decode cX5_firstHeldByOneOf 38 = .ok (.iload 5, 2) := by decide +kernel
theorem dX5_firstHeldByOneOf_40 : decode cX5_firstHeldByOneOf 40 = .ok (.iload_n 1, 1) := by decide +kernel
theorem dX5_firstHeldByOneOf_41 : decode cX5_firstHeldByOneOf 41 = .ok (.iload_n 2, 1) := by decide +kernel
theorem dX5_firstHeldByOneOf_42 : decode cX5_firstHeldByOneOf 42 = .ok (.invokevirtual 38, 3) := by decide +kernel
theorem dX5_firstHeldByOneOf_45 : decode cX5_firstHeldByOneOf 45 = .ok (.ifCond .eq 6, 3) := by decide +kernel
theorem dX5_firstHeldByOneOf_48 : decode cX5_firstHeldByOneOf 48 = .ok (.iload 5, 2) := by decide +kernel
theorem dX5_firstHeldByOneOf_50 : decode cX5_firstHeldByOneOf 50 = .ok (.ireturn, 1) := by decide +kernel
theorem dX5_firstHeldByOneOf_51 : decode cX5_firstHeldByOneOf 51 = .ok (.iinc 5 1, 3) := by decide +kernel
theorem dX5_firstHeldByOneOf_54 : decode cX5_firstHeldByOneOf 54 = .ok (.goto (-36), 3) := by decide +kernel
theorem dX5_firstHeldByOneOf_57 : decode cX5_firstHeldByOneOf 57 = .ok (.bipush 12, 2) := by decide +kernel
theorem dX5_firstHeldByOneOf_59 : decode cX5_firstHeldByOneOf 59 = .ok (.ireturn, 1) := by decide +kernel
theorem dX5_isAbout_0 : decode cX5_isAbout 0 = .ok (.aload_n 0, 1) := by decide +kernel
theorem dX5_isAbout_1 : decode cX5_isAbout 1 = .ok (.getfield 15, 3) := by decide +kernel
theorem dX5_isAbout_4 : decode cX5_isAbout 4 = .ok (.iload_n 1, 1) := by decide +kernel
theorem dX5_isAbout_5 : decode cX5_isAbout 5 = .ok (.iaload, 1) := by decide +kernel
theorem dX5_isAbout_6 : decode cX5_isAbout 6 = .ok (.iconst 4, 1) := by decide +kernel
theorem dX5_isAbout_7 : decode cX5_isAbout 7 = .ok (.if_icmp .ne 5, 3) := by decide +kernel
theorem dX5_isAbout_10 : decode cX5_isAbout 10 = .ok (.iconst 0, 1) := by decide +kernel
theorem dX5_isAbout_11 : decode cX5_isAbout 11 = .ok (.ireturn, 1) := by decide +kernel
theorem dX5_isAbout_12 : decode cX5_isAbout 12 = .ok (.aload_n 0, 1) := by decide +kernel
theorem dX5_isAbout_13 : decode cX5_isAbout 13 = .ok (.getfield 19, 3) := by decide +kernel
theorem dX5_isAbout_16 : decode cX5_isAbout 16 = .ok (.iload_n 1, 1) := by decide +kernel
theorem dX5_isAbout_17 : decode cX5_isAbout 17 = .ok (.iaload, 1) := by decide +kernel
theorem dX5_isAbout_18 : decode cX5_isAbout 18 = .ok (.iload_n 2, 1) := by decide +kernel
theorem dX5_isAbout_19 : decode cX5_isAbout 19 = .ok (.if_icmp .eq 13, 3) := by decide +kernel
theorem dX5_isAbout_22 : decode cX5_isAbout 22 = .ok (.aload_n 0, 1) := by decide +kernel
theorem dX5_isAbout_23 : decode cX5_isAbout 23 = .ok (.getfield 19, 3) := by decide +kernel
theorem dX5_isAbout_26 : decode cX5_isAbout 26 = .ok (.iload_n 1, 1) := by decide +kernel
theorem dX5_isAbout_27 : decode cX5_isAbout 27 = .ok (.iaload, 1) := by decide +kernel
theorem dX5_isAbout_28 : decode cX5_isAbout 28 = .ok (.iload_n 3, 1) := by decide +kernel
theorem dX5_isAbout_29 : decode cX5_isAbout 29 = .ok (.if_icmp .ne 7, 3) := by decide +kernel
theorem dX5_isAbout_32 : decode cX5_isAbout 32 = .ok (.iconst 1, 1) := by decide +kernel
theorem dX5_isAbout_33 : decode cX5_isAbout 33 = .ok (.goto 4, 3) := by decide +kernel
theorem dX5_isAbout_36 : decode cX5_isAbout 36 = .ok (.iconst 0, 1) := by decide +kernel
theorem dX5_isAbout_37 : decode cX5_isAbout 37 = .ok (.istore 4, 2) := by decide +kernel
theorem dX5_isAbout_39 : decode cX5_isAbout 39 = .ok (.aload_n 0, 1) := by decide +kernel
theorem dX5_isAbout_40 : decode cX5_isAbout 40 = .ok (.getfield 15, 3) := by decide +kernel
theorem dX5_isAbout_43 : decode cX5_isAbout 43 = .ok (.iload_n 1, 1) := by decide +kernel
theorem dX5_isAbout_44 : decode cX5_isAbout 44 = .ok (.iaload, 1) := by decide +kernel
theorem dX5_isAbout_45 : decode cX5_isAbout 45 = .ok (.ifCond .eq 6, 3) := by decide +kernel
theorem dX5_isAbout_48 : decode cX5_isAbout 48 = .ok (.iload 4, 2) := by decide +kernel
theorem dX5_isAbout_50 : decode cX5_isAbout 50 = .ok (.ireturn, 1) := by decide +kernel
theorem dX5_isAbout_51 : decode cX5_isAbout 51 = .ok (.iload 4, 2) := by decide +kernel
theorem dX5_isAbout_53 : decode cX5_isAbout 53 = .ok (.ifCond .eq 27, 3) := by decide +kernel
theorem dX5_isAbout_56 : decode cX5_isAbout 56 = .ok (.aload_n 0, 1) := by decide +kernel
theorem dX5_isAbout_57 : decode cX5_isAbout 57 = .ok (.getfield 22, 3) := by decide +kernel
theorem dX5_isAbout_60 : decode cX5_isAbout 60 = .ok (.iload_n 1, 1) := by decide +kernel
theorem dX5_isAbout_61 : decode cX5_isAbout 61 = .ok (.iaload, 1) := by decide +kernel
theorem dX5_isAbout_62 : decode cX5_isAbout 62 = .ok (.iload_n 2, 1) := by decide +kernel
theorem dX5_isAbout_63 : decode cX5_isAbout 63 = .ok (.if_icmp .eq 13, 3) := by decide +kernel
theorem dX5_isAbout_66 : decode cX5_isAbout 66 = .ok (.aload_n 0, 1) := by decide +kernel
theorem dX5_isAbout_67 : decode cX5_isAbout 67 = .ok (.getfield 22, 3) := by decide +kernel
theorem dX5_isAbout_70 : decode cX5_isAbout 70 = .ok (.iload_n 1, 1) := by decide +kernel
theorem dX5_isAbout_71 : decode cX5_isAbout 71 = .ok (.iaload, 1) := by decide +kernel
theorem dX5_isAbout_72 : decode cX5_isAbout 72 = .ok (.iload_n 3, 1) := by decide +kernel
theorem dX5_isAbout_73 : decode cX5_isAbout 73 = .ok (.if_icmp .ne 7, 3) := by decide +kernel
theorem dX5_isAbout_76 : decode cX5_isAbout 76 = .ok (.iconst 1, 1) := by decide +kernel
theorem dX5_isAbout_77 : decode cX5_isAbout 77 = .ok (.goto 4, 3) := by decide +kernel
theorem dX5_isAbout_80 : decode cX5_isAbout 80 = .ok (.iconst 0, 1) := by decide +kernel
theorem dX5_isAbout_81 : decode cX5_isAbout 81 = .ok (.ireturn, 1) := by decide +kernel
theorem dX5_tell_0 : decode cX5_tell 0 = .ok (.iload_n 2, 1) := by decide +kernel
theorem dX5_tell_1 : decode cX5_tell 1 = .ok (.tableswitch 70 0 4 #[35, 42, 49, 56, 63], 35) := by decide +kernel
theorem dX5_tell_36 : decode cX5_tell 36 = .ok (.aload_n 0, 1) := by decide +kernel
theorem dX5_tell_37 : decode cX5_tell 37 = .ok (.getfield 15, 3) := by decide +kernel
theorem dX5_tell_40 : decode cX5_tell 40 = .ok (.iload_n 1, 1) := by decide +kernel
theorem dX5_tell_41 : decode cX5_tell 41 = .ok (.iaload, 1) := by decide +kernel
theorem dX5_tell_42 : decode cX5_tell 42 = .ok (.ireturn, 1) := by decide +kernel
theorem dX5_tell_43 : decode cX5_tell 43 = .ok (.aload_n 0, 1) := by decide +kernel
theorem dX5_tell_44 : decode cX5_tell 44 = .ok (.getfield 19, 3) := by decide +kernel
theorem dX5_tell_47 : decode cX5_tell 47 = .ok (.iload_n 1, 1) := by decide +kernel
theorem dX5_tell_48 : decode cX5_tell 48 = .ok (.iaload, 1) := by decide +kernel
theorem dX5_tell_49 : decode cX5_tell 49 = .ok (.ireturn, 1) := by decide +kernel
theorem dX5_tell_50 : decode cX5_tell 50 = .ok (.aload_n 0, 1) := by decide +kernel
theorem dX5_tell_51 : decode cX5_tell 51 = .ok (.getfield 22, 3) := by decide +kernel
theorem dX5_tell_54 : decode cX5_tell 54 = .ok (.iload_n 1, 1) := by decide +kernel
theorem dX5_tell_55 : decode cX5_tell 55 = .ok (.iaload, 1) := by decide +kernel
theorem dX5_tell_56 : decode cX5_tell 56 = .ok (.ireturn, 1) := by decide +kernel
theorem dX5_tell_57 : decode cX5_tell 57 = .ok (.aload_n 0, 1) := by decide +kernel
theorem dX5_tell_58 : decode cX5_tell 58 = .ok (.getfield 25, 3) := by decide +kernel
theorem dX5_tell_61 : decode cX5_tell 61 = .ok (.iload_n 1, 1) := by decide +kernel
theorem dX5_tell_62 : decode cX5_tell 62 = .ok (.iaload, 1) := by decide +kernel
theorem dX5_tell_63 : decode cX5_tell 63 = .ok (.ireturn, 1) := by decide +kernel
theorem dX5_tell_64 : decode cX5_tell 64 = .ok (.aload_n 0, 1) := by decide +kernel
theorem dX5_tell_65 : decode cX5_tell 65 = .ok (.getfield 28, 3) := by decide +kernel
theorem dX5_tell_68 : decode cX5_tell 68 = .ok (.iload_n 1, 1) := by decide +kernel
theorem dX5_tell_69 : decode cX5_tell 69 = .ok (.iaload, 1) := by decide +kernel
theorem dX5_tell_70 : decode cX5_tell 70 = .ok (.ireturn, 1) := by decide +kernel
theorem dX5_tell_71 : decode cX5_tell 71 = .ok (.aload_n 0, 1) := by decide +kernel
theorem dX5_tell_72 : decode cX5_tell 72 = .ok (.iload_n 1, 1) := by decide +kernel
theorem dX5_tell_73 : decode cX5_tell 73 = .ok (.invokevirtual 42, 3) := by decide +kernel
theorem dX5_tell_76 : decode cX5_tell 76 = .ok (.ireturn, 1) := by decide +kernel
theorem dX5_handedTo_0 : decode cX5_handedTo 0 = .ok (.iconst 0, 1) := by decide +kernel
theorem dX5_handedTo_1 : decode cX5_handedTo 1 = .ok (.istore_n 2, 1) := by decide +kernel
theorem dX5_handedTo_2 : decode cX5_handedTo 2 = .ok (.iconst 0, 1) := by decide +kernel
theorem dX5_handedTo_3 : decode cX5_handedTo 3 = .ok (.istore_n 3, 1) := by decide +kernel
theorem dX5_handedTo_4 : decode cX5_handedTo 4 = .ok (.iload_n 3, 1) := by decide +kernel
theorem dX5_handedTo_5 : decode cX5_handedTo 5 = .ok (.iconst 5, 1) := by decide +kernel
theorem dX5_handedTo_6 : decode cX5_handedTo 6 = .ok (.if_icmp .ge 29, 3) := by decide +kernel
theorem dX5_handedTo_9 : decode cX5_handedTo 9 = .ok (.aload_n 0, 1) := by decide +kernel
theorem dX5_handedTo_10 : decode cX5_handedTo 10 = .ok (.getfield 31, 3) := by decide +kernel
theorem dX5_handedTo_13 : decode cX5_handedTo 13 = .ok (.iload_n 1, 1) := by decide +kernel
theorem dX5_handedTo_14 : decode cX5_handedTo 14 = .ok (.iconst 5, 1) := by decide +kernel
theorem dX5_handedTo_15 : decode cX5_handedTo 15 = .ok (.imul, 1) := by decide +kernel
theorem dX5_handedTo_16 : decode cX5_handedTo 16 = .ok (.iload_n 3, 1) := by decide +kernel
theorem dX5_handedTo_17 : decode cX5_handedTo 17 = .ok (.iadd, 1) := by decide +kernel
theorem dX5_handedTo_18 : decode cX5_handedTo 18 = .ok (.iaload, 1) := by decide +kernel
theorem dX5_handedTo_19 : decode cX5_handedTo 19 = .ok (.iconst (-1), 1) := by decide +kernel
theorem dX5_handedTo_20 : decode cX5_handedTo 20 = .ok (.if_icmp .eq 9, 3) := by decide +kernel
theorem dX5_handedTo_23 : decode cX5_handedTo 23 = .ok (.iload_n 2, 1) := by decide +kernel
theorem dX5_handedTo_24 : decode cX5_handedTo 24 = .ok (.iconst 1, 1) := by decide +kernel
theorem dX5_handedTo_25 : decode cX5_handedTo 25 = .ok (.iload_n 3, 1) := by decide +kernel
theorem dX5_handedTo_26 : decode cX5_handedTo 26 = .ok (.ishl, 1) := by decide +kernel
theorem dX5_handedTo_27 : decode cX5_handedTo 27 = .ok (.ior, 1) := by decide +kernel
theorem dX5_handedTo_28 : decode cX5_handedTo 28 = .ok (.istore_n 2, 1) := by decide +kernel
theorem dX5_handedTo_29 : decode cX5_handedTo 29 = .ok (.iinc 3 1, 3) := by decide +kernel
theorem dX5_handedTo_32 : decode cX5_handedTo 32 = .ok (.goto (-28), 3) := by decide +kernel
theorem dX5_handedTo_35 : decode cX5_handedTo 35 = .ok (.iload_n 2, 1) := by decide +kernel
theorem dX5_handedTo_36 : decode cX5_handedTo 36 = .ok (.ireturn, 1) := by decide +kernel
theorem dX5_useStationFrom_0 : decode cX5_useStationFrom 0 = .ok (.iconst 0, 1) := by decide +kernel
theorem dX5_useStationFrom_1 : decode cX5_useStationFrom 1 = .ok (.istore_n 2, 1) := by decide +kernel
theorem dX5_useStationFrom_2 : decode cX5_useStationFrom 2 = .ok (.iload_n 2, 1) := by decide +kernel
theorem dX5_useStationFrom_3 : decode cX5_useStationFrom 3 = .ok (.aload_n 0, 1) := by decide +kernel
theorem dX5_useStationFrom_4 : decode cX5_useStationFrom 4 = .ok (.getfield 9, 3) := by decide +kernel
theorem dX5_useStationFrom_7 : decode cX5_useStationFrom 7 = .ok (.if_icmp .ge 21, 3) := by decide +kernel
theorem dX5_useStationFrom_10 : decode cX5_useStationFrom 10 = .ok (.aload_n 0, 1) := by decide +kernel
theorem dX5_useStationFrom_11 : decode cX5_useStationFrom 11 = .ok (.getfield 25, 3) := by decide +kernel
theorem dX5_useStationFrom_14 : decode cX5_useStationFrom 14 = .ok (.iload_n 2, 1) := by decide +kernel
theorem dX5_useStationFrom_15 : decode cX5_useStationFrom 15 = .ok (.iaload, 1) := by decide +kernel
theorem dX5_useStationFrom_16 : decode cX5_useStationFrom 16 = .ok (.iload_n 1, 1) := by decide +kernel
theorem dX5_useStationFrom_17 : decode cX5_useStationFrom 17 = .ok (.if_icmp .lt 5, 3) := by decide +kernel
theorem dX5_useStationFrom_20 : decode cX5_useStationFrom 20 = .ok (.iconst 1, 1) := by decide +kernel
theorem dX5_useStationFrom_21 : decode cX5_useStationFrom 21 = .ok (.ireturn, 1) := by decide +kernel
theorem dX5_useStationFrom_22 : decode cX5_useStationFrom 22 = .ok (.iinc 2 1, 3) := by decide +kernel
theorem dX5_useStationFrom_25 : decode cX5_useStationFrom 25 = .ok (.goto (-23), 3) := by decide +kernel
theorem dX5_useStationFrom_28 : decode cX5_useStationFrom 28 = .ok (.iconst 0, 1) := by decide +kernel
theorem dX5_useStationFrom_29 : decode cX5_useStationFrom 29 = .ok (.ireturn, 1) := by decide +kernel
theorem dX5_takeFrom_0 : decode cX5_takeFrom 0 = .ok (.aload_n 0, 1) := by decide +kernel
theorem dX5_takeFrom_1 : decode cX5_takeFrom 1 = .ok (.aload_n 1, 1) := by decide +kernel
theorem dX5_takeFrom_2 : decode cX5_takeFrom 2 = .ok (.getfield 9, 3) := by decide +kernel
theorem dX5_takeFrom_5 : decode cX5_takeFrom 5 = .ok (.putfield 9, 3) := by decide +kernel
theorem dX5_takeFrom_8 : decode cX5_takeFrom 8 = .ok (.aload_n 1, 1) := by decide +kernel
theorem dX5_takeFrom_9 : decode cX5_takeFrom 9 = .ok (.getfield 15, 3) := by decide +kernel
theorem dX5_takeFrom_12 : decode cX5_takeFrom 12 = .ok (.iconst 0, 1) := by decide +kernel
theorem dX5_takeFrom_13 : decode cX5_takeFrom 13 = .ok (.aload_n 0, 1) := by decide +kernel
theorem dX5_takeFrom_14 : decode cX5_takeFrom 14 = .ok (.getfield 15, 3) := by decide +kernel
theorem dX5_takeFrom_17 : decode cX5_takeFrom 17 = .ok (.iconst 0, 1) := by decide +kernel
theorem dX5_takeFrom_18 : decode cX5_takeFrom 18 = .ok (.aload_n 0, 1) := by decide +kernel
theorem dX5_takeFrom_19 : decode cX5_takeFrom 19 = .ok (.getfield 15, 3) := by decide +kernel
theorem dX5_takeFrom_22 : decode cX5_takeFrom 22 = .ok (.arraylength, 1) := by decide +kernel
theorem dX5_takeFrom_23 : decode cX5_takeFrom 23 = .ok (.invokestatic 46, 3) := by decide +kernel
theorem dX5_takeFrom_26 : decode cX5_takeFrom 26 = .ok (.aload_n 1, 1) := by decide +kernel
theorem dX5_takeFrom_27 : decode cX5_takeFrom 27 = .ok (.getfield 19, 3) := by decide +kernel
theorem dX5_takeFrom_30 : decode cX5_takeFrom 30 = .ok (.iconst 0, 1) := by decide +kernel
theorem dX5_takeFrom_31 : decode cX5_takeFrom 31 = .ok (.aload_n 0, 1) := by decide +kernel
theorem dX5_takeFrom_32 : decode cX5_takeFrom 32 = .ok (.getfield 19, 3) := by decide +kernel
theorem dX5_takeFrom_35 : decode cX5_takeFrom 35 = .ok (.iconst 0, 1) := by decide +kernel
theorem dX5_takeFrom_36 : decode cX5_takeFrom 36 = .ok (.aload_n 0, 1) := by decide +kernel
theorem dX5_takeFrom_37 : decode cX5_takeFrom 37 = .ok (.getfield 19, 3) := by decide +kernel
theorem dX5_takeFrom_40 : decode cX5_takeFrom 40 = .ok (.arraylength, 1) := by decide +kernel
theorem dX5_takeFrom_41 : decode cX5_takeFrom 41 = .ok (.invokestatic 46, 3) := by decide +kernel
theorem dX5_takeFrom_44 : decode cX5_takeFrom 44 = .ok (.aload_n 1, 1) := by decide +kernel
theorem dX5_takeFrom_45 : decode cX5_takeFrom 45 = .ok (.getfield 22, 3) := by decide +kernel
theorem dX5_takeFrom_48 : decode cX5_takeFrom 48 = .ok (.iconst 0, 1) := by decide +kernel
theorem dX5_takeFrom_49 : decode cX5_takeFrom 49 = .ok (.aload_n 0, 1) := by decide +kernel
theorem dX5_takeFrom_50 : decode cX5_takeFrom 50 = .ok (.getfield 22, 3) := by decide +kernel
theorem dX5_takeFrom_53 : decode cX5_takeFrom 53 = .ok (.iconst 0, 1) := by decide +kernel
theorem dX5_takeFrom_54 : decode cX5_takeFrom 54 = .ok (.aload_n 0, 1) := by decide +kernel
theorem dX5_takeFrom_55 : decode cX5_takeFrom 55 = .ok (.getfield 22, 3) := by decide +kernel
theorem dX5_takeFrom_58 : decode cX5_takeFrom 58 = .ok (.arraylength, 1) := by decide +kernel
theorem dX5_takeFrom_59 : decode cX5_takeFrom 59 = .ok (.invokestatic 46, 3) := by decide +kernel
theorem dX5_takeFrom_62 : decode cX5_takeFrom 62 = .ok (.aload_n 1, 1) := by decide +kernel
theorem dX5_takeFrom_63 : decode cX5_takeFrom 63 = .ok (.getfield 25, 3) := by decide +kernel
theorem dX5_takeFrom_66 : decode cX5_takeFrom 66 = .ok (.iconst 0, 1) := by decide +kernel
theorem dX5_takeFrom_67 : decode cX5_takeFrom 67 = .ok (.aload_n 0, 1) := by decide +kernel
theorem dX5_takeFrom_68 : decode cX5_takeFrom 68 = .ok (.getfield 25, 3) := by decide +kernel
theorem dX5_takeFrom_71 : decode cX5_takeFrom 71 = .ok (.iconst 0, 1) := by decide +kernel
theorem dX5_takeFrom_72 : decode cX5_takeFrom 72 = .ok (.aload_n 0, 1) := by decide +kernel
theorem dX5_takeFrom_73 : decode cX5_takeFrom 73 = .ok (.getfield 25, 3) := by decide +kernel
theorem dX5_takeFrom_76 : decode cX5_takeFrom 76 = .ok (.arraylength, 1) := by decide +kernel
theorem dX5_takeFrom_77 : decode cX5_takeFrom 77 = .ok (.invokestatic 46, 3) := by decide +kernel
theorem dX5_takeFrom_80 : decode cX5_takeFrom 80 = .ok (.aload_n 1, 1) := by decide +kernel
theorem dX5_takeFrom_81 : decode cX5_takeFrom 81 = .ok (.getfield 28, 3) := by decide +kernel
theorem dX5_takeFrom_84 : decode cX5_takeFrom 84 = .ok (.iconst 0, 1) := by decide +kernel
theorem dX5_takeFrom_85 : decode cX5_takeFrom 85 = .ok (.aload_n 0, 1) := by decide +kernel
theorem dX5_takeFrom_86 : decode cX5_takeFrom 86 = .ok (.getfield 28, 3) := by decide +kernel
theorem dX5_takeFrom_89 : decode cX5_takeFrom 89 = .ok (.iconst 0, 1) := by decide +kernel
theorem dX5_takeFrom_90 : decode cX5_takeFrom 90 = .ok (.aload_n 0, 1) := by decide +kernel
theorem dX5_takeFrom_91 : decode cX5_takeFrom 91 = .ok (.getfield 28, 3) := by decide +kernel
theorem dX5_takeFrom_94 : decode cX5_takeFrom 94 = .ok (.arraylength, 1) := by decide +kernel
theorem dX5_takeFrom_95 : decode cX5_takeFrom 95 = .ok (.invokestatic 46, 3) := by decide +kernel
theorem dX5_takeFrom_98 : decode cX5_takeFrom 98 = .ok (.aload_n 1, 1) := by decide +kernel
theorem dX5_takeFrom_99 : decode cX5_takeFrom 99 = .ok (.getfield 31, 3) := by decide +kernel
theorem dX5_takeFrom_102 : decode cX5_takeFrom 102 = .ok (.iconst 0, 1) := by decide +kernel
theorem dX5_takeFrom_103 : decode cX5_takeFrom 103 = .ok (.aload_n 0, 1) := by decide +kernel
theorem dX5_takeFrom_104 : decode cX5_takeFrom 104 = .ok (.getfield 31, 3) := by decide +kernel
theorem dX5_takeFrom_107 : decode cX5_takeFrom 107 = .ok (.iconst 0, 1) := by decide +kernel
theorem dX5_takeFrom_108 : decode cX5_takeFrom 108 = .ok (.aload_n 0, 1) := by decide +kernel
theorem dX5_takeFrom_109 : decode cX5_takeFrom 109 = .ok (.getfield 31, 3) := by decide +kernel
theorem dX5_takeFrom_112 : decode cX5_takeFrom 112 = .ok (.arraylength, 1) := by decide +kernel
theorem dX5_takeFrom_113 : decode cX5_takeFrom 113 = .ok (.invokestatic 46, 3) := by decide +kernel
theorem dX5_takeFrom_116 : decode cX5_takeFrom 116 = .ok (.return_, 1) := by decide +kernel
theorem dX6_init_0 : decode cX6_init 0 = .ok (.aload_n 0, 1) := by decide +kernel
theorem dX6_init_1 : decode cX6_init 1 = .ok (.invokespecial 3, 3) := by decide +kernel
theorem dX6_init_4 : decode cX6_init 4 = .ok (.aload_n 0, 1) := by decide +kernel
theorem dX6_init_5 : decode cX6_init 5 = .ok (.iconst (-1), 1) := by decide +kernel
theorem dX6_init_6 : decode cX6_init 6 = .ok (.putfield 9, 3) := by decide +kernel
theorem dX6_init_9 : decode cX6_init 9 = .ok (.aload_n 0, 1) := by decide +kernel
theorem dX6_init_10 : decode cX6_init 10 = .ok (.iconst (-1), 1) := by decide +kernel
theorem dX6_init_11 : decode cX6_init 11 = .ok (.putfield 15, 3) := by decide +kernel
theorem dX6_init_14 : decode cX6_init 14 = .ok (.aload_n 0, 1) := by decide +kernel
theorem dX6_init_15 : decode cX6_init 15 = .ok (.iconst 0, 1) := by decide +kernel
theorem dX6_init_16 : decode cX6_init 16 = .ok (.putfield 18, 3) := by decide +kernel
theorem dX6_init_19 : decode cX6_init 19 = .ok (.aload_n 0, 1) := by decide +kernel
theorem dX6_init_20 : decode cX6_init 20 = .ok (.sipush 501, 3) := by decide +kernel
theorem dX6_init_23 : decode cX6_init 23 = .ok (.putfield 21, 3) := by decide +kernel
theorem dX6_init_26 : decode cX6_init 26 = .ok (.aload_n 0, 1) := by decide +kernel
theorem dX6_init_27 : decode cX6_init 27 = .ok (.iconst 5, 1) := by decide +kernel
theorem dX6_init_28 : decode cX6_init 28 = .ok (.newarray .int, 2) := by decide +kernel
theorem dX6_init_30 : decode cX6_init 30 = .ok (.putfield 24, 3) := by decide +kernel
theorem dX6_init_33 : decode cX6_init 33 = .ok (.aload_n 0, 1) := by decide +kernel
theorem dX6_init_34 : decode cX6_init 34 = .ok (.bipush 7, 2) := by decide +kernel
theorem dX6_init_36 : decode cX6_init 36 = .ok (.newarray .int, 2) := by decide +kernel
theorem dX6_init_38 : decode cX6_init 38 = .ok (.putfield 28, 3) := by decide +kernel
theorem dX6_init_41 : decode cX6_init 41 = .ok (.aload_n 0, 1) := by decide +kernel
theorem dX6_init_42 : decode cX6_init 42 = .ok (.bipush 7, 2) := by decide +kernel
theorem dX6_init_44 : decode cX6_init 44 = .ok (.newarray .int, 2) := by decide +kernel
theorem dX6_init_46 : decode cX6_init 46 = .ok (.putfield 31, 3) := by decide +kernel
theorem dX6_init_49 : decode cX6_init 49 = .ok (.aload_n 0, 1) := by decide +kernel
theorem dX6_init_50 : decode cX6_init 50 = .ok (.iload_n 1, 1) := by decide +kernel
theorem dX6_init_51 : decode cX6_init 51 = .ok (.putfield 34, 3) := by decide +kernel
theorem dX6_init_54 : decode cX6_init 54 = .ok (.return_, 1) := by decide +kernel
theorem dX6_begin_0 : decode cX6_begin 0 = .ok (.aload_n 0, 1) := by decide +kernel
theorem dX6_begin_1 : decode cX6_begin 1 = .ok (.iload_n 1, 1) := by decide +kernel
theorem dX6_begin_2 : decode cX6_begin 2 = .ok (.putfield 9, 3) := by decide +kernel
theorem dX6_begin_5 : decode cX6_begin 5 = .ok (.aload_n 0, 1) := by decide +kernel
theorem dX6_begin_6 : decode cX6_begin 6 = .ok (.iload_n 2, 1) := by decide +kernel
theorem dX6_begin_7 : decode cX6_begin 7 = .ok (.putfield 15, 3) := by decide +kernel
theorem dX6_begin_10 : decode cX6_begin 10 = .ok (.aload_n 0, 1) := by decide +kernel
theorem dX6_begin_11 : decode cX6_begin 11 = .ok (.iconst 0, 1) := by decide +kernel
theorem dX6_begin_12 : decode cX6_begin 12 = .ok (.putfield 18, 3) := by decide +kernel
theorem dX6_begin_15 : decode cX6_begin 15 = .ok (.return_, 1) := by decide +kernel
theorem dX6_bringUpTo_0 : decode cX6_bringUpTo 0 = .ok (.iload_n 1, 1) := by decide +kernel
theorem dX6_bringUpTo_1 : decode cX6_bringUpTo 1 = .ok (.aload_n 0, 1) := by decide +kernel
theorem dX6_bringUpTo_2 : decode cX6_bringUpTo 2 = .ok (.getfield 18, 3) := by decide +kernel
theorem dX6_bringUpTo_5 : decode cX6_bringUpTo 5 = .ok (.if_icmp .ge 4, 3) := by decide +kernel
theorem dX6_bringUpTo_8 : decode cX6_bringUpTo 8 = .ok (.return_, 1) := by decide +kernel
theorem dX6_bringUpTo_9 : decode cX6_bringUpTo 9 = .ok (.aload_n 0, 1) := by decide +kernel
theorem dX6_bringUpTo_10 : decode cX6_bringUpTo 10 = .ok (.aload_n 2, 1) := by decide +kernel
theorem dX6_bringUpTo_11 : decode cX6_bringUpTo 11 = .ok (.aload_n 0, 1) := by decide +kernel
theorem dX6_bringUpTo_12 : decode cX6_bringUpTo 12 = .ok (.getfield 34, 3) := by decide +kernel
theorem dX6_bringUpTo_15 : decode cX6_bringUpTo 15 = .ok (.iload_n 1, 1) := by decide +kernel
theorem dX6_bringUpTo_16 : decode cX6_bringUpTo 16 = .ok (.invokevirtual 37, 3) := by decide +kernel
theorem dX6_bringUpTo_19 : decode cX6_bringUpTo 19 = .ok (.putfield 18, 3) := by decide +kernel
theorem dX6_bringUpTo_22 : decode cX6_bringUpTo 22 = .ok (.aload_n 0, 1) := by decide +kernel
theorem dX6_bringUpTo_23 : decode cX6_bringUpTo 23 = .ok (.sipush 501, 3) := by decide +kernel
theorem dX6_bringUpTo_26 : decode cX6_bringUpTo 26 = .ok (.putfield 21, 3) := by decide +kernel
theorem dX6_bringUpTo_29 : decode cX6_bringUpTo 29 = .ok (.aload_n 0, 1) := by decide +kernel
theorem dX6_bringUpTo_30 : decode cX6_bringUpTo 30 = .ok (.getfield 24, 3) := by decide +kernel
theorem dX6_bringUpTo_33 : decode cX6_bringUpTo 33 = .ok (.iconst 0, 1) := by decide +kernel
theorem dX6_bringUpTo_34 : decode cX6_bringUpTo 34 = .ok (.invokestatic 43, 3) := by decide +kernel
theorem dX6_bringUpTo_37 : decode cX6_bringUpTo 37 = .ok (.aload_n 0, 1) := by decide +kernel
theorem dX6_bringUpTo_38 : decode cX6_bringUpTo 38 = .ok (.getfield 28, 3) := by decide +kernel
theorem dX6_bringUpTo_41 : decode cX6_bringUpTo 41 = .ok (.iconst 0, 1) := by decide +kernel
theorem dX6_bringUpTo_42 : decode cX6_bringUpTo 42 = .ok (.invokestatic 43, 3) := by decide +kernel
theorem dX6_bringUpTo_45 : decode cX6_bringUpTo 45 = .ok (.aload_n 0, 1) := by decide +kernel
theorem dX6_bringUpTo_46 : decode cX6_bringUpTo 46 = .ok (.getfield 31, 3) := by decide +kernel
theorem dX6_bringUpTo_49 : decode cX6_bringUpTo 49 = .ok (.iconst 0, 1) := by decide +kernel
theorem dX6_bringUpTo_50 : decode cX6_bringUpTo 50 = .ok (.invokestatic 43, 3) := by decide +kernel
theorem dX6_bringUpTo_53 : decode cX6_bringUpTo 53 = .ok (.aload_n 2, 1) := by decide +kernel
theorem dX6_bringUpTo_54 : decode cX6_bringUpTo 54 = .ok (.aload_n 0, 1) := by decide +kernel
theorem dX6_bringUpTo_55 : decode cX6_bringUpTo 55 = .ok (.getfield 34, 3) := by decide +kernel
theorem dX6_bringUpTo_58 : decode cX6_bringUpTo 58 = .ok (.iload_n 1, 1) := by decide +kernel
theorem dX6_bringUpTo_59 : decode cX6_bringUpTo 59 = .ok (.invokevirtual 49, 3) := by decide +kernel
theorem dX6_bringUpTo_62 : decode cX6_bringUpTo 62 = .ok (.istore_n 3, 1) := by decide +kernel
theorem dX6_bringUpTo_63 : decode cX6_bringUpTo 63 = .ok (.iconst 0, 1) := by decide +kernel
theorem dX6_bringUpTo_64 : decode cX6_bringUpTo 64 = .ok (.istore 4, 2) := by decide +kernel
theorem dX6_bringUpTo_66 : decode cX6_bringUpTo 66 = .ok (.iload 4, 2) := by decide +kernel
theorem dX6_bringUpTo_68 : decode cX6_bringUpTo 68 = .ok (.aload_n 2, 1) := by decide +kernel
theorem dX6_bringUpTo_69 : decode cX6_bringUpTo 69 = .ok (.getfield 52, 3) := by decide +kernel
theorem dX6_bringUpTo_72 : decode cX6_bringUpTo 72 = .ok (.if_icmp .ge 25, 3) := by decide +kernel
theorem dX6_bringUpTo_75 : decode cX6_bringUpTo 75 = .ok (.iload_n 3, 1) := by decide +kernel
theorem dX6_bringUpTo_76 : decode cX6_bringUpTo 76 = .ok (.iload 4, 2) := by decide +kernel
theorem dX6_bringUpTo_78 : decode cX6_bringUpTo 78 = .ok (.ishr, 1) := by decide +kernel
theorem dX6_bringUpTo_79 : decode cX6_bringUpTo 79 = .ok (.iconst 1, 1) := by decide +kernel
theorem dX6_bringUpTo_80 : decode cX6_bringUpTo 80 = .ok (.iand, 1) := by decide +kernel
theorem dX6_bringUpTo_81 : decode cX6_bringUpTo 81 = .ok (.ifCond .eq 10, 3) := by decide +kernel
theorem dX6_bringUpTo_84 : decode cX6_bringUpTo 84 = .ok (.aload_n 0, 1) := by decide +kernel
theorem dX6_bringUpTo_85 : decode cX6_bringUpTo 85 = .ok (.aload_n 2, 1) := by decide +kernel
theorem dX6_bringUpTo_86 : decode cX6_bringUpTo 86 = .ok (.iload 4, 2) := by decide +kernel
theorem dX6_bringUpTo_88 : decode cX6_bringUpTo 88 = .ok (.invokevirtual 55, 3) := by decide +kernel
theorem dX6_bringUpTo_91 : decode cX6_bringUpTo 91 = .ok (.iinc 4 1, 3) := by decide +kernel
theorem dX6_bringUpTo_94 : decode cX6_bringUpTo 94 = .ok (.goto (-28), 3) := by decide +kernel
theorem dX6_bringUpTo_97 : decode cX6_bringUpTo 97 = .ok (.aload_n 0, 1) := by decide +kernel
theorem dX6_bringUpTo_98 : decode cX6_bringUpTo 98 = .ok (.getfield 9, 3) := by decide +kernel
theorem dX6_bringUpTo_101 : decode cX6_bringUpTo 101 = .ok (.iconst (-1), 1) := by decide +kernel
theorem dX6_bringUpTo_102 : decode cX6_bringUpTo 102 = .ok (.if_icmp .eq 21, 3) := by decide +kernel
theorem dX6_bringUpTo_105 : decode cX6_bringUpTo 105 = .ok (.aload_n 0, 1) := by decide +kernel
theorem dX6_bringUpTo_106 : decode cX6_bringUpTo 106 = .ok (.getfield 31, 3) := by decide +kernel
theorem dX6_bringUpTo_109 : decode cX6_bringUpTo 109 = .ok (.aload_n 0, 1) := by decide +kernel
theorem dX6_bringUpTo_110 : decode cX6_bringUpTo 110 = .ok (.getfield 15, 3) := by decide +kernel
theorem dX6_bringUpTo_113 : decode cX6_bringUpTo 113 = .ok (.dup2, 1) := by decide +kernel
theorem dX6_bringUpTo_114 : decode cX6_bringUpTo 114 = .ok (.iaload, 1) := by decide +kernel
theorem dX6_bringUpTo_115 : decode cX6_bringUpTo 115 = .ok (.iconst 1, 1) := by decide +kernel
theorem dX6_bringUpTo_116 : decode cX6_bringUpTo 116 = .ok (.aload_n 0, 1) := by decide +kernel
theorem dX6_bringUpTo_117 : decode cX6_bringUpTo 117 = .ok (.getfield 9, 3) := by decide +kernel
theorem dX6_bringUpTo_120 : decode cX6_bringUpTo 120 = .ok (.ishl, 1) := by decide +kernel
theorem dX6_bringUpTo_121 : decode cX6_bringUpTo 121 = .ok (.ior, 1) := by decide +kernel
theorem dX6_bringUpTo_122 : decode cX6_bringUpTo 122 = .ok (.iastore, 1) := by decide +kernel
theorem dX6_bringUpTo_123 : decode cX6_bringUpTo 123 = .ok (.return_, 1) := by decide +kernel
theorem dX6_take_0 : decode cX6_take 0 = .ok (.aload_n 1, 1) := by decide +kernel
theorem dX6_take_1 : decode cX6_take 1 = .ok (.getfield 59, 3) := by decide +kernel
theorem dX6_take_4 : decode cX6_take 4 = .ok (.iload_n 2, 1) := by decide +kernel
theorem dX6_take_5 : decode cX6_take 5 = .ok (.iaload, 1) := by decide +kernel
theorem dX6_take_6 : decode cX6_take 6 = .ok (.istore_n 3, 1) := by decide +kernel
theorem dX6_take_7 : decode cX6_take 7 = .ok (.aload_n 1, 1) := by decide +kernel
theorem dX6_take_8 : decode cX6_take 8 = .ok (.getfield 62, 3) := by decide +kernel
theorem dX6_take_11 : decode cX6_take 11 = .ok (.iload_n 2, 1) := by decide +kernel
theorem dX6_take_12 : decode cX6_take 12 = .ok (.iaload, 1) := by decide +kernel
theorem dX6_take_13 : decode cX6_take 13 = .ok (.istore 4, 2) := by decide +kernel
theorem dX6_take_15 : decode cX6_take 15 = .ok (.aload_n 1, 1) := by decide +kernel
theorem dX6_take_16 : decode cX6_take 16 = .ok (.getfield 65, 3) := by decide +kernel
theorem dX6_take_19 : decode cX6_take 19 = .ok (.iload_n 2, 1) := by decide +kernel
theorem dX6_take_20 : decode cX6_take 20 = .ok (.iaload, 1) := by decide +kernel
theorem dX6_take_21 : decode cX6_take 21 = .ok (.istore 5, 2) := by decide +kernel
theorem dX6_take_23 : decode cX6_take 23 = .ok (.iload_n 3, 1) := by decide +kernel
theorem dX6_take_24 : decode cX6_take 24 = .ok (.aload_n 0, 1) := by decide +kernel
theorem dX6_take_25 : decode cX6_take 25 = .ok (.getfield 34, 3) := by decide +kernel
theorem dX6_take_28 : decode cX6_take 28 = .ok (.if_icmp .ne 7, 3) := by decide +kernel
theorem dX6_take_31 : decode cX6_take 31 = .ok (.iconst 1, 1) := by decide +kernel
theorem dX6_take_32 : decode cX6_take 32 = .ok (.goto 4, 3) := by decide +kernel
theorem dX6_take_35 : decode cX6_take 35 = .ok (.iconst 0, 1) := by decide +kernel
theorem dX6_take_36 : decode cX6_take 36 = .ok (.istore 6, 2) := by decide +kernel
theorem dX6_take_38 : decode cX6_take 38 = .ok (.aload_n 1, 1) := by decide +kernel
theorem dX6_take_39 : decode cX6_take 39 = .ok (.getfield 68, 3) := by decide +kernel
theorem dX6_take_42 : decode cX6_take 42 = .ok (.iload_n 2, 1) := by decide +kernel
theorem dX6_take_43 : decode cX6_take 43 = .ok (.iaload, 1) := by decide +kernel
theorem dX6_take_44 : decode cX6_take 44 = .ok (.tableswitch 170 0 3 #[32, 87, 101, 140], 32) := by decide +kernel
theorem dX6_take_76 : decode cX6_take 76 = .ok (.iload 6, 2) := by decide +kernel
theorem dX6_take_78 : decode cX6_take 78 = .ok (.ifCond .eq 24, 3) := by decide +kernel
theorem dX6_take_81 : decode cX6_take 81 = .ok (.aload_n 0, 1) := by decide +kernel
theorem dX6_take_82 : decode cX6_take 82 = .ok (.getfield 31, 3) := by decide +kernel
theorem dX6_take_85 : decode cX6_take 85 = .ok (.iload 5, 2) := by decide +kernel
theorem dX6_take_87 : decode cX6_take 87 = .ok (.dup2, 1) := by decide +kernel
theorem dX6_take_88 : decode cX6_take 88 = .ok (.iaload, 1) := by decide +kernel
theorem dX6_take_89 : decode cX6_take 89 = .ok (.iconst 1, 1) := by decide +kernel
theorem dX6_take_90 : decode cX6_take 90 = .ok (.aload_n 1, 1) := by decide +kernel
theorem dX6_take_91 : decode cX6_take 91 = .ok (.getfield 71, 3) := by decide +kernel
theorem dX6_take_94 : decode cX6_take 94 = .ok (.iload_n 2, 1) := by decide +kernel
theorem dX6_take_95 : decode cX6_take 95 = .ok (.iaload, 1) := by decide +kernel
theorem dX6_take_96 : decode cX6_take 96 = .ok (.ishl, 1) := by decide +kernel
theorem dX6_take_97 : decode cX6_take 97 = .ok (.ior, 1) := by decide +kernel
theorem dX6_take_98 : decode cX6_take 98 = .ok (.iastore, 1) := by decide +kernel
theorem dX6_take_99 : decode cX6_take 99 = .ok (.goto 115, 3) := by decide +kernel
theorem dX6_take_102 : decode cX6_take 102 = .ok (.aload_n 1, 1) := by decide +kernel
theorem dX6_take_103 : decode cX6_take 103 = .ok (.getfield 71, 3) := by decide +kernel
theorem dX6_take_106 : decode cX6_take 106 = .ok (.iload_n 2, 1) := by decide +kernel
theorem dX6_take_107 : decode cX6_take 107 = .ok (.iaload, 1) := by decide +kernel
theorem dX6_take_108 : decode cX6_take 108 = .ok (.aload_n 0, 1) := by decide +kernel
theorem dX6_take_109 : decode cX6_take 109 = .ok (.getfield 34, 3) := by decide +kernel
theorem dX6_take_112 : decode cX6_take 112 = .ok (.if_icmp .ne 102, 3) := by decide +kernel
theorem dX6_take_115 : decode cX6_take 115 = .ok (.aload_n 0, 1) := by decide +kernel
theorem dX6_take_116 : decode cX6_take 116 = .ok (.getfield 31, 3) := by decide +kernel
theorem dX6_take_119 : decode cX6_take 119 = .ok (.iload 5, 2) := by decide +kernel
theorem dX6_take_121 : decode cX6_take 121 = .ok (.dup2, 1) := by decide +kernel
theorem dX6_take_122 : decode cX6_take 122 = .ok (.iaload, 1) := by decide +kernel
theorem dX6_take_123 : decode cX6_take 123 = .ok (.iconst 1, 1) := by decide +kernel
theorem dX6_take_124 : decode cX6_take 124 = .ok (.iload_n 3, 1) := by decide +kernel
theorem dX6_take_125 : decode cX6_take 125 = .ok (.ishl, 1) := by decide +kernel
theorem dX6_take_126 : decode cX6_take 126 = .ok (.ior, 1) := by decide +kernel
theorem dX6_take_127 : decode cX6_take 127 = .ok (.iastore, 1) := by decide +kernel
theorem dX6_take_128 : decode cX6_take 128 = .ok (.goto 86, 3) := by decide +kernel
theorem dX6_take_131 : decode cX6_take 131 = .ok (.aload_n 0, 1) := by decide +kernel
theorem dX6_take_132 : decode cX6_take 132 = .ok (.getfield 24, 3) := by decide +kernel
theorem dX6_take_135 : decode cX6_take 135 = .ok (.iload_n 3, 1) := by decide +kernel
theorem dX6_take_136 : decode cX6_take 136 = .ok (.dup2, 1) := by decide +kernel
theorem dX6_take_137 : decode cX6_take 137 = .ok (.iaload, 1) := by decide +kernel
theorem dX6_take_138 : decode cX6_take 138 = .ok (.iload 4, 2) := by decide +kernel
theorem dX6_take_140 : decode cX6_take 140 = .ok (.iadd, 1) := by decide +kernel
theorem dX6_take_141 : decode cX6_take 141 = .ok (.iastore, 1) := by decide +kernel
theorem dX6_take_142 : decode cX6_take 142 = .ok (.goto 72, 3) := by decide +kernel
theorem dX6_take_145 : decode cX6_take 145 = .ok (.aload_n 0, 1) := by decide +kernel
theorem dX6_take_146 : decode cX6_take 146 = .ok (.getfield 28, 3) := by decide +kernel
theorem dX6_take_149 : decode cX6_take 149 = .ok (.iload 5, 2) := by decide +kernel
theorem dX6_take_151 : decode cX6_take 151 = .ok (.iload 6, 2) := by decide +kernel
theorem dX6_take_153 : decode cX6_take 153 = .ok (.ifCond .eq 20, 3) := by decide +kernel
theorem dX6_take_156 : decode cX6_take 156 = .ok (.iload 4, 2) := by decide +kernel
theorem dX6_take_158 : decode cX6_take 158 = .ok (.aload_n 0, 1) := by decide +kernel
theorem dX6_take_159 : decode cX6_take 159 = .ok (.getfield 28, 3) := by decide +kernel
theorem dX6_take_162 : decode cX6_take 162 = .ok (.iload 5, 2) := by decide +kernel
theorem dX6_take_164 : decode cX6_take 164 = .ok (.iaload, 1) := by decide +kernel
theorem dX6_take_165 : decode cX6_take 165 = .ok (.if_icmp .le 8, 3) := by decide +kernel
theorem dX6_take_168 : decode cX6_take 168 = .ok (.iload 4, 2) := by decide +kernel
theorem dX6_take_170 : decode cX6_take 170 = .ok (.goto 10, 3) := by decide +kernel
theorem dX6_take_173 : decode cX6_take 173 = .ok (.aload_n 0, 1) := by decide +kernel
theorem dX6_take_174 : decode cX6_take 174 = .ok (.getfield 28, 3) := by decide +kernel
theorem dX6_take_177 : decode cX6_take 177 = .ok (.iload 5, 2) := by decide +kernel
theorem dX6_take_179 : decode cX6_take 179 = .ok (.iaload, 1) := by decide +kernel
theorem dX6_take_180 : decode cX6_take 180 = .ok (.iastore, 1) := by decide +kernel
theorem dX6_take_181 : decode cX6_take 181 = .ok (.goto 33, 3) := by decide +kernel
theorem dX6_take_184 : decode cX6_take 184 = .ok (.aload_n 0, 1) := by decide +kernel
theorem dX6_take_185 : decode cX6_take 185 = .ok (.iload 6, 2) := by decide +kernel
theorem dX6_take_187 : decode cX6_take 187 = .ok (.ifCond .eq 17, 3) := by decide +kernel
theorem dX6_take_190 : decode cX6_take 190 = .ok (.iload 4, 2) := by decide +kernel
theorem dX6_take_192 : decode cX6_take 192 = .ok (.aload_n 0, 1) := by decide +kernel
theorem dX6_take_193 : decode cX6_take 193 = .ok (.getfield 21, 3) := by decide +kernel
theorem dX6_take_196 : decode cX6_take 196 = .ok (.if_icmp .ge 8, 3) := by decide +kernel
theorem dX6_take_199 : decode cX6_take 199 = .ok (.iload 4, 2) := by decide +kernel
theorem dX6_take_201 : decode cX6_take 201 = .ok (.goto 7, 3) := by decide +kernel
theorem dX6_take_204 : decode cX6_take 204 = .ok (.aload_n 0, 1) := by decide +kernel
theorem dX6_take_205 : decode cX6_take 205 = .ok (.getfield 21, 3) := by decide +kernel
theorem dX6_take_208 : decode cX6_take 208 = .ok (.putfield 21, 3) := by decide +kernel
theorem dX6_take_211 : decode cX6_take 211 = .ok (.goto 3, 3) := by decide +kernel
theorem dX6_take_214 : decode cX6_take 214 = .ok (.return_, 1) := by decide +kernel
theorem dX6_metBeyond_0 : decode cX6_metBeyond 0 = .ok (.iconst 0, 1) := by decide +kernel
theorem dX6_metBeyond_1 : decode cX6_metBeyond 1 = .ok (.istore_n 3, 1) := by decide +kernel
theorem dX6_metBeyond_2 : decode cX6_metBeyond 2 = .ok (.iconst 0, 1) := by decide +kernel
theorem dX6_metBeyond_3 : decode cX6_metBeyond 3 = .ok (.istore 4, 2) := by decide +kernel
theorem dX6_metBeyond_5 : decode cX6_metBeyond 5 = .ok (.iload 4, 2) := by decide +kernel
theorem dX6_metBeyond_7 : decode cX6_metBeyond 7 = .ok (.bipush 7, 2) := by decide +kernel
theorem dX6_metBeyond_9 : decode cX6_metBeyond 9 = .ok (.if_icmp .ge 38, 3) := by decide +kernel
theorem dX6_metBeyond_12 : decode cX6_metBeyond 12 = .ok (.iload_n 2, 1) := by decide +kernel
theorem dX6_metBeyond_13 : decode cX6_metBeyond 13 = .ok (.ifCond .ne 12, 3) := by decide +kernel
theorem dX6_metBeyond_16 : decode cX6_metBeyond 16 = .ok (.iload 4, 2) := by decide +kernel
theorem dX6_metBeyond_18 : decode cX6_metBeyond 18 = .ok (.iload_n 1, 1) := by decide +kernel
theorem dX6_metBeyond_19 : decode cX6_metBeyond 19 = .ok (.if_icmp .le 22, 3) := by decide +kernel
theorem dX6_metBeyond_22 : decode cX6_metBeyond 22 = .ok (.goto 9, 3) := by decide +kernel
theorem dX6_metBeyond_25 : decode cX6_metBeyond 25 = .ok (.iload 4, 2) := by decide +kernel
theorem dX6_metBeyond_27 : decode cX6_metBeyond 27 = .ok (.iload_n 1, 1) := by decide +kernel
theorem dX6_metBeyond_28 : decode cX6_metBeyond 28 = .ok (.if_icmp .ge 13, 3) := by decide +kernel
theorem dX6_metBeyond_31 : decode cX6_metBeyond 31 = .ok (.iload_n 3, 1) := by decide +kernel
theorem dX6_metBeyond_32 : decode cX6_metBeyond 32 = .ok (.aload_n 0, 1) := by decide +kernel
theorem dX6_metBeyond_33 : decode cX6_metBeyond 33 = .ok (.getfield 31, 3) := by decide +kernel
theorem dX6_metBeyond_36 : decode cX6_metBeyond 36 = .ok (.iload 4, 2) := by decide +kernel
theorem dX6_metBeyond_38 : decode cX6_metBeyond 38 = .ok (.iaload, 1) := by decide +kernel
theorem dX6_metBeyond_39 : decode cX6_metBeyond 39 = .ok (.ior, 1) := by decide +kernel
theorem dX6_metBeyond_40 : decode cX6_metBeyond 40 = .ok (.istore_n 3, 1) := by decide +kernel
theorem dX6_metBeyond_41 : decode cX6_metBeyond 41 = .ok (.iinc 4 1, 3) := by decide +kernel
theorem dX6_metBeyond_44 : decode cX6_metBeyond 44 = .ok (.goto (-39), 3) := by decide +kernel
theorem dX6_metBeyond_47 : decode cX6_metBeyond 47 = .ok (.iload_n 3, 1) := by decide +kernel
theorem dX6_metBeyond_48 : decode cX6_metBeyond 48 = .ok (.ireturn, 1) := by decide +kernel
theorem dX7_init_0 : decode cX7_init 0 = .ok (.aload_n 0, 1) := by decide +kernel
theorem dX7_init_1 : decode cX7_init 1 = .ok (.invokespecial 3, 3) := by decide +kernel
theorem dX7_init_4 : decode cX7_init 4 = .ok (.aload_n 0, 1) := by decide +kernel
theorem dX7_init_5 : decode cX7_init 5 = .ok (.iconst 0, 1) := by decide +kernel
theorem dX7_init_6 : decode cX7_init 6 = .ok (.putfield 9, 3) := by decide +kernel
theorem dX7_init_9 : decode cX7_init 9 = .ok (.aload_n 0, 1) := by decide +kernel
theorem dX7_init_10 : decode cX7_init 10 = .ok (.iconst 0, 1) := by decide +kernel
theorem dX7_init_11 : decode cX7_init 11 = .ok (.putfield 15, 3) := by decide +kernel
theorem dX7_init_14 : decode cX7_init 14 = .ok (.aload_n 0, 1) := by decide +kernel
theorem dX7_init_15 : decode cX7_init 15 = .ok (.bipush 60, 2) := by decide +kernel
theorem dX7_init_17 : decode cX7_init 17 = .ok (.newarray .int, 2) := by decide +kernel
theorem dX7_init_19 : decode cX7_init 19 = .ok (.putfield 18, 3) := by decide +kernel
theorem dX7_init_22 : decode cX7_init 22 = .ok (.return_, 1) := by decide +kernel
theorem dX7_areBits_0 : decode cX7_areBits 0 = .ok (.iload_n 0, 1) := by decide +kernel
theorem dX7_areBits_1 : decode cX7_areBits 1 = .ok (.ifCond .eq 21, 3) := by decide +kernel
theorem dX7_areBits_4 : decode cX7_areBits 4 = .ok (.iload_n 0, 1) := by decide +kernel
theorem dX7_areBits_5 : decode cX7_areBits 5 = .ok (.bipush 8, 2) := by decide +kernel
theorem dX7_areBits_7 : decode cX7_areBits 7 = .ok (.if_icmp .eq 15, 3) := by decide +kernel
theorem dX7_areBits_10 : decode cX7_areBits 10 = .ok (.iload_n 0, 1) := by decide +kernel
theorem dX7_areBits_11 : decode cX7_areBits 11 = .ok (.bipush 16, 2) := by decide +kernel
theorem dX7_areBits_13 : decode cX7_areBits 13 = .ok (.if_icmp .eq 9, 3) := by decide +kernel
theorem dX7_areBits_16 : decode cX7_areBits 16 = .ok (.iload_n 0, 1) := by decide +kernel
theorem dX7_areBits_17 : decode cX7_areBits 17 = .ok (.bipush 32, 2) := by decide +kernel
theorem dX7_areBits_19 : decode cX7_areBits 19 = .ok (.if_icmp .ne 7, 3) := by decide +kernel
theorem dX7_areBits_22 : decode cX7_areBits 22 = .ok (.iconst 1, 1) := by decide +kernel
theorem dX7_areBits_23 : decode cX7_areBits 23 = .ok (.goto 4, 3) := by decide +kernel
theorem dX7_areBits_26 : decode cX7_areBits 26 = .ok (.iconst 0, 1) := by decide +kernel
theorem dX7_areBits_27 : decode cX7_areBits 27 = .ok (.ireturn, 1) := by decide +kernel
theorem dX7_isMissing_0 : decode cX7_isMissing 0 = .ok (.aload_n 0, 1) := by decide +kernel
theorem dX7_isMissing_1 : decode cX7_isMissing 1 = .ok (.getfield 9, 3) := by decide +kernel
theorem dX7_isMissing_4 : decode cX7_isMissing 4 = .ok (.ifCond .ne 7, 3) := by decide +kernel
theorem dX7_isMissing_7 : decode cX7_isMissing 7 = .ok (.iconst 1, 1) := by decide +kernel
theorem dX7_isMissing_8 : decode cX7_isMissing 8 = .ok (.goto 4, 3) := by decide +kernel
theorem dX7_isMissing_11 : decode cX7_isMissing 11 = .ok (.iconst 0, 1) := by decide +kernel
theorem dX7_isMissing_12 : decode cX7_isMissing 12 = .ok (.ireturn, 1) := by decide +kernel
theorem dX7_mask_0 : decode cX7_mask 0 = .ok (.aload_n 0, 1) := by decide +kernel
theorem dX7_mask_1 : decode cX7_mask 1 = .ok (.getfield 9, 3) := by decide +kernel
theorem dX7_mask_4 : decode cX7_mask 4 = .ok (.bipush 32, 2) := by decide +kernel
theorem dX7_mask_6 : decode cX7_mask 6 = .ok (.if_icmp .ne 7, 3) := by decide +kernel
theorem dX7_mask_9 : decode cX7_mask 9 = .ok (.iconst (-1), 1) := by decide +kernel
theorem dX7_mask_10 : decode cX7_mask 10 = .ok (.goto 11, 3) := by decide +kernel
theorem dX7_mask_13 : decode cX7_mask 13 = .ok (.iconst 1, 1) := by decide +kernel
theorem dX7_mask_14 : decode cX7_mask 14 = .ok (.aload_n 0, 1) := by decide +kernel
theorem dX7_mask_15 : decode cX7_mask 15 = .ok (.getfield 9, 3) := by decide +kernel
theorem dX7_mask_18 : decode cX7_mask 18 = .ok (.ishl, 1) := by decide +kernel
theorem dX7_mask_19 : decode cX7_mask 19 = .ok (.iconst 1, 1) := by decide +kernel
theorem dX7_mask_20 : decode cX7_mask 20 = .ok (.isub, 1) := by decide +kernel
theorem dX7_mask_21 : decode cX7_mask 21 = .ok (.ireturn, 1) := by decide +kernel
theorem dX7_clear_0 : decode cX7_clear 0 = .ok (.aload_n 0, 1) := by decide +kernel
theorem dX7_clear_1 : decode cX7_clear 1 = .ok (.iload_n 1, 1) := by decide +kernel
theorem dX7_clear_2 : decode cX7_clear 2 = .ok (.putfield 9, 3) := by decide +kernel
theorem dX7_clear_5 : decode cX7_clear 5 = .ok (.aload_n 0, 1) := by decide +kernel
theorem dX7_clear_6 : decode cX7_clear 6 = .ok (.iload_n 1, 1) := by decide +kernel
theorem dX7_clear_7 : decode cX7_clear 7 = .ok (.ifCond .ne 7, 3) := by decide +kernel
theorem dX7_clear_10 : decode cX7_clear 10 = .ok (.iconst 0, 1) := by decide +kernel
theorem dX7_clear_11 : decode cX7_clear 11 = .ok (.goto 4, 3) := by decide +kernel
theorem dX7_clear_14 : decode cX7_clear 14 = .ok (.iload_n 2, 1) := by decide +kernel
theorem dX7_clear_15 : decode cX7_clear 15 = .ok (.putfield 15, 3) := by decide +kernel
theorem dX7_clear_18 : decode cX7_clear 18 = .ok (.aload_n 0, 1) := by decide +kernel
theorem dX7_clear_19 : decode cX7_clear 19 = .ok (.getfield 18, 3) := by decide +kernel
theorem dX7_clear_22 : decode cX7_clear 22 = .ok (.iconst 0, 1) := by decide +kernel
theorem dX7_clear_23 : decode cX7_clear 23 = .ok (.invokestatic 22, 3) := by decide +kernel
theorem dX7_clear_26 : decode cX7_clear 26 = .ok (.return_, 1) := by decide +kernel
theorem dX7_hasSpan_0 : decode cX7_hasSpan 0 = .ok (.iload_n 1, 1) := by decide +kernel
theorem dX7_hasSpan_1 : decode cX7_hasSpan 1 = .ok (.ifCond .lt 29, 3) := by decide +kernel
theorem dX7_hasSpan_4 : decode cX7_hasSpan 4 = .ok (.iload_n 2, 1) := by decide +kernel
theorem dX7_hasSpan_5 : decode cX7_hasSpan 5 = .ok (.ifCond .lt 25, 3) := by decide +kernel
theorem dX7_hasSpan_8 : decode cX7_hasSpan 8 = .ok (.iload_n 2, 1) := by decide +kernel
theorem dX7_hasSpan_9 : decode cX7_hasSpan 9 = .ok (.aload_n 0, 1) := by decide +kernel
theorem dX7_hasSpan_10 : decode cX7_hasSpan 10 = .ok (.getfield 15, 3) := by decide +kernel
theorem dX7_hasSpan_13 : decode cX7_hasSpan 13 = .ok (.if_icmp .gt 17, 3) := by decide +kernel
theorem dX7_hasSpan_16 : decode cX7_hasSpan 16 = .ok (.iload_n 1, 1) := by decide +kernel
theorem dX7_hasSpan_17 : decode cX7_hasSpan 17 = .ok (.aload_n 0, 1) := by decide +kernel
theorem dX7_hasSpan_18 : decode cX7_hasSpan 18 = .ok (.getfield 15, 3) := by decide +kernel
theorem dX7_hasSpan_21 : decode cX7_hasSpan 21 = .ok (.iload_n 2, 1) := by decide +kernel
theorem dX7_hasSpan_22 : decode cX7_hasSpan 22 = .ok (.isub, 1) := by decide +kernel
theorem dX7_hasSpan_23 : decode cX7_hasSpan 23 = .ok (.if_icmp .gt 7, 3) := by decide +kernel
theorem dX7_hasSpan_26 : decode cX7_hasSpan 26 = .ok (.iconst 1, 1) := by decide +kernel
theorem dX7_hasSpan_27 : decode cX7_hasSpan 27 = .ok (.goto 4, 3) := by decide +kernel
theorem dX7_hasSpan_30 : decode cX7_hasSpan 30 = .ok (.iconst 0, 1) := by decide +kernel
theorem dX7_hasSpan_31 : decode cX7_hasSpan 31 = .ok (.ireturn, 1) := by decide +kernel
theorem dX8_init_0 : decode cX8_init 0 = .ok (.aload_n 0, 1) := by decide +kernel
theorem dX8_init_1 : decode cX8_init 1 = .ok (.invokespecial 3, 3) := by decide +kernel
theorem dX8_init_4 : decode cX8_init 4 = .ok (.aload_n 0, 1) := by decide +kernel
theorem dX8_init_5 : decode cX8_init 5 = .ok (.iconst 3, 1) := by decide +kernel
theorem dX8_init_6 : decode cX8_init 6 = .ok (.putfield 9, 3) := by decide +kernel
theorem dX8_init_9 : decode cX8_init 9 = .ok (.aload_n 0, 1) := by decide +kernel
theorem dX8_init_10 : decode cX8_init 10 = .ok (.bipush 7, 2) := by decide +kernel
theorem dX8_init_12 : decode cX8_init 12 = .ok (.newarray .int, 2) := by decide +kernel
theorem dX8_init_14 : decode cX8_init 14 = .ok (.putfield 15, 3) := by decide +kernel
theorem dX8_init_17 : decode cX8_init 17 = .ok (.aload_n 0, 1) := by decide +kernel
theorem dX8_init_18 : decode cX8_init 18 = .ok (.bipush 6, 2) := by decide +kernel
theorem dX8_init_20 : decode cX8_init 20 = .ok (.newarray .int, 2) := by decide +kernel
theorem dX8_init_22 : decode cX8_init 22 = .ok (.putfield 19, 3) := by decide +kernel
theorem dX8_init_25 : decode cX8_init 25 = .ok (.aload_n 0, 1) := by decide +kernel
theorem dX8_init_26 : decode cX8_init 26 = .ok (.getfield 15, 3) := by decide +kernel
theorem dX8_init_29 : decode cX8_init 29 = .ok (.bipush 10, 2) := by decide +kernel
theorem dX8_init_31 : decode cX8_init 31 = .ok (.invokestatic 22, 3) := by decide +kernel
theorem dX8_init_34 : decode cX8_init 34 = .ok (.aload_n 0, 1) := by decide +kernel
theorem dX8_init_35 : decode cX8_init 35 = .ok (.getfield 19, 3) := by decide +kernel
theorem dX8_init_38 : decode cX8_init 38 = .ok (.bipush 10, 2) := by decide +kernel
theorem dX8_init_40 : decode cX8_init 40 = .ok (.invokestatic 22, 3) := by decide +kernel
theorem dX8_init_43 : decode cX8_init 43 = .ok (.return_, 1) := by decide +kernel
theorem dX8_areMinutes_0 : decode cX8_areMinutes 0 = .ok (.iload_n 0, 1) := by decide +kernel
theorem dX8_areMinutes_1 : decode cX8_areMinutes 1 = .ok (.iconst 1, 1) := by decide +kernel
theorem dX8_areMinutes_2 : decode cX8_areMinutes 2 = .ok (.if_icmp .lt 13, 3) := by decide +kernel
theorem dX8_areMinutes_5 : decode cX8_areMinutes 5 = .ok (.iload_n 0, 1) := by decide +kernel
theorem dX8_areMinutes_6 : decode cX8_areMinutes 6 = .ok (.bipush 30, 2) := by decide +kernel
theorem dX8_areMinutes_8 : decode cX8_areMinutes 8 = .ok (.if_icmp .gt 7, 3) := by decide +kernel
theorem dX8_areMinutes_11 : decode cX8_areMinutes 11 = .ok (.iconst 1, 1) := by decide +kernel
theorem dX8_areMinutes_12 : decode cX8_areMinutes 12 = .ok (.goto 4, 3) := by decide +kernel
theorem dX8_areMinutes_15 : decode cX8_areMinutes 15 = .ok (.iconst 0, 1) := by decide +kernel
theorem dX8_areMinutes_16 : decode cX8_areMinutes 16 = .ok (.ireturn, 1) := by decide +kernel
theorem dX8_hasStation_0 : decode cX8_hasStation 0 = .ok (.iload_n 1, 1) := by decide +kernel
theorem dX8_hasStation_1 : decode cX8_hasStation 1 = .ok (.ifCond .lt 15, 3) := by decide +kernel
theorem dX8_hasStation_4 : decode cX8_hasStation 4 = .ok (.iload_n 1, 1) := by decide +kernel
theorem dX8_hasStation_5 : decode cX8_hasStation 5 = .ok (.aload_n 0, 1) := by decide +kernel
theorem dX8_hasStation_6 : decode cX8_hasStation 6 = .ok (.getfield 9, 3) := by decide +kernel
theorem dX8_hasStation_9 : decode cX8_hasStation 9 = .ok (.if_icmp .ge 7, 3) := by decide +kernel
theorem dX8_hasStation_12 : decode cX8_hasStation 12 = .ok (.iconst 1, 1) := by decide +kernel
theorem dX8_hasStation_13 : decode cX8_hasStation 13 = .ok (.goto 4, 3) := by decide +kernel
theorem dX8_hasStation_16 : decode cX8_hasStation 16 = .ok (.iconst 0, 1) := by decide +kernel
theorem dX8_hasStation_17 : decode cX8_hasStation 17 = .ok (.ireturn, 1) := by decide +kernel
theorem dX8_hasSection_0 : decode cX8_hasSection 0 = .ok (.iload_n 1, 1) := by decide +kernel
theorem dX8_hasSection_1 : decode cX8_hasSection 1 = .ok (.ifCond .lt 17, 3) := by decide +kernel
theorem dX8_hasSection_4 : decode cX8_hasSection 4 = .ok (.iload_n 1, 1) := by decide +kernel
theorem dX8_hasSection_5 : decode cX8_hasSection 5 = .ok (.aload_n 0, 1) := by decide +kernel
theorem dX8_hasSection_6 : decode cX8_hasSection 6 = .ok (.getfield 9, 3) := by decide +kernel
theorem dX8_hasSection_9 : decode cX8_hasSection 9 = .ok (.iconst 1, 1) := by decide +kernel
theorem dX8_hasSection_10 : decode cX8_hasSection 10 = .ok (.isub, 1) := by decide +kernel
theorem dX8_hasSection_11 : decode cX8_hasSection 11 = .ok (.if_icmp .ge 7, 3) := by decide +kernel
theorem dX8_hasSection_14 : decode cX8_hasSection 14 = .ok (.iconst 1, 1) := by decide +kernel
theorem dX8_hasSection_15 : decode cX8_hasSection 15 = .ok (.goto 4, 3) := by decide +kernel
theorem dX8_hasSection_18 : decode cX8_hasSection 18 = .ok (.iconst 0, 1) := by decide +kernel
theorem dX8_hasSection_19 : decode cX8_hasSection 19 = .ok (.ireturn, 1) := by decide +kernel
theorem dX8_minutesBetween_0 : decode cX8_minutesBetween 0 = .ok (.iload_n 1, 1) := by decide +kernel
theorem dX8_minutesBetween_1 : decode cX8_minutesBetween 1 = .ok (.iload_n 2, 1) := by decide +kernel
theorem dX8_minutesBetween_2 : decode cX8_minutesBetween 2 = .ok (.if_icmp .ge 7, 3) := by decide +kernel
theorem dX8_minutesBetween_5 : decode cX8_minutesBetween 5 = .ok (.iload_n 2, 1) := by decide +kernel
theorem dX8_minutesBetween_6 : decode cX8_minutesBetween 6 = .ok (.goto 4, 3) := by decide +kernel
theorem dX8_minutesBetween_9 : decode cX8_minutesBetween 9 = .ok (.iload_n 1, 1) := by decide +kernel
theorem dX8_minutesBetween_10 : decode cX8_minutesBetween 10 = .ok (.istore_n 3, 1) := by decide +kernel
theorem dX8_minutesBetween_11 : decode cX8_minutesBetween 11 = .ok (.iconst 0, 1) := by decide +kernel
theorem dX8_minutesBetween_12 : decode cX8_minutesBetween 12 = .ok (.istore 4, 2) := by decide +kernel
theorem dX8_minutesBetween_14 : decode cX8_minutesBetween 14 = .ok (.iload_n 1, 1) := by decide +kernel
theorem dX8_minutesBetween_15 : decode cX8_minutesBetween 15 = .ok (.iload_n 2, 1) := by decide +kernel
theorem dX8_minutesBetween_16 : decode cX8_minutesBetween 16 = .ok (.if_icmp .ge 7, 3) := by decide +kernel
theorem dX8_minutesBetween_19 : decode cX8_minutesBetween 19 = .ok (.iload_n 1, 1) := by decide +kernel
theorem dX8_minutesBetween_20 : decode cX8_minutesBetween 20 = .ok (.goto 4, 3) := by decide +kernel
theorem dX8_minutesBetween_23 : decode cX8_minutesBetween 23 = .ok (.iload_n 2, 1) := by decide +kernel
theorem dX8_minutesBetween_24 : decode cX8_minutesBetween 24 = .ok (.istore 5, 2) := by decide +kernel
theorem dX8_minutesBetween_26 : decode cX8_minutesBetween 26 = .ok (.iload 5, 2) := by decide +kernel
theorem dX8_minutesBetween_28 : decode cX8_minutesBetween 28 = .ok (.iload_n 3, 1) := by decide +kernel
theorem dX8_minutesBetween_29 : decode cX8_minutesBetween 29 = .ok (.if_icmp .ge 21, 3) := by decide +kernel
theorem dX8_minutesBetween_32 : decode cX8_minutesBetween 32 = .ok (.iload 4, 2) := by decide +kernel
theorem dX8_minutesBetween_34 : decode cX8_minutesBetween 34 = .ok (.aload_n 0, 1) := by decide +kernel
theorem dX8_minutesBetween_35 : decode cX8_minutesBetween 35 = .ok (.getfield 19, 3) := by decide +kernel
theorem dX8_minutesBetween_38 : decode cX8_minutesBetween 38 = .ok (.iload 5, 2) := by decide +kernel
theorem dX8_minutesBetween_40 : decode cX8_minutesBetween 40 = .ok (.iaload, 1) := by decide +kernel
theorem dX8_minutesBetween_41 : decode cX8_minutesBetween 41 = .ok (.iadd, 1) := by decide +kernel
theorem dX8_minutesBetween_42 : decode cX8_minutesBetween 42 = .ok (.istore 4, 2) := by decide +kernel
theorem dX8_minutesBetween_44 : decode cX8_minutesBetween 44 = .ok (.iinc 5 1, 3) := by decide +kernel
theorem dX8_minutesBetween_47 : decode cX8_minutesBetween 47 = .ok (.goto (-21), 3) := by decide +kernel
theorem dX8_minutesBetween_50 : decode cX8_minutesBetween 50 = .ok (.iload 4, 2) := by decide +kernel
theorem dX8_minutesBetween_52 : decode cX8_minutesBetween 52 = .ok (.ireturn, 1) := by decide +kernel
theorem dX8_takeFrom_0 : decode cX8_takeFrom 0 = .ok (.aload_n 0, 1) := by decide +kernel
theorem dX8_takeFrom_1 : decode cX8_takeFrom 1 = .ok (.aload_n 1, 1) := by decide +kernel
theorem dX8_takeFrom_2 : decode cX8_takeFrom 2 = .ok (.getfield 9, 3) := by decide +kernel
theorem dX8_takeFrom_5 : decode cX8_takeFrom 5 = .ok (.putfield 9, 3) := by decide +kernel
theorem dX8_takeFrom_8 : decode cX8_takeFrom 8 = .ok (.aload_n 1, 1) := by decide +kernel
theorem dX8_takeFrom_9 : decode cX8_takeFrom 9 = .ok (.getfield 15, 3) := by decide +kernel
theorem dX8_takeFrom_12 : decode cX8_takeFrom 12 = .ok (.iconst 0, 1) := by decide +kernel
theorem dX8_takeFrom_13 : decode cX8_takeFrom 13 = .ok (.aload_n 0, 1) := by decide +kernel
theorem dX8_takeFrom_14 : decode cX8_takeFrom 14 = .ok (.getfield 15, 3) := by decide +kernel
theorem dX8_takeFrom_17 : decode cX8_takeFrom 17 = .ok (.iconst 0, 1) := by decide +kernel
theorem dX8_takeFrom_18 : decode cX8_takeFrom 18 = .ok (.aload_n 0, 1) := by decide +kernel
theorem dX8_takeFrom_19 : decode cX8_takeFrom 19 = .ok (.getfield 15, 3) := by decide +kernel
theorem dX8_takeFrom_22 : decode cX8_takeFrom 22 = .ok (.arraylength, 1) := by decide +kernel
theorem dX8_takeFrom_23 : decode cX8_takeFrom 23 = .ok (.invokestatic 28, 3) := by decide +kernel
theorem dX8_takeFrom_26 : decode cX8_takeFrom 26 = .ok (.aload_n 1, 1) := by decide +kernel
theorem dX8_takeFrom_27 : decode cX8_takeFrom 27 = .ok (.getfield 19, 3) := by decide +kernel
theorem dX8_takeFrom_30 : decode cX8_takeFrom 30 = .ok (.iconst 0, 1) := by decide +kernel
theorem dX8_takeFrom_31 : decode cX8_takeFrom 31 = .ok (.aload_n 0, 1) := by decide +kernel
theorem dX8_takeFrom_32 : decode cX8_takeFrom 32 = .ok (.getfield 19, 3) := by decide +kernel
theorem dX8_takeFrom_35 : decode cX8_takeFrom 35 = .ok (.iconst 0, 1) := by decide +kernel
theorem dX8_takeFrom_36 : decode cX8_takeFrom 36 = .ok (.aload_n 0, 1) := by decide +kernel
theorem dX8_takeFrom_37 : decode cX8_takeFrom 37 = .ok (.getfield 19, 3) := by decide +kernel
theorem dX8_takeFrom_40 : decode cX8_takeFrom 40 = .ok (.arraylength, 1) := by decide +kernel
theorem dX8_takeFrom_41 : decode cX8_takeFrom 41 = .ok (.invokestatic 28, 3) := by decide +kernel
theorem dX8_takeFrom_44 : decode cX8_takeFrom 44 = .ok (.return_, 1) := by decide +kernel
theorem dX9_init_0 : decode cX9_init 0 = .ok (.aload_n 0, 1) := by decide +kernel
theorem dX9_init_1 : decode cX9_init 1 = .ok (.invokespecial 3, 3) := by decide +kernel
theorem dX9_init_4 : decode cX9_init 4 = .ok (.aload_n 0, 1) := by decide +kernel
theorem dX9_init_5 : decode cX9_init 5 = .ok (.iconst 0, 1) := by decide +kernel
theorem dX9_init_6 : decode cX9_init 6 = .ok (.putfield 9, 3) := by decide +kernel
theorem dX9_init_9 : decode cX9_init 9 = .ok (.aload_n 0, 1) := by decide +kernel
theorem dX9_init_10 : decode cX9_init 10 = .ok (.iconst 5, 1) := by decide +kernel
theorem dX9_init_11 : decode cX9_init 11 = .ok (.newarray .int, 2) := by decide +kernel
theorem dX9_init_13 : decode cX9_init 13 = .ok (.putfield 15, 3) := by decide +kernel
theorem dX9_init_16 : decode cX9_init 16 = .ok (.aload_n 0, 1) := by decide +kernel
theorem dX9_init_17 : decode cX9_init 17 = .ok (.iconst 5, 1) := by decide +kernel
theorem dX9_init_18 : decode cX9_init 18 = .ok (.newarray .int, 2) := by decide +kernel
theorem dX9_init_20 : decode cX9_init 20 = .ok (.putfield 19, 3) := by decide +kernel
theorem dX9_init_23 : decode cX9_init 23 = .ok (.aload_n 0, 1) := by decide +kernel
theorem dX9_init_24 : decode cX9_init 24 = .ok (.iconst 5, 1) := by decide +kernel
theorem dX9_init_25 : decode cX9_init 25 = .ok (.newarray .int, 2) := by decide +kernel
theorem dX9_init_27 : decode cX9_init 27 = .ok (.putfield 22, 3) := by decide +kernel
theorem dX9_init_30 : decode cX9_init 30 = .ok (.aload_n 0, 1) := by decide +kernel
theorem dX9_init_31 : decode cX9_init 31 = .ok (.iconst 5, 1) := by decide +kernel
theorem dX9_init_32 : decode cX9_init 32 = .ok (.newarray .int, 2) := by decide +kernel
theorem dX9_init_34 : decode cX9_init 34 = .ok (.putfield 25, 3) := by decide +kernel
theorem dX9_init_37 : decode cX9_init 37 = .ok (.aload_n 0, 1) := by decide +kernel
theorem dX9_init_38 : decode cX9_init 38 = .ok (.iconst 5, 1) := by decide +kernel
theorem dX9_init_39 : decode cX9_init 39 = .ok (.newarray .int, 2) := by decide +kernel
theorem dX9_init_41 : decode cX9_init 41 = .ok (.putfield 28, 3) := by decide +kernel
theorem dX9_init_44 : decode cX9_init 44 = .ok (.return_, 1) := by decide +kernel
theorem dX9_has_0 : decode cX9_has 0 = .ok (.iload_n 1, 1) := by decide +kernel
theorem dX9_has_1 : decode cX9_has 1 = .ok (.ifCond .lt 15, 3) := by decide +kernel
theorem dX9_has_4 : decode cX9_has 4 = .ok (.iload_n 1, 1) := by decide +kernel
theorem dX9_has_5 : decode cX9_has 5 = .ok (.aload_n 0, 1) := by decide +kernel
theorem dX9_has_6 : decode cX9_has 6 = .ok (.getfield 9, 3) := by decide +kernel
theorem dX9_has_9 : decode cX9_has 9 = .ok (.if_icmp .ge 7, 3) := by decide +kernel
theorem dX9_has_12 : decode cX9_has 12 = .ok (.iconst 1, 1) := by decide +kernel
theorem dX9_has_13 : decode cX9_has 13 = .ok (.goto 4, 3) := by decide +kernel
theorem dX9_has_16 : decode cX9_has 16 = .ok (.iconst 0, 1) := by decide +kernel
theorem dX9_has_17 : decode cX9_has 17 = .ok (.ireturn, 1) := by decide +kernel
theorem dX9_add_0 : decode cX9_add 0 = .ok (.aload_n 0, 1) := by decide +kernel
theorem dX9_add_1 : decode cX9_add 1 = .ok (.getfield 9, 3) := by decide +kernel
theorem dX9_add_4 : decode cX9_add 4 = .ok (.istore 6, 2) := by decide +kernel
theorem dX9_add_6 : decode cX9_add 6 = .ok (.aload_n 0, 1) := by decide +kernel
theorem dX9_add_7 : decode cX9_add 7 = .ok (.getfield 15, 3) := by decide +kernel
theorem dX9_add_10 : decode cX9_add 10 = .ok (.iload 6, 2) := by decide +kernel
theorem dX9_add_12 : decode cX9_add 12 = .ok (.iload_n 1, 1) := by decide +kernel
theorem dX9_add_13 : decode cX9_add 13 = .ok (.iastore, 1) := by decide +kernel
theorem dX9_add_14 : decode cX9_add 14 = .ok (.aload_n 0, 1) := by decide +kernel
theorem dX9_add_15 : decode cX9_add 15 = .ok (.getfield 19, 3) := by decide +kernel
theorem dX9_add_18 : decode cX9_add 18 = .ok (.iload 6, 2) := by decide +kernel
theorem dX9_add_20 : decode cX9_add 20 = .ok (.iload_n 2, 1) := by decide +kernel
theorem dX9_add_21 : decode cX9_add 21 = .ok (.iastore, 1) := by decide +kernel
theorem dX9_add_22 : decode cX9_add 22 = .ok (.aload_n 0, 1) := by decide +kernel
theorem dX9_add_23 : decode cX9_add 23 = .ok (.getfield 22, 3) := by decide +kernel
theorem dX9_add_26 : decode cX9_add 26 = .ok (.iload 6, 2) := by decide +kernel
theorem dX9_add_28 : decode cX9_add 28 = .ok (.iload_n 3, 1) := by decide +kernel
theorem dX9_add_29 : decode cX9_add 29 = .ok (.iastore, 1) := by decide +kernel
theorem dX9_add_30 : decode cX9_add 30 = .ok (.aload_n 0, 1) := by decide +kernel
theorem dX9_add_31 : decode cX9_add 31 = .ok (.getfield 25, 3) := by decide +kernel
theorem dX9_add_34 : decode cX9_add 34 = .ok (.iload 6, 2) := by decide +kernel
theorem dX9_add_36 : decode cX9_add 36 = .ok (.iload 4, 2) := by decide +kernel
theorem dX9_add_38 : decode cX9_add 38 = .ok (.iastore, 1) := by decide +kernel
theorem dX9_add_39 : decode cX9_add 39 = .ok (.aload_n 0, 1) := by decide +kernel
theorem dX9_add_40 : decode cX9_add 40 = .ok (.getfield 28, 3) := by decide +kernel
theorem dX9_add_43 : decode cX9_add 43 = .ok (.iload 6, 2) := by decide +kernel
theorem dX9_add_45 : decode cX9_add 45 = .ok (.iload 5, 2) := by decide +kernel
theorem dX9_add_47 : decode cX9_add 47 = .ok (.iastore, 1) := by decide +kernel
theorem dX9_add_48 : decode cX9_add 48 = .ok (.aload_n 0, 1) := by decide +kernel
theorem dX9_add_49 : decode cX9_add 49 = .ok (.dup, 1) := by decide +kernel
theorem dX9_add_50 : decode cX9_add 50 = .ok (.getfield 9, 3) := by decide +kernel
theorem dX9_add_53 : decode cX9_add 53 = .ok (.iconst 1, 1) := by decide +kernel
theorem dX9_add_54 : decode cX9_add 54 = .ok (.iadd, 1) := by decide +kernel
theorem dX9_add_55 : decode cX9_add 55 = .ok (.putfield 9, 3) := by decide +kernel
theorem dX9_add_58 : decode cX9_add 58 = .ok (.iload 6, 2) := by decide +kernel
theorem dX9_add_60 : decode cX9_add 60 = .ok (.ireturn, 1) := by decide +kernel
theorem dX9_wayOf_0 : decode cX9_wayOf 0 = .ok (.aload_n 0, 1) := by decide +kernel
theorem dX9_wayOf_1 : decode cX9_wayOf 1 = .ok (.getfield 22, 3) := by decide +kernel
theorem dX9_wayOf_4 : decode cX9_wayOf 4 = .ok (.iload_n 1, 1) := by decide +kernel
theorem dX9_wayOf_5 : decode cX9_wayOf 5 = .ok (.iaload, 1) := by decide +kernel
theorem dX9_wayOf_6 : decode cX9_wayOf 6 = .ok (.aload_n 0, 1) := by decide +kernel
theorem dX9_wayOf_7 : decode cX9_wayOf 7 = .ok (.getfield 19, 3) := by decide +kernel
theorem dX9_wayOf_10 : decode cX9_wayOf 10 = .ok (.iload_n 1, 1) := by decide +kernel
theorem dX9_wayOf_11 : decode cX9_wayOf 11 = .ok (.iaload, 1) := by decide +kernel
theorem dX9_wayOf_12 : decode cX9_wayOf 12 = .ok (.if_icmp .le 7, 3) := by decide +kernel
theorem dX9_wayOf_15 : decode cX9_wayOf 15 = .ok (.iconst 0, 1) := by decide +kernel
theorem dX9_wayOf_16 : decode cX9_wayOf 16 = .ok (.goto 4, 3) := by decide +kernel
theorem dX9_wayOf_19 : decode cX9_wayOf 19 = .ok (.iconst 1, 1) := by decide +kernel
theorem dX9_wayOf_20 : decode cX9_wayOf 20 = .ok (.ireturn, 1) := by decide +kernel
theorem dX9_areContrary_0 : decode cX9_areContrary 0 = .ok (.aload_n 0, 1) := by decide +kernel
theorem dX9_areContrary_1 : decode cX9_areContrary 1 = .ok (.iload_n 1, 1) := by decide +kernel
theorem dX9_areContrary_2 : decode cX9_areContrary 2 = .ok (.invokevirtual 31, 3) := by decide +kernel
theorem dX9_areContrary_5 : decode cX9_areContrary 5 = .ok (.aload_n 0, 1) := by decide +kernel
theorem dX9_areContrary_6 : decode cX9_areContrary 6 = .ok (.iload_n 2, 1) := by decide +kernel
theorem dX9_areContrary_7 : decode cX9_areContrary 7 = .ok (.invokevirtual 31, 3) := by decide +kernel
theorem dX9_areContrary_10 : decode cX9_areContrary 10 = .ok (.if_icmp .eq 7, 3) := by decide +kernel
theorem dX9_areContrary_13 : decode cX9_areContrary 13 = .ok (.iconst 1, 1) := by decide +kernel
theorem dX9_areContrary_14 : decode cX9_areContrary 14 = .ok (.goto 4, 3) := by decide +kernel
theorem dX9_areContrary_17 : decode cX9_areContrary 17 = .ok (.iconst 0, 1) := by decide +kernel
theorem dX9_areContrary_18 : decode cX9_areContrary 18 = .ok (.ireturn, 1) := by decide +kernel
theorem dX9_passes_0 : decode cX9_passes 0 = .ok (.iload_n 2, 1) := by decide +kernel
theorem dX9_passes_1 : decode cX9_passes 1 = .ok (.aload_n 0, 1) := by decide +kernel
theorem dX9_passes_2 : decode cX9_passes 2 = .ok (.getfield 19, 3) := by decide +kernel
theorem dX9_passes_5 : decode cX9_passes 5 = .ok (.iload_n 1, 1) := by decide +kernel
theorem dX9_passes_6 : decode cX9_passes 6 = .ok (.iaload, 1) := by decide +kernel
theorem dX9_passes_7 : decode cX9_passes 7 = .ok (.aload_n 0, 1) := by decide +kernel
theorem dX9_passes_8 : decode cX9_passes 8 = .ok (.getfield 22, 3) := by decide +kernel
theorem dX9_passes_11 : decode cX9_passes 11 = .ok (.iload_n 1, 1) := by decide +kernel
theorem dX9_passes_12 : decode cX9_passes 12 = .ok (.iaload, 1) := by decide +kernel
theorem dX9_passes_13 : decode cX9_passes 13 = .ok (.invokestatic 35, 3) := by decide +kernel
theorem dX9_passes_16 : decode cX9_passes 16 = .ok (.if_icmp .lt 26, 3) := by decide +kernel
theorem dX9_passes_19 : decode cX9_passes 19 = .ok (.iload_n 2, 1) := by decide +kernel
theorem dX9_passes_20 : decode cX9_passes 20 = .ok (.aload_n 0, 1) := by decide +kernel
theorem dX9_passes_21 : decode cX9_passes 21 = .ok (.getfield 19, 3) := by decide +kernel
theorem dX9_passes_24 : decode cX9_passes 24 = .ok (.iload_n 1, 1) := by decide +kernel
theorem dX9_passes_25 : decode cX9_passes 25 = .ok (.iaload, 1) := by decide +kernel
theorem dX9_passes_26 : decode cX9_passes 26 = .ok (.aload_n 0, 1) := by decide +kernel
theorem dX9_passes_27 : decode cX9_passes 27 = .ok (.getfield 22, 3) := by decide +kernel
theorem dX9_passes_30 : decode cX9_passes 30 = .ok (.iload_n 1, 1) := by decide +kernel
theorem dX9_passes_31 : decode cX9_passes 31 = .ok (.iaload, 1) := by decide +kernel
theorem dX9_passes_32 : decode cX9_passes 32 = .ok (.invokestatic 41, 3) := by decide +kernel
theorem dX9_passes_35 : decode cX9_passes 35 = .ok (.if_icmp .gt 7, 3) := by decide +kernel
theorem dX9_passes_38 : decode cX9_passes 38 = .ok (.iconst 1, 1) := by decide +kernel
theorem dX9_passes_39 : decode cX9_passes 39 = .ok (.goto 4, 3) := by decide +kernel
theorem dX9_passes_42 : decode cX9_passes 42 = .ok (.iconst 0, 1) := by decide +kernel
theorem dX9_passes_43 : decode cX9_passes 43 = .ok (.ireturn, 1) := by decide +kernel
theorem dX9_isOfKind_0 : decode cX9_isOfKind 0 = .ok (.aload_n 0, 1) := by decide +kernel
theorem dX9_isOfKind_1 : decode cX9_isOfKind 1 = .ok (.getfield 15, 3) := by decide +kernel
theorem dX9_isOfKind_4 : decode cX9_isOfKind 4 = .ok (.iload_n 1, 1) := by decide +kernel
theorem dX9_isOfKind_5 : decode cX9_isOfKind 5 = .ok (.iaload, 1) := by decide +kernel
theorem dX9_isOfKind_6 : decode cX9_isOfKind 6 = .ok (.istore_n 3, 1) := by decide +kernel
theorem dX9_isOfKind_7 : decode cX9_isOfKind 7 = .ok (.iconst 0, 1) := by decide +kernel
theorem dX9_isOfKind_8 : decode cX9_isOfKind 8 = .ok (.istore 4, 2) := by decide +kernel
theorem dX9_isOfKind_10 : decode cX9_isOfKind 10 = .ok (.iload 4, 2) := by decide +kernel
theorem dX9_isOfKind_12 : decode cX9_isOfKind 12 = .ok (.iconst 4, 1) := by decide +kernel
theorem dX9_isOfKind_13 : decode cX9_isOfKind 13 = .ok (.if_icmp .ge 27, 3) := by decide +kernel
theorem dX9_isOfKind_16 : decode cX9_isOfKind 16 = .ok (.iload_n 3, 1) := by decide +kernel
theorem dX9_isOfKind_17 : decode cX9_isOfKind 17 = .ok (.iconst (-1), 1) := by decide +kernel
theorem dX9_isOfKind_18 : decode cX9_isOfKind 18 = .ok (.if_icmp .eq 22, 3) := by decide +kernel
theorem dX9_isOfKind_21 : decode cX9_isOfKind 21 = .ok (.iload_n 3, 1) := by decide +kernel
theorem dX9_isOfKind_22 : decode cX9_isOfKind 22 = .ok (.iload_n 2, 1) := by decide +kernel
theorem dX9_isOfKind_23 : decode cX9_isOfKind 23 = .ok (.if_icmp .ne 5, 3) := by decide +kernel
theorem dX9_isOfKind_26 : decode cX9_isOfKind 26 = .ok (.iconst 1, 1) := by decide +kernel
theorem dX9_isOfKind_27 : decode cX9_isOfKind 27 = .ok (.ireturn, 1) := by decide +kernel
theorem dX9_isOfKind_28 : decode cX9_isOfKind 28 = .ok (.getstatic 44, 3) := by decide +kernel
theorem dX9_isOfKind_31 : decode cX9_isOfKind 31 = .ok (.iload_n 3, 1) := by decide +kernel
theorem dX9_isOfKind_32 : decode cX9_isOfKind 32 = .ok (.iaload, 1) := by decide +kernel
theorem dX9_isOfKind_33 : decode cX9_isOfKind 33 = .ok (.istore_n 3, 1) := by decide +kernel
theorem dX9_isOfKind_34 : decode cX9_isOfKind 34 = .ok (.iinc 4 1, 3) := by decide +kernel
theorem dX9_isOfKind_37 : decode cX9_isOfKind 37 = .ok (.goto (-27), 3) := by decide +kernel
theorem dX9_isOfKind_40 : decode cX9_isOfKind 40 = .ok (.iconst 0, 1) := by decide +kernel
theorem dX9_isOfKind_41 : decode cX9_isOfKind 41 = .ok (.ireturn, 1) := by decide +kernel
theorem dX9_isTimetabled_0 : decode cX9_isTimetabled 0 = .ok (.aload_n 0, 1) := by decide +kernel
theorem dX9_isTimetabled_1 : decode cX9_isTimetabled 1 = .ok (.getfield 15, 3) := by decide +kernel
theorem dX9_isTimetabled_4 : decode cX9_isTimetabled 4 = .ok (.iload_n 1, 1) := by decide +kernel
theorem dX9_isTimetabled_5 : decode cX9_isTimetabled 5 = .ok (.iaload, 1) := by decide +kernel
theorem dX9_isTimetabled_6 : decode cX9_isTimetabled 6 = .ok (.iconst 1, 1) := by decide +kernel
theorem dX9_isTimetabled_7 : decode cX9_isTimetabled 7 = .ok (.if_icmp .eq 13, 3) := by decide +kernel
theorem dX9_isTimetabled_10 : decode cX9_isTimetabled 10 = .ok (.aload_n 0, 1) := by decide +kernel
theorem dX9_isTimetabled_11 : decode cX9_isTimetabled 11 = .ok (.getfield 15, 3) := by decide +kernel
theorem dX9_isTimetabled_14 : decode cX9_isTimetabled 14 = .ok (.iload_n 1, 1) := by decide +kernel
theorem dX9_isTimetabled_15 : decode cX9_isTimetabled 15 = .ok (.iaload, 1) := by decide +kernel
theorem dX9_isTimetabled_16 : decode cX9_isTimetabled 16 = .ok (.iconst 2, 1) := by decide +kernel
theorem dX9_isTimetabled_17 : decode cX9_isTimetabled 17 = .ok (.if_icmp .ne 7, 3) := by decide +kernel
theorem dX9_isTimetabled_20 : decode cX9_isTimetabled 20 = .ok (.iconst 1, 1) := by decide +kernel
theorem dX9_isTimetabled_21 : decode cX9_isTimetabled 21 = .ok (.goto 4, 3) := by decide +kernel
theorem dX9_isTimetabled_24 : decode cX9_isTimetabled 24 = .ok (.iconst 0, 1) := by decide +kernel
theorem dX9_isTimetabled_25 : decode cX9_isTimetabled 25 = .ok (.ireturn, 1) := by decide +kernel
theorem dX9_strength_0 : decode cX9_strength 0 = .ok (.iconst 2, 1) := by decide +kernel
theorem dX9_strength_1 : decode cX9_strength 1 = .ok (.getstatic 47, 3) := by decide +kernel
theorem dX9_strength_4 : decode cX9_strength 4 = .ok (.aload_n 0, 1) := by decide +kernel
theorem dX9_strength_5 : decode cX9_strength 5 = .ok (.getfield 15, 3) := by decide +kernel
theorem dX9_strength_8 : decode cX9_strength 8 = .ok (.iload_n 1, 1) := by decide +kernel
theorem dX9_strength_9 : decode cX9_strength 9 = .ok (.iaload, 1) := by decide +kernel
theorem dX9_strength_10 : decode cX9_strength 10 = .ok (.iaload, 1) := by decide +kernel
theorem dX9_strength_11 : decode cX9_strength 11 = .ok (.imul, 1) := by decide +kernel
theorem dX9_strength_12 : decode cX9_strength 12 = .ok (.iload_n 2, 1) := by decide +kernel
theorem dX9_strength_13 : decode cX9_strength 13 = .ok (.ifCond .ne 7, 3) := by decide +kernel
theorem dX9_strength_16 : decode cX9_strength 16 = .ok (.iconst 1, 1) := by decide +kernel
theorem dX9_strength_17 : decode cX9_strength 17 = .ok (.goto 4, 3) := by decide +kernel
theorem dX9_strength_20 : decode cX9_strength 20 = .ok (.iconst 0, 1) := by decide +kernel
theorem dX9_strength_21 : decode cX9_strength 21 = .ok (.iadd, 1) := by decide +kernel
theorem dX9_strength_22 : decode cX9_strength 22 = .ok (.ireturn, 1) := by decide +kernel
theorem dX9_route_0 : decode cX9_route 0 = .ok (.aload_n 0, 1) := by decide +kernel
theorem dX9_route_1 : decode cX9_route 1 = .ok (.getfield 19, 3) := by decide +kernel
theorem dX9_route_4 : decode cX9_route 4 = .ok (.iload_n 1, 1) := by decide +kernel
theorem dX9_route_5 : decode cX9_route 5 = .ok (.iaload, 1) := by decide +kernel
theorem dX9_route_6 : decode cX9_route 6 = .ok (.aload_n 0, 1) := by decide +kernel
theorem dX9_route_7 : decode cX9_route 7 = .ok (.getfield 22, 3) := by decide +kernel
theorem dX9_route_10 : decode cX9_route 10 = .ok (.iload_n 1, 1) := by decide +kernel
theorem dX9_route_11 : decode cX9_route 11 = .ok (.iaload, 1) := by decide +kernel
theorem dX9_route_12 : decode cX9_route 12 = .ok (.invokestatic 35, 3) := by decide +kernel
theorem dX9_route_15 : decode cX9_route 15 = .ok (.istore_n 2, 1) := by decide +kernel
theorem dX9_route_16 : decode cX9_route 16 = .ok (.aload_n 0, 1) := by decide +kernel
theorem dX9_route_17 : decode cX9_route 17 = .ok (.getfield 19, 3) := by decide +kernel
theorem dX9_route_20 : decode cX9_route 20 = .ok (.iload_n 1, 1) := by decide +kernel
theorem dX9_route_21 : decode cX9_route 21 = .ok (.iaload, 1) := by decide +kernel
theorem dX9_route_22 : decode cX9_route 22 = .ok (.aload_n 0, 1) := by decide +kernel
theorem dX9_route_23 : decode cX9_route 23 = .ok (.getfield 22, 3) := by decide +kernel
theorem dX9_route_26 : decode cX9_route 26 = .ok (.iload_n 1, 1) := by decide +kernel
theorem dX9_route_27 : decode cX9_route 27 = .ok (.iaload, 1) := by decide +kernel
theorem dX9_route_28 : decode cX9_route 28 = .ok (.invokestatic 41, 3) := by decide +kernel
theorem dX9_route_31 : decode cX9_route 31 = .ok (.istore_n 3, 1) := by decide +kernel
theorem dX9_route_32 : decode cX9_route 32 = .ok (.iconst 1, 1) := by decide +kernel
theorem dX9_route_33 : decode cX9_route 33 = .ok (.iload_n 3, 1) := by decide +kernel
theorem dX9_route_34 : decode cX9_route 34 = .ok (.ishl, 1) := by decide +kernel
theorem dX9_route_35 : decode cX9_route 35 = .ok (.iconst 1, 1) := by decide +kernel
theorem dX9_route_36 : decode cX9_route 36 = .ok (.iload_n 2, 1) := by decide +kernel
theorem dX9_route_37 : decode cX9_route 37 = .ok (.ishl, 1) := by decide +kernel
theorem dX9_route_38 : decode cX9_route 38 = .ok (.isub, 1) := by decide +kernel
theorem dX9_route_39 : decode cX9_route 39 = .ok (.ireturn, 1) := by decide +kernel
theorem dX9_tell_0 : decode cX9_tell 0 = .ok (.iload_n 2, 1) := by decide +kernel
theorem dX9_tell_1 : decode cX9_tell 1 = .ok (.tableswitch 70 0 4 #[35, 42, 49, 56, 63], 35) := by decide +kernel
theorem dX9_tell_36 : decode cX9_tell 36 = .ok (.aload_n 0, 1) := by decide +kernel
theorem dX9_tell_37 : decode cX9_tell 37 = .ok (.getfield 15, 3) := by decide +kernel
theorem dX9_tell_40 : decode cX9_tell 40 = .ok (.iload_n 1, 1) := by decide +kernel
theorem dX9_tell_41 : decode cX9_tell 41 = .ok (.iaload, 1) := by decide +kernel
theorem dX9_tell_42 : decode cX9_tell 42 = .ok (.ireturn, 1) := by decide +kernel
theorem dX9_tell_43 : decode cX9_tell 43 = .ok (.aload_n 0, 1) := by decide +kernel
theorem dX9_tell_44 : decode cX9_tell 44 = .ok (.getfield 19, 3) := by decide +kernel
theorem dX9_tell_47 : decode cX9_tell 47 = .ok (.iload_n 1, 1) := by decide +kernel
theorem dX9_tell_48 : decode cX9_tell 48 = .ok (.iaload, 1) := by decide +kernel
theorem dX9_tell_49 : decode cX9_tell 49 = .ok (.ireturn, 1) := by decide +kernel
theorem dX9_tell_50 : decode cX9_tell 50 = .ok (.aload_n 0, 1) := by decide +kernel
theorem dX9_tell_51 : decode cX9_tell 51 = .ok (.getfield 22, 3) := by decide +kernel
theorem dX9_tell_54 : decode cX9_tell 54 = .ok (.iload_n 1, 1) := by decide +kernel
theorem dX9_tell_55 : decode cX9_tell 55 = .ok (.iaload, 1) := by decide +kernel
theorem dX9_tell_56 : decode cX9_tell 56 = .ok (.ireturn, 1) := by decide +kernel
theorem dX9_tell_57 : decode cX9_tell 57 = .ok (.aload_n 0, 1) := by decide +kernel
theorem dX9_tell_58 : decode cX9_tell 58 = .ok (.getfield 25, 3) := by decide +kernel
theorem dX9_tell_61 : decode cX9_tell 61 = .ok (.iload_n 1, 1) := by decide +kernel
theorem dX9_tell_62 : decode cX9_tell 62 = .ok (.iaload, 1) := by decide +kernel
theorem dX9_tell_63 : decode cX9_tell 63 = .ok (.ireturn, 1) := by decide +kernel
theorem dX9_tell_64 : decode cX9_tell 64 = .ok (.aload_n 0, 1) := by decide +kernel
theorem dX9_tell_65 : decode cX9_tell 65 = .ok (.getfield 28, 3) := by decide +kernel
theorem dX9_tell_68 : decode cX9_tell 68 = .ok (.iload_n 1, 1) := by decide +kernel
theorem dX9_tell_69 : decode cX9_tell 69 = .ok (.iaload, 1) := by decide +kernel
theorem dX9_tell_70 : decode cX9_tell 70 = .ok (.ireturn, 1) := by decide +kernel
theorem dX9_tell_71 : decode cX9_tell 71 = .ok (.aload_n 0, 1) := by decide +kernel
theorem dX9_tell_72 : decode cX9_tell 72 = .ok (.iload_n 1, 1) := by decide +kernel
theorem dX9_tell_73 : decode cX9_tell 73 = .ok (.invokevirtual 31, 3) := by decide +kernel
theorem dX9_tell_76 : decode cX9_tell 76 = .ok (.ireturn, 1) := by decide +kernel
theorem dX9_useStationFrom_0 : decode cX9_useStationFrom 0 = .ok (.iconst 0, 1) := by decide +kernel
theorem dX9_useStationFrom_1 : decode cX9_useStationFrom 1 = .ok (.istore_n 2, 1) := by decide +kernel
theorem dX9_useStationFrom_2 : decode cX9_useStationFrom 2 = .ok (.iload_n 2, 1) := by decide +kernel
theorem dX9_useStationFrom_3 : decode cX9_useStationFrom 3 = .ok (.aload_n 0, 1) := by decide +kernel
theorem dX9_useStationFrom_4 : decode cX9_useStationFrom 4 = .ok (.getfield 9, 3) := by decide +kernel
theorem dX9_useStationFrom_7 : decode cX9_useStationFrom 7 = .ok (.if_icmp .ge 31, 3) := by decide +kernel
theorem dX9_useStationFrom_10 : decode cX9_useStationFrom 10 = .ok (.aload_n 0, 1) := by decide +kernel
theorem dX9_useStationFrom_11 : decode cX9_useStationFrom 11 = .ok (.getfield 19, 3) := by decide +kernel
theorem dX9_useStationFrom_14 : decode cX9_useStationFrom 14 = .ok (.iload_n 2, 1) := by decide +kernel
theorem dX9_useStationFrom_15 : decode cX9_useStationFrom 15 = .ok (.iaload, 1) := by decide +kernel
theorem dX9_useStationFrom_16 : decode cX9_useStationFrom 16 = .ok (.iload_n 1, 1) := by decide +kernel
theorem dX9_useStationFrom_17 : decode cX9_useStationFrom 17 = .ok (.if_icmp .ge 13, 3) := by decide +kernel
theorem dX9_useStationFrom_20 : decode cX9_useStationFrom 20 = .ok (.aload_n 0, 1) := by decide +kernel
theorem dX9_useStationFrom_21 : decode cX9_useStationFrom 21 = .ok (.getfield 22, 3) := by decide +kernel
theorem dX9_useStationFrom_24 : decode cX9_useStationFrom 24 = .ok (.iload_n 2, 1) := by decide +kernel
theorem dX9_useStationFrom_25 : decode cX9_useStationFrom 25 = .ok (.iaload, 1) := by decide +kernel
theorem dX9_useStationFrom_26 : decode cX9_useStationFrom 26 = .ok (.iload_n 1, 1) := by decide +kernel
theorem dX9_useStationFrom_27 : decode cX9_useStationFrom 27 = .ok (.if_icmp .lt 5, 3) := by decide +kernel
theorem dX9_useStationFrom_30 : decode cX9_useStationFrom 30 = .ok (.iconst 1, 1) := by decide +kernel
theorem dX9_useStationFrom_31 : decode cX9_useStationFrom 31 = .ok (.ireturn, 1) := by decide +kernel
theorem dX9_useStationFrom_32 : decode cX9_useStationFrom 32 = .ok (.iinc 2 1, 3) := by decide +kernel
theorem dX9_useStationFrom_35 : decode cX9_useStationFrom 35 = .ok (.goto (-33), 3) := by decide +kernel
theorem dX9_useStationFrom_38 : decode cX9_useStationFrom 38 = .ok (.iconst 0, 1) := by decide +kernel
theorem dX9_useStationFrom_39 : decode cX9_useStationFrom 39 = .ok (.ireturn, 1) := by decide +kernel
theorem dX9_takeFrom_0 : decode cX9_takeFrom 0 = .ok (.aload_n 0, 1) := by decide +kernel
theorem dX9_takeFrom_1 : decode cX9_takeFrom 1 = .ok (.aload_n 1, 1) := by decide +kernel
theorem dX9_takeFrom_2 : decode cX9_takeFrom 2 = .ok (.getfield 9, 3) := by decide +kernel
theorem dX9_takeFrom_5 : decode cX9_takeFrom 5 = .ok (.putfield 9, 3) := by decide +kernel
theorem dX9_takeFrom_8 : decode cX9_takeFrom 8 = .ok (.aload_n 1, 1) := by decide +kernel
theorem dX9_takeFrom_9 : decode cX9_takeFrom 9 = .ok (.getfield 15, 3) := by decide +kernel
theorem dX9_takeFrom_12 : decode cX9_takeFrom 12 = .ok (.iconst 0, 1) := by decide +kernel
theorem dX9_takeFrom_13 : decode cX9_takeFrom 13 = .ok (.aload_n 0, 1) := by decide +kernel
theorem dX9_takeFrom_14 : decode cX9_takeFrom 14 = .ok (.getfield 15, 3) := by decide +kernel
theorem dX9_takeFrom_17 : decode cX9_takeFrom 17 = .ok (.iconst 0, 1) := by decide +kernel
theorem dX9_takeFrom_18 : decode cX9_takeFrom 18 = .ok (.aload_n 0, 1) := by decide +kernel
theorem dX9_takeFrom_19 : decode cX9_takeFrom 19 = .ok (.getfield 15, 3) := by decide +kernel
theorem dX9_takeFrom_22 : decode cX9_takeFrom 22 = .ok (.arraylength, 1) := by decide +kernel
theorem dX9_takeFrom_23 : decode cX9_takeFrom 23 = .ok (.invokestatic 50, 3) := by decide +kernel
theorem dX9_takeFrom_26 : decode cX9_takeFrom 26 = .ok (.aload_n 1, 1) := by decide +kernel
theorem dX9_takeFrom_27 : decode cX9_takeFrom 27 = .ok (.getfield 19, 3) := by decide +kernel
theorem dX9_takeFrom_30 : decode cX9_takeFrom 30 = .ok (.iconst 0, 1) := by decide +kernel
theorem dX9_takeFrom_31 : decode cX9_takeFrom 31 = .ok (.aload_n 0, 1) := by decide +kernel
theorem dX9_takeFrom_32 : decode cX9_takeFrom 32 = .ok (.getfield 19, 3) := by decide +kernel
theorem dX9_takeFrom_35 : decode cX9_takeFrom 35 = .ok (.iconst 0, 1) := by decide +kernel
theorem dX9_takeFrom_36 : decode cX9_takeFrom 36 = .ok (.aload_n 0, 1) := by decide +kernel
theorem dX9_takeFrom_37 : decode cX9_takeFrom 37 = .ok (.getfield 19, 3) := by decide +kernel
theorem dX9_takeFrom_40 : decode cX9_takeFrom 40 = .ok (.arraylength, 1) := by decide +kernel
theorem dX9_takeFrom_41 : decode cX9_takeFrom 41 = .ok (.invokestatic 50, 3) := by decide +kernel
theorem dX9_takeFrom_44 : decode cX9_takeFrom 44 = .ok (.aload_n 1, 1) := by decide +kernel
theorem dX9_takeFrom_45 : decode cX9_takeFrom 45 = .ok (.getfield 22, 3) := by decide +kernel
theorem dX9_takeFrom_48 : decode cX9_takeFrom 48 = .ok (.iconst 0, 1) := by decide +kernel
theorem dX9_takeFrom_49 : decode cX9_takeFrom 49 = .ok (.aload_n 0, 1) := by decide +kernel
theorem dX9_takeFrom_50 : decode cX9_takeFrom 50 = .ok (.getfield 22, 3) := by decide +kernel
theorem dX9_takeFrom_53 : decode cX9_takeFrom 53 = .ok (.iconst 0, 1) := by decide +kernel
theorem dX9_takeFrom_54 : decode cX9_takeFrom 54 = .ok (.aload_n 0, 1) := by decide +kernel
theorem dX9_takeFrom_55 : decode cX9_takeFrom 55 = .ok (.getfield 22, 3) := by decide +kernel
theorem dX9_takeFrom_58 : decode cX9_takeFrom 58 = .ok (.arraylength, 1) := by decide +kernel
theorem dX9_takeFrom_59 : decode cX9_takeFrom 59 = .ok (.invokestatic 50, 3) := by decide +kernel
theorem dX9_takeFrom_62 : decode cX9_takeFrom 62 = .ok (.aload_n 1, 1) := by decide +kernel
theorem dX9_takeFrom_63 : decode cX9_takeFrom 63 = .ok (.getfield 25, 3) := by decide +kernel
theorem dX9_takeFrom_66 : decode cX9_takeFrom 66 = .ok (.iconst 0, 1) := by decide +kernel
theorem dX9_takeFrom_67 : decode cX9_takeFrom 67 = .ok (.aload_n 0, 1) := by decide +kernel
theorem dX9_takeFrom_68 : decode cX9_takeFrom 68 = .ok (.getfield 25, 3) := by decide +kernel
theorem dX9_takeFrom_71 : decode cX9_takeFrom 71 = .ok (.iconst 0, 1) := by decide +kernel
theorem dX9_takeFrom_72 : decode cX9_takeFrom 72 = .ok (.aload_n 0, 1) := by decide +kernel
theorem dX9_takeFrom_73 : decode cX9_takeFrom 73 = .ok (.getfield 25, 3) := by decide +kernel
theorem dX9_takeFrom_76 : decode cX9_takeFrom 76 = .ok (.arraylength, 1) := by decide +kernel
theorem dX9_takeFrom_77 : decode cX9_takeFrom 77 = .ok (.invokestatic 50, 3) := by decide +kernel
theorem dX9_takeFrom_80 : decode cX9_takeFrom 80 = .ok (.aload_n 1, 1) := by decide +kernel
theorem dX9_takeFrom_81 : decode cX9_takeFrom 81 = .ok (.getfield 28, 3) := by decide +kernel
theorem dX9_takeFrom_84 : decode cX9_takeFrom 84 = .ok (.iconst 0, 1) := by decide +kernel
theorem dX9_takeFrom_85 : decode cX9_takeFrom 85 = .ok (.aload_n 0, 1) := by decide +kernel
theorem dX9_takeFrom_86 : decode cX9_takeFrom 86 = .ok (.getfield 28, 3) := by decide +kernel
theorem dX9_takeFrom_89 : decode cX9_takeFrom 89 = .ok (.iconst 0, 1) := by decide +kernel
theorem dX9_takeFrom_90 : decode cX9_takeFrom 90 = .ok (.aload_n 0, 1) := by decide +kernel
theorem dX9_takeFrom_91 : decode cX9_takeFrom 91 = .ok (.getfield 28, 3) := by decide +kernel
theorem dX9_takeFrom_94 : decode cX9_takeFrom 94 = .ok (.arraylength, 1) := by decide +kernel
theorem dX9_takeFrom_95 : decode cX9_takeFrom 95 = .ok (.invokestatic 50, 3) := by decide +kernel
theorem dX9_takeFrom_98 : decode cX9_takeFrom 98 = .ok (.return_, 1) := by decide +kernel
theorem dX10_init_0 : decode cX10_init 0 = .ok (.aload_n 0, 1) := by decide +kernel
theorem dX10_init_1 : decode cX10_init 1 = .ok (.invokespecial 3, 3) := by decide +kernel
theorem dX10_init_4 : decode cX10_init 4 = .ok (.aload_n 0, 1) := by decide +kernel
theorem dX10_init_5 : decode cX10_init 5 = .ok (.new 9, 3) := by decide +kernel
theorem dX10_init_8 : decode cX10_init 8 = .ok (.dup, 1) := by decide +kernel
theorem dX10_init_9 : decode cX10_init 9 = .ok (.invokespecial 11, 3) := by decide +kernel
theorem dX10_init_12 : decode cX10_init 12 = .ok (.putfield 12, 3) := by decide +kernel
theorem dX10_init_15 : decode cX10_init 15 = .ok (.aload_n 0, 1) := by decide +kernel
theorem dX10_init_16 : decode cX10_init 16 = .ok (.aload_n 0, 1) := by decide +kernel
theorem dX10_init_17 : decode cX10_init 17 = .ok (.getfield 12, 3) := by decide +kernel
theorem dX10_init_20 : decode cX10_init 20 = .ok (.getfield 16, 3) := by decide +kernel
theorem dX10_init_23 : decode cX10_init 23 = .ok (.putfield 20, 3) := by decide +kernel
theorem dX10_init_26 : decode cX10_init 26 = .ok (.aload_n 0, 1) := by decide +kernel
theorem dX10_init_27 : decode cX10_init 27 = .ok (.aload_n 0, 1) := by decide +kernel
theorem dX10_init_28 : decode cX10_init 28 = .ok (.getfield 20, 3) := by decide +kernel
theorem dX10_init_31 : decode cX10_init 31 = .ok (.getfield 21, 3) := by decide +kernel
theorem dX10_init_34 : decode cX10_init 34 = .ok (.putfield 27, 3) := by decide +kernel
theorem dX10_init_37 : decode cX10_init 37 = .ok (.aload_n 0, 1) := by decide +kernel
theorem dX10_init_38 : decode cX10_init 38 = .ok (.new 28, 3) := by decide +kernel
theorem dX10_init_41 : decode cX10_init 41 = .ok (.dup, 1) := by decide +kernel
theorem dX10_init_42 : decode cX10_init 42 = .ok (.invokespecial 30, 3) := by decide +kernel
theorem dX10_init_45 : decode cX10_init 45 = .ok (.putfield 31, 3) := by decide +kernel
theorem dX10_init_48 : decode cX10_init 48 = .ok (.aload_n 0, 1) := by decide +kernel
theorem dX10_init_49 : decode cX10_init 49 = .ok (.iconst 4, 1) := by decide +kernel
theorem dX10_init_50 : decode cX10_init 50 = .ok (.anewarray 35, 3) := by decide +kernel
theorem dX10_init_53 : decode cX10_init 53 = .ok (.putfield 37, 3) := by decide +kernel
theorem dX10_init_56 : decode cX10_init 56 = .ok (.aload_n 0, 1) := by decide +kernel
theorem dX10_init_57 : decode cX10_init 57 = .ok (.iconst 0, 1) := by decide +kernel
theorem dX10_init_58 : decode cX10_init 58 = .ok (.putfield 41, 3) := by decide +kernel
theorem dX10_init_61 : decode cX10_init 61 = .ok (.iconst 0, 1) := by decide +kernel
theorem dX10_init_62 : decode cX10_init 62 = .ok (.istore_n 1, 1) := by decide +kernel
theorem dX10_init_63 : decode cX10_init 63 = .ok (.iload_n 1, 1) := by decide +kernel
theorem dX10_init_64 : decode cX10_init 64 = .ok (.iconst 4, 1) := by decide +kernel
theorem dX10_init_65 : decode cX10_init 65 = .ok (.if_icmp .ge 22, 3) := by decide +kernel
theorem dX10_init_68 : decode cX10_init 68 = .ok (.aload_n 0, 1) := by decide +kernel
theorem dX10_init_69 : decode cX10_init 69 = .ok (.getfield 37, 3) := by decide +kernel
theorem dX10_init_72 : decode cX10_init 72 = .ok (.iload_n 1, 1) := by decide +kernel
theorem dX10_init_73 : decode cX10_init 73 = .ok (.new 35, 3) := by decide +kernel
theorem dX10_init_76 : decode cX10_init 76 = .ok (.dup, 1) := by decide +kernel
theorem dX10_init_77 : decode cX10_init 77 = .ok (.invokespecial 45, 3) := by decide +kernel
theorem dX10_init_80 : decode cX10_init 80 = .ok (.aastore, 1) := by decide +kernel
theorem dX10_init_81 : decode cX10_init 81 = .ok (.iinc 1 1, 3) := by decide +kernel
theorem dX10_init_84 : decode cX10_init 84 = .ok (.goto (-21), 3) := by decide +kernel
theorem dX10_init_87 : decode cX10_init 87 = .ok (.return_, 1) := by decide +kernel
theorem dX10_stations_0 : decode cX10_stations 0 = .ok (.iload_n 1, 1) := by decide +kernel
theorem dX10_stations_1 : decode cX10_stations 1 = .ok (.iconst 2, 1) := by decide +kernel
theorem dX10_stations_2 : decode cX10_stations 2 = .ok (.bipush 7, 2) := by decide +kernel
theorem dX10_stations_4 : decode cX10_stations 4 = .ok (.invokestatic 46, 3) := by decide +kernel
theorem dX10_stations_7 : decode cX10_stations 7 = .ok (.ifCond .ne 10, 3) := by decide +kernel
theorem dX10_stations_10 : decode cX10_stations 10 = .ok (.aload_n 0, 1) := by decide +kernel
theorem dX10_stations_11 : decode cX10_stations 11 = .ok (.ldc 50, 2) := by decide +kernel
theorem dX10_stations_13 : decode cX10_stations 13 = .ok (.invokevirtual 51, 3) := by decide +kernel
theorem dX10_stations_16 : decode cX10_stations 16 = .ok (.ireturn, 1) := by decide +kernel
theorem dX10_stations_17 : decode cX10_stations 17 = .ok (.aload_n 0, 1) := by decide +kernel
theorem dX10_stations_18 : decode cX10_stations 18 = .ok (.getfield 27, 3) := by decide +kernel
theorem dX10_stations_21 : decode cX10_stations 21 = .ok (.iload_n 1, 1) := by decide +kernel
theorem dX10_stations_22 : decode cX10_stations 22 = .ok (.invokevirtual 55, 3) := by decide +kernel
theorem dX10_stations_25 : decode cX10_stations 25 = .ok (.ifCond .eq 10, 3) := by decide +kernel
theorem dX10_stations_28 : decode cX10_stations 28 = .ok (.aload_n 0, 1) := by decide +kernel
theorem dX10_stations_29 : decode cX10_stations 29 = .ok (.ldc 61, 2) := by decide +kernel
theorem dX10_stations_31 : decode cX10_stations 31 = .ok (.invokevirtual 51, 3) := by decide +kernel
theorem dX10_stations_34 : decode cX10_stations 34 = .ok (.ireturn, 1) := by decide +kernel
theorem dX10_stations_35 : decode cX10_stations 35 = .ok (.aload_n 0, 1) := by decide +kernel
theorem dX10_stations_36 : decode cX10_stations 36 = .ok (.invokevirtual 62, 3) := by decide +kernel
theorem dX10_stations_39 : decode cX10_stations 39 = .ok (.aload_n 0, 1) := by decide +kernel
theorem dX10_stations_40 : decode cX10_stations 40 = .ok (.getfield 27, 3) := by decide +kernel
theorem dX10_stations_43 : decode cX10_stations 43 = .ok (.getfield 65, 3) := by decide +kernel
theorem dX10_stations_46 : decode cX10_stations 46 = .ok (.getfield 69, 3) := by decide +kernel
theorem dX10_stations_49 : decode cX10_stations 49 = .ok (.istore_n 2, 1) := by decide +kernel
theorem dX10_stations_50 : decode cX10_stations 50 = .ok (.aload_n 0, 1) := by decide +kernel
theorem dX10_stations_51 : decode cX10_stations 51 = .ok (.getfield 27, 3) := by decide +kernel
theorem dX10_stations_54 : decode cX10_stations 54 = .ok (.getfield 65, 3) := by decide +kernel
theorem dX10_stations_57 : decode cX10_stations 57 = .ok (.iload_n 1, 1) := by decide +kernel
theorem dX10_stations_58 : decode cX10_stations 58 = .ok (.putfield 69, 3) := by decide +kernel
theorem dX10_stations_61 : decode cX10_stations 61 = .ok (.iload_n 2, 1) := by decide +kernel
theorem dX10_stations_62 : decode cX10_stations 62 = .ok (.ireturn, 1) := by decide +kernel
theorem dX10_siding_0 : decode cX10_siding 0 = .ok (.aload_n 0, 1) := by decide +kernel
theorem dX10_siding_1 : decode cX10_siding 1 = .ok (.getfield 27, 3) := by decide +kernel
theorem dX10_siding_4 : decode cX10_siding 4 = .ok (.getfield 65, 3) := by decide +kernel
theorem dX10_siding_7 : decode cX10_siding 7 = .ok (.iload_n 1, 1) := by decide +kernel

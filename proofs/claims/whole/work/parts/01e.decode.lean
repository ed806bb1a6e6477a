theorem dX11_kindOf_6 : decode cX11_kindOf 6 = .ok (.iconst 5, 1) := by decide +kernel
theorem dX11_kindOf_7 : decode cX11_kindOf 7 = .ok (.iload_n 1, 1) := by decide +kernel
theorem dX11_kindOf_8 : decode cX11_kindOf 8 = .ok (.imul, 1) := by decide +kernel
theorem dX11_kindOf_9 : decode cX11_kindOf 9 = .ok (.iadd, 1) := by decide +kernel
theorem dX11_kindOf_10 : decode cX11_kindOf 10 = .ok (.iaload, 1) := by decide +kernel
theorem dX11_kindOf_11 : decode cX11_kindOf 11 = .ok (.ireturn, 1) := by decide +kernel
theorem dX11_fromOf_0 : decode cX11_fromOf 0 = .ok (.aload_n 0, 1) := by decide +kernel
theorem dX11_fromOf_1 : decode cX11_fromOf 1 = .ok (.getfield 7, 3) := by decide +kernel
theorem dX11_fromOf_4 : decode cX11_fromOf 4 = .ok (.bipush 15, 2) := by decide +kernel
theorem dX11_fromOf_6 : decode cX11_fromOf 6 = .ok (.iconst 5, 1) := by decide +kernel
theorem dX11_fromOf_7 : decode cX11_fromOf 7 = .ok (.iload_n 1, 1) := by decide +kernel
theorem dX11_fromOf_8 : decode cX11_fromOf 8 = .ok (.imul, 1) := by decide +kernel
theorem dX11_fromOf_9 : decode cX11_fromOf 9 = .ok (.iadd, 1) := by decide +kernel
theorem dX11_fromOf_10 : decode cX11_fromOf 10 = .ok (.iconst 1, 1) := by decide +kernel
theorem dX11_fromOf_11 : decode cX11_fromOf 11 = .ok (.iadd, 1) := by decide +kernel
theorem dX11_fromOf_12 : decode cX11_fromOf 12 = .ok (.iaload, 1) := by decide +kernel
theorem dX11_fromOf_13 : decode cX11_fromOf 13 = .ok (.ireturn, 1) := by decide +kernel
theorem dX11_toOf_0 : decode cX11_toOf 0 = .ok (.aload_n 0, 1) := by decide +kernel
theorem dX11_toOf_1 : decode cX11_toOf 1 = .ok (.getfield 7, 3) := by decide +kernel
theorem dX11_toOf_4 : decode cX11_toOf 4 = .ok (.bipush 15, 2) := by decide +kernel
theorem dX11_toOf_6 : decode cX11_toOf 6 = .ok (.iconst 5, 1) := by decide +kernel
theorem dX11_toOf_7 : decode cX11_toOf 7 = .ok (.iload_n 1, 1) := by decide +kernel
theorem dX11_toOf_8 : decode cX11_toOf 8 = .ok (.imul, 1) := by decide +kernel
theorem dX11_toOf_9 : decode cX11_toOf 9 = .ok (.iadd, 1) := by decide +kernel
theorem dX11_toOf_10 : decode cX11_toOf 10 = .ok (.iconst 2, 1) := by decide +kernel
theorem dX11_toOf_11 : decode cX11_toOf 11 = .ok (.iadd, 1) := by decide +kernel
theorem dX11_toOf_12 : decode cX11_toOf 12 = .ok (.iaload, 1) := by decide +kernel
theorem dX11_toOf_13 : decode cX11_toOf 13 = .ok (.ireturn, 1) := by decide +kernel
theorem dX11_timeOf_0 : decode cX11_timeOf 0 = .ok (.aload_n 0, 1) := by decide +kernel
theorem dX11_timeOf_1 : decode cX11_timeOf 1 = .ok (.getfield 7, 3) := by decide +kernel
theorem dX11_timeOf_4 : decode cX11_timeOf 4 = .ok (.bipush 15, 2) := by decide +kernel
theorem dX11_timeOf_6 : decode cX11_timeOf 6 = .ok (.iconst 5, 1) := by decide +kernel
theorem dX11_timeOf_7 : decode cX11_timeOf 7 = .ok (.iload_n 1, 1) := by decide +kernel
theorem dX11_timeOf_8 : decode cX11_timeOf 8 = .ok (.imul, 1) := by decide +kernel
theorem dX11_timeOf_9 : decode cX11_timeOf 9 = .ok (.iadd, 1) := by decide +kernel
theorem dX11_timeOf_10 : decode cX11_timeOf 10 = .ok (.iconst 4, 1) := by decide +kernel
theorem dX11_timeOf_11 : decode cX11_timeOf 11 = .ok (.iadd, 1) := by decide +kernel
theorem dX11_timeOf_12 : decode cX11_timeOf 12 = .ok (.iaload, 1) := by decide +kernel
theorem dX11_timeOf_13 : decode cX11_timeOf 13 = .ok (.ireturn, 1) := by decide +kernel
theorem dX11_wayOf_0 : decode cX11_wayOf 0 = .ok (.aload_n 0, 1) := by decide +kernel
theorem dX11_wayOf_1 : decode cX11_wayOf 1 = .ok (.iload_n 1, 1) := by decide +kernel
theorem dX11_wayOf_2 : decode cX11_wayOf 2 = .ok (.invokevirtual 112, 3) := by decide +kernel
theorem dX11_wayOf_5 : decode cX11_wayOf 5 = .ok (.aload_n 0, 1) := by decide +kernel
theorem dX11_wayOf_6 : decode cX11_wayOf 6 = .ok (.iload_n 1, 1) := by decide +kernel
theorem dX11_wayOf_7 : decode cX11_wayOf 7 = .ok (.invokevirtual 115, 3) := by decide +kernel
theorem dX11_wayOf_10 : decode cX11_wayOf 10 = .ok (.if_icmp .le 7, 3) := by decide +kernel
theorem dX11_wayOf_13 : decode cX11_wayOf 13 = .ok (.iconst 0, 1) := by decide +kernel
theorem dX11_wayOf_14 : decode cX11_wayOf 14 = .ok (.goto 4, 3) := by decide +kernel
theorem dX11_wayOf_17 : decode cX11_wayOf 17 = .ok (.iconst 1, 1) := by decide +kernel
theorem dX11_wayOf_18 : decode cX11_wayOf 18 = .ok (.ireturn, 1) := by decide +kernel
theorem dX11_stations_0 : decode cX11_stations 0 = .ok (.iload_n 1, 1) := by decide +kernel
theorem dX11_stations_1 : decode cX11_stations 1 = .ok (.iconst 2, 1) := by decide +kernel
theorem dX11_stations_2 : decode cX11_stations 2 = .ok (.bipush 7, 2) := by decide +kernel
theorem dX11_stations_4 : decode cX11_stations 4 = .ok (.invokestatic 108, 3) := by decide +kernel
theorem dX11_stations_7 : decode cX11_stations 7 = .ok (.ifCond .ne 10, 3) := by decide +kernel
theorem dX11_stations_10 : decode cX11_stations 10 = .ok (.aload_n 0, 1) := by decide +kernel
theorem dX11_stations_11 : decode cX11_stations 11 = .ok (.ldc 118, 2) := by decide +kernel
theorem dX11_stations_13 : decode cX11_stations 13 = .ok (.invokevirtual 101, 3) := by decide +kernel
theorem dX11_stations_16 : decode cX11_stations 16 = .ok (.ireturn, 1) := by decide +kernel
theorem dX11_stations_17 : decode cX11_stations 17 = .ok (.iconst 0, 1) := by decide +kernel
theorem dX11_stations_18 : decode cX11_stations 18 = .ok (.istore_n 2, 1) := by decide +kernel
theorem dX11_stations_19 : decode cX11_stations 19 = .ok (.iload_n 2, 1) := by decide +kernel
theorem dX11_stations_20 : decode cX11_stations 20 = .ok (.aload_n 0, 1) := by decide +kernel
theorem dX11_stations_21 : decode cX11_stations 21 = .ok (.getfield 7, 3) := by decide +kernel
theorem dX11_stations_24 : decode cX11_stations 24 = .ok (.bipush 14, 2) := by decide +kernel
theorem dX11_stations_26 : decode cX11_stations 26 = .ok (.iaload, 1) := by decide +kernel
theorem dX11_stations_27 : decode cX11_stations 27 = .ok (.if_icmp .ge 34, 3) := by decide +kernel
theorem dX11_stations_30 : decode cX11_stations 30 = .ok (.aload_n 0, 1) := by decide +kernel
theorem dX11_stations_31 : decode cX11_stations 31 = .ok (.iload_n 2, 1) := by decide +kernel
theorem dX11_stations_32 : decode cX11_stations 32 = .ok (.invokevirtual 115, 3) := by decide +kernel
theorem dX11_stations_35 : decode cX11_stations 35 = .ok (.iload_n 1, 1) := by decide +kernel
theorem dX11_stations_36 : decode cX11_stations 36 = .ok (.if_icmp .ge 12, 3) := by decide +kernel
theorem dX11_stations_39 : decode cX11_stations 39 = .ok (.aload_n 0, 1) := by decide +kernel
theorem dX11_stations_40 : decode cX11_stations 40 = .ok (.iload_n 2, 1) := by decide +kernel
theorem dX11_stations_41 : decode cX11_stations 41 = .ok (.invokevirtual 112, 3) := by decide +kernel
theorem dX11_stations_44 : decode cX11_stations 44 = .ok (.iload_n 1, 1) := by decide +kernel
theorem dX11_stations_45 : decode cX11_stations 45 = .ok (.if_icmp .lt 10, 3) := by decide +kernel
theorem dX11_stations_48 : decode cX11_stations 48 = .ok (.aload_n 0, 1) := by decide +kernel
theorem dX11_stations_49 : decode cX11_stations 49 = .ok (.ldc 119, 2) := by decide +kernel
theorem dX11_stations_51 : decode cX11_stations 51 = .ok (.invokevirtual 101, 3) := by decide +kernel
theorem dX11_stations_54 : decode cX11_stations 54 = .ok (.ireturn, 1) := by decide +kernel
theorem dX11_stations_55 : decode cX11_stations 55 = .ok (.iinc 2 1, 3) := by decide +kernel
theorem dX11_stations_58 : decode cX11_stations 58 = .ok (.goto (-39), 3) := by decide +kernel
theorem dX11_stations_61 : decode cX11_stations 61 = .ok (.iconst 0, 1) := by decide +kernel
theorem dX11_stations_62 : decode cX11_stations 62 = .ok (.istore_n 2, 1) := by decide +kernel
theorem dX11_stations_63 : decode cX11_stations 63 = .ok (.iload_n 2, 1) := by decide +kernel
theorem dX11_stations_64 : decode cX11_stations 64 = .ok (.aload_n 0, 1) := by decide +kernel
theorem dX11_stations_65 : decode cX11_stations 65 = .ok (.getfield 7, 3) := by decide +kernel
theorem dX11_stations_68 : decode cX11_stations 68 = .ok (.bipush 40, 2) := by decide +kernel
theorem dX11_stations_70 : decode cX11_stations 70 = .ok (.iaload, 1) := by decide +kernel
theorem dX11_stations_71 : decode cX11_stations 71 = .ok (.if_icmp .ge 25, 3) := by decide +kernel
theorem dX11_stations_74 : decode cX11_stations 74 = .ok (.aload_n 0, 1) := by decide +kernel
theorem dX11_stations_75 : decode cX11_stations 75 = .ok (.iload_n 2, 1) := by decide +kernel
theorem dX11_stations_76 : decode cX11_stations 76 = .ok (.invokevirtual 120, 3) := by decide +kernel
theorem dX11_stations_79 : decode cX11_stations 79 = .ok (.iload_n 1, 1) := by decide +kernel
theorem dX11_stations_80 : decode cX11_stations 80 = .ok (.if_icmp .lt 10, 3) := by decide +kernel
theorem dX11_stations_83 : decode cX11_stations 83 = .ok (.aload_n 0, 1) := by decide +kernel
theorem dX11_stations_84 : decode cX11_stations 84 = .ok (.ldc 119, 2) := by decide +kernel
theorem dX11_stations_86 : decode cX11_stations 86 = .ok (.invokevirtual 101, 3) := by decide +kernel
theorem dX11_stations_89 : decode cX11_stations 89 = .ok (.ireturn, 1) := by decide +kernel
theorem dX11_stations_90 : decode cX11_stations 90 = .ok (.iinc 2 1, 3) := by decide +kernel
theorem dX11_stations_93 : decode cX11_stations 93 = .ok (.goto (-30), 3) := by decide +kernel
theorem dX11_stations_96 : decode cX11_stations 96 = .ok (.aload_n 0, 1) := by decide +kernel
theorem dX11_stations_97 : decode cX11_stations 97 = .ok (.iconst 0, 1) := by decide +kernel
theorem dX11_stations_98 : decode cX11_stations 98 = .ok (.iload_n 1, 1) := by decide +kernel
theorem dX11_stations_99 : decode cX11_stations 99 = .ok (.invokevirtual 123, 3) := by decide +kernel
theorem dX11_stations_102 : decode cX11_stations 102 = .ok (.ireturn, 1) := by decide +kernel
theorem dX11_siding_0 : decode cX11_siding 0 = .ok (.aload_n 0, 1) := by decide +kernel
theorem dX11_siding_1 : decode cX11_siding 1 = .ok (.iload_n 1, 1) := by decide +kernel
theorem dX11_siding_2 : decode cX11_siding 2 = .ok (.invokevirtual 127, 3) := by decide +kernel
theorem dX11_siding_5 : decode cX11_siding 5 = .ok (.ifCond .eq 24, 3) := by decide +kernel
theorem dX11_siding_8 : decode cX11_siding 8 = .ok (.iload_n 2, 1) := by decide +kernel
theorem dX11_siding_9 : decode cX11_siding 9 = .ok (.iconst 0, 1) := by decide +kernel
theorem dX11_siding_10 : decode cX11_siding 10 = .ok (.bipush 30, 2) := by decide +kernel
theorem dX11_siding_12 : decode cX11_siding 12 = .ok (.invokestatic 108, 3) := by decide +kernel
theorem dX11_siding_15 : decode cX11_siding 15 = .ok (.ifCond .eq 14, 3) := by decide +kernel
theorem dX11_siding_18 : decode cX11_siding 18 = .ok (.aload_n 0, 1) := by decide +kernel
theorem dX11_siding_19 : decode cX11_siding 19 = .ok (.iconst 1, 1) := by decide +kernel
theorem dX11_siding_20 : decode cX11_siding 20 = .ok (.iload_n 1, 1) := by decide +kernel
theorem dX11_siding_21 : decode cX11_siding 21 = .ok (.iadd, 1) := by decide +kernel
theorem dX11_siding_22 : decode cX11_siding 22 = .ok (.iload_n 2, 1) := by decide +kernel
theorem dX11_siding_23 : decode cX11_siding 23 = .ok (.invokevirtual 123, 3) := by decide +kernel
theorem dX11_siding_26 : decode cX11_siding 26 = .ok (.goto 9, 3) := by decide +kernel
theorem dX11_siding_29 : decode cX11_siding 29 = .ok (.aload_n 0, 1) := by decide +kernel
theorem dX11_siding_30 : decode cX11_siding 30 = .ok (.ldc 118, 2) := by decide +kernel
theorem dX11_siding_32 : decode cX11_siding 32 = .ok (.invokevirtual 101, 3) := by decide +kernel
theorem dX11_siding_35 : decode cX11_siding 35 = .ok (.ireturn, 1) := by decide +kernel
theorem dX11_section_0 : decode cX11_section 0 = .ok (.iload_n 1, 1) := by decide +kernel
theorem dX11_section_1 : decode cX11_section 1 = .ok (.iconst 0, 1) := by decide +kernel
theorem dX11_section_2 : decode cX11_section 2 = .ok (.aload_n 0, 1) := by decide +kernel
theorem dX11_section_3 : decode cX11_section 3 = .ok (.getfield 7, 3) := by decide +kernel
theorem dX11_section_6 : decode cX11_section 6 = .ok (.iconst 0, 1) := by decide +kernel
theorem dX11_section_7 : decode cX11_section 7 = .ok (.iaload, 1) := by decide +kernel
theorem dX11_section_8 : decode cX11_section 8 = .ok (.iconst 2, 1) := by decide +kernel
theorem dX11_section_9 : decode cX11_section 9 = .ok (.isub, 1) := by decide +kernel
theorem dX11_section_10 : decode cX11_section 10 = .ok (.invokestatic 108, 3) := by decide +kernel
theorem dX11_section_13 : decode cX11_section 13 = .ok (.ifCond .eq 25, 3) := by decide +kernel
theorem dX11_section_16 : decode cX11_section 16 = .ok (.iload_n 2, 1) := by decide +kernel
theorem dX11_section_17 : decode cX11_section 17 = .ok (.iconst 1, 1) := by decide +kernel
theorem dX11_section_18 : decode cX11_section 18 = .ok (.bipush 30, 2) := by decide +kernel
theorem dX11_section_20 : decode cX11_section 20 = .ok (.invokestatic 108, 3) := by decide +kernel
theorem dX11_section_23 : decode cX11_section 23 = .ok (.ifCond .eq 15, 3) := by decide +kernel
theorem dX11_section_26 : decode cX11_section 26 = .ok (.aload_n 0, 1) := by decide +kernel
theorem dX11_section_27 : decode cX11_section 27 = .ok (.bipush 8, 2) := by decide +kernel
theorem dX11_section_29 : decode cX11_section 29 = .ok (.iload_n 1, 1) := by decide +kernel
theorem dX11_section_30 : decode cX11_section 30 = .ok (.iadd, 1) := by decide +kernel
theorem dX11_section_31 : decode cX11_section 31 = .ok (.iload_n 2, 1) := by decide +kernel
theorem dX11_section_32 : decode cX11_section 32 = .ok (.invokevirtual 123, 3) := by decide +kernel
theorem dX11_section_35 : decode cX11_section 35 = .ok (.goto 9, 3) := by decide +kernel
theorem dX11_section_38 : decode cX11_section 38 = .ok (.aload_n 0, 1) := by decide +kernel
theorem dX11_section_39 : decode cX11_section 39 = .ok (.ldc 118, 2) := by decide +kernel
theorem dX11_section_41 : decode cX11_section 41 = .ok (.invokevirtual 101, 3) := by decide +kernel
theorem dX11_section_44 : decode cX11_section 44 = .ok (.ireturn, 1) := by decide +kernel
theorem dX11_train_0 : decode cX11_train 0 = .ok (.iload_n 1, 1) := by decide +kernel
theorem dX11_train_1 : decode cX11_train 1 = .ok (.iconst 0, 1) := by decide +kernel
theorem dX11_train_2 : decode cX11_train 2 = .ok (.iconst 3, 1) := by decide +kernel
theorem dX11_train_3 : decode cX11_train 3 = .ok (.invokestatic 108, 3) := by decide +kernel
theorem dX11_train_6 : decode cX11_train 6 = .ok (.ifCond .eq 42, 3) := by decide +kernel
theorem dX11_train_9 : decode cX11_train 9 = .ok (.aload_n 0, 1) := by decide +kernel
theorem dX11_train_10 : decode cX11_train 10 = .ok (.iload_n 2, 1) := by decide +kernel
theorem dX11_train_11 : decode cX11_train 11 = .ok (.invokevirtual 127, 3) := by decide +kernel
theorem dX11_train_14 : decode cX11_train 14 = .ok (.ifCond .eq 34, 3) := by decide +kernel
theorem dX11_train_17 : decode cX11_train 17 = .ok (.aload_n 0, 1) := by decide +kernel
theorem dX11_train_18 : decode cX11_train 18 = .ok (.iload_n 3, 1) := by decide +kernel
theorem dX11_train_19 : decode cX11_train 19 = .ok (.invokevirtual 127, 3) := by decide +kernel
theorem dX11_train_22 : decode cX11_train 22 = .ok (.ifCond .eq 26, 3) := by decide +kernel
theorem dX11_train_25 : decode cX11_train 25 = .ok (.iload 4, 2) := by decide +kernel
theorem dX11_train_27 : decode cX11_train 27 = .ok (.iconst 1, 1) := by decide +kernel
theorem dX11_train_28 : decode cX11_train 28 = .ok (.bipush 30, 2) := by decide +kernel
theorem dX11_train_30 : decode cX11_train 30 = .ok (.invokestatic 108, 3) := by decide +kernel
theorem dX11_train_33 : decode cX11_train 33 = .ok (.ifCond .eq 15, 3) := by decide +kernel
theorem dX11_train_36 : decode cX11_train 36 = .ok (.iload 5, 2) := by decide +kernel
theorem dX11_train_38 : decode cX11_train 38 = .ok (.iconst 0, 1) := by decide +kernel
theorem dX11_train_39 : decode cX11_train 39 = .ok (.sipush 300, 3) := by decide +kernel
theorem dX11_train_42 : decode cX11_train 42 = .ok (.invokestatic 108, 3) := by decide +kernel
theorem dX11_train_45 : decode cX11_train 45 = .ok (.ifCond .ne 10, 3) := by decide +kernel
theorem dX11_train_48 : decode cX11_train 48 = .ok (.aload_n 0, 1) := by decide +kernel
theorem dX11_train_49 : decode cX11_train 49 = .ok (.ldc 118, 2) := by decide +kernel
theorem dX11_train_51 : decode cX11_train 51 = .ok (.invokevirtual 101, 3) := by decide +kernel
theorem dX11_train_54 : decode cX11_train 54 = .ok (.ireturn, 1) := by decide +kernel
theorem dX11_train_55 : decode cX11_train 55 = .ok (.iload_n 2, 1) := by decide +kernel
theorem dX11_train_56 : decode cX11_train 56 = .ok (.iload_n 3, 1) := by decide +kernel
theorem dX11_train_57 : decode cX11_train 57 = .ok (.if_icmp .ne 10, 3) := by decide +kernel
theorem dX11_train_60 : decode cX11_train 60 = .ok (.aload_n 0, 1) := by decide +kernel
theorem dX11_train_61 : decode cX11_train 61 = .ok (.ldc 131, 2) := by decide +kernel
theorem dX11_train_63 : decode cX11_train 63 = .ok (.invokevirtual 101, 3) := by decide +kernel
theorem dX11_train_66 : decode cX11_train 66 = .ok (.ireturn, 1) := by decide +kernel
theorem dX11_train_67 : decode cX11_train 67 = .ok (.aload_n 0, 1) := by decide +kernel
theorem dX11_train_68 : decode cX11_train 68 = .ok (.getfield 7, 3) := by decide +kernel
theorem dX11_train_71 : decode cX11_train 71 = .ok (.bipush 14, 2) := by decide +kernel
theorem dX11_train_73 : decode cX11_train 73 = .ok (.iaload, 1) := by decide +kernel
theorem dX11_train_74 : decode cX11_train 74 = .ok (.istore 6, 2) := by decide +kernel
theorem dX11_train_76 : decode cX11_train 76 = .ok (.iload 6, 2) := by decide +kernel
theorem dX11_train_78 : decode cX11_train 78 = .ok (.iconst 5, 1) := by decide +kernel
theorem dX11_train_79 : decode cX11_train 79 = .ok (.if_icmp .ne 10, 3) := by decide +kernel
theorem dX11_train_82 : decode cX11_train 82 = .ok (.aload_n 0, 1) := by decide +kernel
theorem dX11_train_83 : decode cX11_train 83 = .ok (.ldc 132, 2) := by decide +kernel
theorem dX11_train_85 : decode cX11_train 85 = .ok (.invokevirtual 101, 3) := by decide +kernel
theorem dX11_train_88 : decode cX11_train 88 = .ok (.ireturn, 1) := by decide +kernel
theorem dX11_train_89 : decode cX11_train 89 = .ok (.aload_n 0, 1) := by decide +kernel
theorem dX11_train_90 : decode cX11_train 90 = .ok (.invokevirtual 105, 3) := by decide +kernel
theorem dX11_train_93 : decode cX11_train 93 = .ok (.aload_n 0, 1) := by decide +kernel
theorem dX11_train_94 : decode cX11_train 94 = .ok (.getfield 7, 3) := by decide +kernel
theorem dX11_train_97 : decode cX11_train 97 = .ok (.bipush 15, 2) := by decide +kernel
theorem dX11_train_99 : decode cX11_train 99 = .ok (.iconst 5, 1) := by decide +kernel
theorem dX11_train_100 : decode cX11_train 100 = .ok (.iload 6, 2) := by decide +kernel
theorem dX11_train_102 : decode cX11_train 102 = .ok (.imul, 1) := by decide +kernel
theorem dX11_train_103 : decode cX11_train 103 = .ok (.iadd, 1) := by decide +kernel
theorem dX11_train_104 : decode cX11_train 104 = .ok (.iload_n 1, 1) := by decide +kernel
theorem dX11_train_105 : decode cX11_train 105 = .ok (.iastore, 1) := by decide +kernel
theorem dX11_train_106 : decode cX11_train 106 = .ok (.aload_n 0, 1) := by decide +kernel
theorem dX11_train_107 : decode cX11_train 107 = .ok (.getfield 7, 3) := by decide +kernel
theorem dX11_train_110 : decode cX11_train 110 = .ok (.bipush 15, 2) := by decide +kernel
theorem dX11_train_112 : decode cX11_train 112 = .ok (.iconst 5, 1) := by decide +kernel
theorem dX11_train_113 : decode cX11_train 113 = .ok (.iload 6, 2) := by decide +kernel
theorem dX11_train_115 : decode cX11_train 115 = .ok (.imul, 1) := by decide +kernel
theorem dX11_train_116 : decode cX11_train 116 = .ok (.iadd, 1) := by decide +kernel
theorem dX11_train_117 : decode cX11_train 117 = .ok (.iconst 1, 1) := by decide +kernel
theorem dX11_train_118 : decode cX11_train 118 = .ok (.iadd, 1) := by decide +kernel
theorem dX11_train_119 : decode cX11_train 119 = .ok (.iload_n 2, 1) := by decide +kernel
theorem dX11_train_120 : decode cX11_train 120 = .ok (.iastore, 1) := by decide +kernel
theorem dX11_train_121 : decode cX11_train 121 = .ok (.aload_n 0, 1) := by decide +kernel
theorem dX11_train_122 : decode cX11_train 122 = .ok (.getfield 7, 3) := by decide +kernel
theorem dX11_train_125 : decode cX11_train 125 = .ok (.bipush 15, 2) := by decide +kernel
theorem dX11_train_127 : decode cX11_train 127 = .ok (.iconst 5, 1) := by decide +kernel
theorem dX11_train_128 : decode cX11_train 128 = .ok (.iload 6, 2) := by decide +kernel
theorem dX11_train_130 : decode cX11_train 130 = .ok (.imul, 1) := by decide +kernel
theorem dX11_train_131 : decode cX11_train 131 = .ok (.iadd, 1) := by decide +kernel
theorem dX11_train_132 : decode cX11_train 132 = .ok (.iconst 2, 1) := by decide +kernel
theorem dX11_train_133 : decode cX11_train 133 = .ok (.iadd, 1) := by decide +kernel
theorem dX11_train_134 : decode cX11_train 134 = .ok (.iload_n 3, 1) := by decide +kernel
theorem dX11_train_135 : decode cX11_train 135 = .ok (.iastore, 1) := by decide +kernel
theorem dX11_train_136 : decode cX11_train 136 = .ok (.aload_n 0, 1) := by decide +kernel
theorem dX11_train_137 : decode cX11_train 137 = .ok (.getfield 7, 3) := by decide +kernel
theorem dX11_train_140 : decode cX11_train 140 = .ok (.bipush 15, 2) := by decide +kernel
theorem dX11_train_142 : decode cX11_train 142 = .ok (.iconst 5, 1) := by decide +kernel
theorem dX11_train_143 : decode cX11_train 143 = .ok (.iload 6, 2) := by decide +kernel
theorem dX11_train_145 : decode cX11_train 145 = .ok (.imul, 1) := by decide +kernel
theorem dX11_train_146 : decode cX11_train 146 = .ok (.iadd, 1) := by decide +kernel
theorem dX11_train_147 : decode cX11_train 147 = .ok (.iconst 3, 1) := by decide +kernel
theorem dX11_train_148 : decode cX11_train 148 = .ok (.iadd, 1) := by decide +kernel
theorem dX11_train_149 : decode cX11_train 149 = .ok (.iload 4, 2) := by decide +kernel
theorem dX11_train_151 : decode cX11_train 151 = .ok (.iastore, 1) := by decide +kernel
theorem dX11_train_152 : decode cX11_train 152 = .ok (.aload_n 0, 1) := by decide +kernel
theorem dX11_train_153 : decode cX11_train 153 = .ok (.getfield 7, 3) := by decide +kernel
theorem dX11_train_156 : decode cX11_train 156 = .ok (.bipush 15, 2) := by decide +kernel
theorem dX11_train_158 : decode cX11_train 158 = .ok (.iconst 5, 1) := by decide +kernel
theorem dX11_train_159 : decode cX11_train 159 = .ok (.iload 6, 2) := by decide +kernel
theorem dX11_train_161 : decode cX11_train 161 = .ok (.imul, 1) := by decide +kernel
theorem dX11_train_162 : decode cX11_train 162 = .ok (.iadd, 1) := by decide +kernel
theorem dX11_train_163 : decode cX11_train 163 = .ok (.iconst 4, 1) := by decide +kernel
theorem dX11_train_164 : decode cX11_train 164 = .ok (.iadd, 1) := by decide +kernel
theorem dX11_train_165 : decode cX11_train 165 = .ok (.iload 5, 2) := by decide +kernel
theorem dX11_train_167 : decode cX11_train 167 = .ok (.iastore, 1) := by decide +kernel
theorem dX11_train_168 : decode cX11_train 168 = .ok (.aload_n 0, 1) := by decide +kernel
theorem dX11_train_169 : decode cX11_train 169 = .ok (.getfield 7, 3) := by decide +kernel
theorem dX11_train_172 : decode cX11_train 172 = .ok (.bipush 14, 2) := by decide +kernel
theorem dX11_train_174 : decode cX11_train 174 = .ok (.dup2, 1) := by decide +kernel
theorem dX11_train_175 : decode cX11_train 175 = .ok (.iaload, 1) := by decide +kernel
theorem dX11_train_176 : decode cX11_train 176 = .ok (.iconst 1, 1) := by decide +kernel
theorem dX11_train_177 : decode cX11_train 177 = .ok (.iadd, 1) := by decide +kernel
theorem dX11_train_178 : decode cX11_train 178 = .ok (.iastore, 1) := by decide +kernel
theorem dX11_train_179 : decode cX11_train 179 = .ok (.iload 6, 2) := by decide +kernel
theorem dX11_train_181 : decode cX11_train 181 = .ok (.ireturn, 1) := by decide +kernel
theorem dX11_as_0 : decode cX11_as 0 = .ok (.aload_n 0, 1) := by decide +kernel
theorem dX11_as_1 : decode cX11_as 1 = .ok (.iload_n 1, 1) := by decide +kernel
theorem dX11_as_2 : decode cX11_as 2 = .ok (.invokevirtual 133, 3) := by decide +kernel
theorem dX11_as_5 : decode cX11_as 5 = .ok (.ifCond .eq 12, 3) := by decide +kernel
theorem dX11_as_8 : decode cX11_as 8 = .ok (.iload_n 2, 1) := by decide +kernel
theorem dX11_as_9 : decode cX11_as 9 = .ok (.iconst 0, 1) := by decide +kernel
theorem dX11_as_10 : decode cX11_as 10 = .ok (.iconst 3, 1) := by decide +kernel
theorem dX11_as_11 : decode cX11_as 11 = .ok (.invokestatic 108, 3) := by decide +kernel
theorem dX11_as_14 : decode cX11_as 14 = .ok (.ifCond .ne 10, 3) := by decide +kernel
theorem dX11_as_17 : decode cX11_as 17 = .ok (.aload_n 0, 1) := by decide +kernel
theorem dX11_as_18 : decode cX11_as 18 = .ok (.ldc 118, 2) := by decide +kernel
theorem dX11_as_20 : decode cX11_as 20 = .ok (.invokevirtual 101, 3) := by decide +kernel
theorem dX11_as_23 : decode cX11_as 23 = .ok (.ireturn, 1) := by decide +kernel
theorem dX11_as_24 : decode cX11_as 24 = .ok (.iload_n 2, 1) := by decide +kernel
theorem dX11_as_25 : decode cX11_as 25 = .ok (.ifCond .eq 26, 3) := by decide +kernel
theorem dX11_as_28 : decode cX11_as 28 = .ok (.aload_n 0, 1) := by decide +kernel
theorem dX11_as_29 : decode cX11_as 29 = .ok (.iload_n 1, 1) := by decide +kernel
theorem dX11_as_30 : decode cX11_as 30 = .ok (.invokevirtual 136, 3) := by decide +kernel
theorem dX11_as_33 : decode cX11_as 33 = .ok (.iload_n 2, 1) := by decide +kernel
theorem dX11_as_34 : decode cX11_as 34 = .ok (.if_icmp .eq 17, 3) := by decide +kernel
theorem dX11_as_37 : decode cX11_as 37 = .ok (.iload_n 2, 1) := by decide +kernel
theorem dX11_as_38 : decode cX11_as 38 = .ok (.iconst 1, 1) := by decide +kernel
theorem dX11_as_39 : decode cX11_as 39 = .ok (.if_icmp .ne 16, 3) := by decide +kernel
theorem dX11_as_42 : decode cX11_as 42 = .ok (.aload_n 0, 1) := by decide +kernel
theorem dX11_as_43 : decode cX11_as 43 = .ok (.iload_n 1, 1) := by decide +kernel
theorem dX11_as_44 : decode cX11_as 44 = .ok (.invokevirtual 136, 3) := by decide +kernel
theorem dX11_as_47 : decode cX11_as 47 = .ok (.iconst 2, 1) := by decide +kernel
theorem dX11_as_48 : decode cX11_as 48 = .ok (.if_icmp .ne 7, 3) := by decide +kernel
theorem dX11_as_51 : decode cX11_as 51 = .ok (.iload_n 1, 1) := by decide +kernel
theorem dX11_as_52 : decode cX11_as 52 = .ok (.goto 9, 3) := by decide +kernel
theorem dX11_as_55 : decode cX11_as 55 = .ok (.aload_n 0, 1) := by decide +kernel
theorem dX11_as_56 : decode cX11_as 56 = .ok (.ldc 139, 2) := by decide +kernel
theorem dX11_as_58 : decode cX11_as 58 = .ok (.invokevirtual 101, 3) := by decide +kernel
theorem dX11_as_61 : decode cX11_as 61 = .ok (.ireturn, 1) := by decide +kernel
theorem dX11_of_0 : decode cX11_of 0 = .ok (.aload_n 0, 1) := by decide +kernel
theorem dX11_of_1 : decode cX11_of 1 = .ok (.iload_n 1, 1) := by decide +kernel
theorem dX11_of_2 : decode cX11_of 2 = .ok (.invokevirtual 133, 3) := by decide +kernel
theorem dX11_of_5 : decode cX11_of 5 = .ok (.ifCond .eq 12, 3) := by decide +kernel
theorem dX11_of_8 : decode cX11_of 8 = .ok (.iload_n 2, 1) := by decide +kernel
theorem dX11_of_9 : decode cX11_of 9 = .ok (.iconst 0, 1) := by decide +kernel
theorem dX11_of_10 : decode cX11_of 10 = .ok (.iconst 5, 1) := by decide +kernel
theorem dX11_of_11 : decode cX11_of 11 = .ok (.invokestatic 108, 3) := by decide +kernel
theorem dX11_of_14 : decode cX11_of 14 = .ok (.ifCond .ne 10, 3) := by decide +kernel
theorem dX11_of_17 : decode cX11_of 17 = .ok (.aload_n 0, 1) := by decide +kernel
theorem dX11_of_18 : decode cX11_of 18 = .ok (.ldc 118, 2) := by decide +kernel
theorem dX11_of_20 : decode cX11_of 20 = .ok (.invokevirtual 101, 3) := by decide +kernel
theorem dX11_of_23 : decode cX11_of 23 = .ok (.ireturn, 1) := by decide +kernel
theorem dX11_of_24 : decode cX11_of 24 = .ok (.iload_n 2, 1) := by decide +kernel
theorem dX11_of_25 : decode cX11_of 25 = .ok (.iconst 5, 1) := by decide +kernel
theorem dX11_of_26 : decode cX11_of 26 = .ok (.if_icmp .ne 11, 3) := by decide +kernel
theorem dX11_of_29 : decode cX11_of 29 = .ok (.aload_n 0, 1) := by decide +kernel
theorem dX11_of_30 : decode cX11_of 30 = .ok (.iload_n 1, 1) := by decide +kernel
theorem dX11_of_31 : decode cX11_of 31 = .ok (.invokevirtual 140, 3) := by decide +kernel
theorem dX11_of_34 : decode cX11_of 34 = .ok (.goto 16, 3) := by decide +kernel
theorem dX11_of_37 : decode cX11_of 37 = .ok (.aload_n 0, 1) := by decide +kernel
theorem dX11_of_38 : decode cX11_of 38 = .ok (.getfield 7, 3) := by decide +kernel
theorem dX11_of_41 : decode cX11_of 41 = .ok (.bipush 15, 2) := by decide +kernel
theorem dX11_of_43 : decode cX11_of 43 = .ok (.iconst 5, 1) := by decide +kernel
theorem dX11_of_44 : decode cX11_of 44 = .ok (.iload_n 1, 1) := by decide +kernel
theorem dX11_of_45 : decode cX11_of 45 = .ok (.imul, 1) := by decide +kernel
theorem dX11_of_46 : decode cX11_of 46 = .ok (.iadd, 1) := by decide +kernel
theorem dX11_of_47 : decode cX11_of 47 = .ok (.iload_n 2, 1) := by decide +kernel
theorem dX11_of_48 : decode cX11_of 48 = .ok (.iadd, 1) := by decide +kernel
theorem dX11_of_49 : decode cX11_of 49 = .ok (.iaload, 1) := by decide +kernel
theorem dX11_of_50 : decode cX11_of 50 = .ok (.ireturn, 1) := by decide +kernel
theorem dX11_time_0 : decode cX11_time 0 = .ok (.aload_n 0, 1) := by decide +kernel
theorem dX11_time_1 : decode cX11_time 1 = .ok (.iload_n 1, 1) := by decide +kernel
theorem dX11_time_2 : decode cX11_time 2 = .ok (.invokevirtual 133, 3) := by decide +kernel
theorem dX11_time_5 : decode cX11_time 5 = .ok (.ifCond .eq 30, 3) := by decide +kernel
theorem dX11_time_8 : decode cX11_time 8 = .ok (.iload_n 2, 1) := by decide +kernel
theorem dX11_time_9 : decode cX11_time 9 = .ok (.iconst 0, 1) := by decide +kernel
theorem dX11_time_10 : decode cX11_time 10 = .ok (.sipush 300, 3) := by decide +kernel
theorem dX11_time_13 : decode cX11_time 13 = .ok (.invokestatic 108, 3) := by decide +kernel
theorem dX11_time_16 : decode cX11_time 16 = .ok (.ifCond .eq 19, 3) := by decide +kernel
theorem dX11_time_19 : decode cX11_time 19 = .ok (.aload_n 0, 1) := by decide +kernel
theorem dX11_time_20 : decode cX11_time 20 = .ok (.bipush 15, 2) := by decide +kernel
theorem dX11_time_22 : decode cX11_time 22 = .ok (.iconst 5, 1) := by decide +kernel
theorem dX11_time_23 : decode cX11_time 23 = .ok (.iload_n 1, 1) := by decide +kernel
theorem dX11_time_24 : decode cX11_time 24 = .ok (.imul, 1) := by decide +kernel
theorem dX11_time_25 : decode cX11_time 25 = .ok (.iadd, 1) := by decide +kernel
theorem dX11_time_26 : decode cX11_time 26 = .ok (.iconst 4, 1) := by decide +kernel
theorem dX11_time_27 : decode cX11_time 27 = .ok (.iadd, 1) := by decide +kernel
theorem dX11_time_28 : decode cX11_time 28 = .ok (.iload_n 2, 1) := by decide +kernel
theorem dX11_time_29 : decode cX11_time 29 = .ok (.invokevirtual 123, 3) := by decide +kernel
theorem dX11_time_32 : decode cX11_time 32 = .ok (.goto 9, 3) := by decide +kernel
theorem dX11_time_35 : decode cX11_time 35 = .ok (.aload_n 0, 1) := by decide +kernel
theorem dX11_time_36 : decode cX11_time 36 = .ok (.ldc 118, 2) := by decide +kernel
theorem dX11_time_38 : decode cX11_time 38 = .ok (.invokevirtual 101, 3) := by decide +kernel
theorem dX11_time_41 : decode cX11_time 41 = .ok (.ireturn, 1) := by decide +kernel
theorem dX11_between_0 : decode cX11_between 0 = .ok (.iconst 0, 1) := by decide +kernel
theorem dX11_between_1 : decode cX11_between 1 = .ok (.istore_n 3, 1) := by decide +kernel
theorem dX11_between_2 : decode cX11_between 2 = .ok (.iload_n 1, 1) := by decide +kernel
theorem dX11_between_3 : decode cX11_between 3 = .ok (.iload_n 2, 1) := by decide +kernel
theorem dX11_between_4 : decode cX11_between 4 = .ok (.if_icmp .ge 7, 3) := by decide +kernel
theorem dX11_between_7 : decode cX11_between 7 = .ok (.iload_n 1, 1) := by decide +kernel
theorem dX11_between_8 : decode cX11_between 8 = .ok (.goto 4, 3) := by decide +kernel
theorem dX11_between_11 : decode cX11_between 11 = .ok (.iload_n 2, 1) := by decide +kernel
theorem dX11_between_12 : decode cX11_between 12 = .ok (.istore 4, 2) := by decide +kernel
theorem dX11_between_14 : decode cX11_between 14 = .ok (.iload 4, 2) := by decide +kernel
theorem dX11_between_16 : decode cX11_between 16 = .ok (.iload_n 1, 1) := by decide +kernel
theorem dX11_between_17 : decode cX11_between 17 = .ok (.iload_n 2, 1) := by decide +kernel
theorem dX11_between_18 : decode cX11_between 18 = .ok (.if_icmp .ge 7, 3) := by decide +kernel
theorem dX11_between_21 : decode cX11_between 21 = .ok (.iload_n 2, 1) := by decide +kernel
theorem dX11_between_22 : decode cX11_between 22 = .ok (.goto 4, 3) := by decide +kernel
theorem dX11_between_25 : decode cX11_between 25 = .ok (.iload_n 1, 1) := by decide +kernel
theorem dX11_between_26 : decode cX11_between 26 = .ok (.if_icmp .ge 22, 3) := by decide +kernel
theorem dX11_between_29 : decode cX11_between 29 = .ok (.iload_n 3, 1) := by decide +kernel
theorem dX11_between_30 : decode cX11_between 30 = .ok (.aload_n 0, 1) := by decide +kernel
theorem dX11_between_31 : decode cX11_between 31 = .ok (.getfield 7, 3) := by decide +kernel
theorem dX11_between_34 : decode cX11_between 34 = .ok (.bipush 8, 2) := by decide +kernel
theorem dX11_between_36 : decode cX11_between 36 = .ok (.iload 4, 2) := by decide +kernel
theorem dX11_between_38 : decode cX11_between 38 = .ok (.iadd, 1) := by decide +kernel
theorem dX11_between_39 : decode cX11_between 39 = .ok (.iaload, 1) := by decide +kernel
theorem dX11_between_40 : decode cX11_between 40 = .ok (.iadd, 1) := by decide +kernel
theorem dX11_between_41 : decode cX11_between 41 = .ok (.istore_n 3, 1) := by decide +kernel
theorem dX11_between_42 : decode cX11_between 42 = .ok (.iinc 4 1, 3) := by decide +kernel
theorem dX11_between_45 : decode cX11_between 45 = .ok (.goto (-31), 3) := by decide +kernel
theorem dX11_between_48 : decode cX11_between 48 = .ok (.iload_n 3, 1) := by decide +kernel
theorem dX11_between_49 : decode cX11_between 49 = .ok (.ireturn, 1) := by decide +kernel
theorem dX11_isOnWay_0 : decode cX11_isOnWay 0 = .ok (.aload_n 0, 1) := by decide +kernel
theorem dX11_isOnWay_1 : decode cX11_isOnWay 1 = .ok (.iload_n 1, 1) := by decide +kernel
theorem dX11_isOnWay_2 : decode cX11_isOnWay 2 = .ok (.invokevirtual 140, 3) := by decide +kernel
theorem dX11_isOnWay_5 : decode cX11_isOnWay 5 = .ok (.ifCond .ne 20, 3) := by decide +kernel
theorem dX11_isOnWay_8 : decode cX11_isOnWay 8 = .ok (.iload_n 2, 1) := by decide +kernel
theorem dX11_isOnWay_9 : decode cX11_isOnWay 9 = .ok (.aload_n 0, 1) := by decide +kernel
theorem dX11_isOnWay_10 : decode cX11_isOnWay 10 = .ok (.iload_n 1, 1) := by decide +kernel
theorem dX11_isOnWay_11 : decode cX11_isOnWay 11 = .ok (.invokevirtual 115, 3) := by decide +kernel
theorem dX11_isOnWay_14 : decode cX11_isOnWay 14 = .ok (.aload_n 0, 1) := by decide +kernel
theorem dX11_isOnWay_15 : decode cX11_isOnWay 15 = .ok (.iload_n 1, 1) := by decide +kernel
theorem dX11_isOnWay_16 : decode cX11_isOnWay 16 = .ok (.invokevirtual 112, 3) := by decide +kernel
theorem dX11_isOnWay_19 : decode cX11_isOnWay 19 = .ok (.invokestatic 108, 3) := by decide +kernel
theorem dX11_isOnWay_22 : decode cX11_isOnWay 22 = .ok (.goto 17, 3) := by decide +kernel
theorem dX11_isOnWay_25 : decode cX11_isOnWay 25 = .ok (.iload_n 2, 1) := by decide +kernel
theorem dX11_isOnWay_26 : decode cX11_isOnWay 26 = .ok (.aload_n 0, 1) := by decide +kernel
theorem dX11_isOnWay_27 : decode cX11_isOnWay 27 = .ok (.iload_n 1, 1) := by decide +kernel
theorem dX11_isOnWay_28 : decode cX11_isOnWay 28 = .ok (.invokevirtual 112, 3) := by decide +kernel
theorem dX11_isOnWay_31 : decode cX11_isOnWay 31 = .ok (.aload_n 0, 1) := by decide +kernel
theorem dX11_isOnWay_32 : decode cX11_isOnWay 32 = .ok (.iload_n 1, 1) := by decide +kernel
theorem dX11_isOnWay_33 : decode cX11_isOnWay 33 = .ok (.invokevirtual 115, 3) := by decide +kernel
theorem dX11_isOnWay_36 : decode cX11_isOnWay 36 = .ok (.invokestatic 108, 3) := by decide +kernel
theorem dX11_isOnWay_39 : decode cX11_isOnWay 39 = .ok (.ireturn, 1) := by decide +kernel
theorem dX11_dueAt_0 : decode cX11_dueAt 0 = .ok (.aload_n 0, 1) := by decide +kernel
theorem dX11_dueAt_1 : decode cX11_dueAt 1 = .ok (.iload_n 1, 1) := by decide +kernel
theorem dX11_dueAt_2 : decode cX11_dueAt 2 = .ok (.invokevirtual 143, 3) := by decide +kernel
theorem dX11_dueAt_5 : decode cX11_dueAt 5 = .ok (.aload_n 0, 1) := by decide +kernel
theorem dX11_dueAt_6 : decode cX11_dueAt 6 = .ok (.aload_n 0, 1) := by decide +kernel
theorem dX11_dueAt_7 : decode cX11_dueAt 7 = .ok (.iload_n 1, 1) := by decide +kernel
theorem dX11_dueAt_8 : decode cX11_dueAt 8 = .ok (.invokevirtual 115, 3) := by decide +kernel
theorem dX11_dueAt_11 : decode cX11_dueAt 11 = .ok (.iload_n 2, 1) := by decide +kernel
theorem dX11_dueAt_12 : decode cX11_dueAt 12 = .ok (.invokevirtual 146, 3) := by decide +kernel
theorem dX11_dueAt_15 : decode cX11_dueAt 15 = .ok (.iadd, 1) := by decide +kernel
theorem dX11_dueAt_16 : decode cX11_dueAt 16 = .ok (.ireturn, 1) := by decide +kernel
theorem dX11_due_0 : decode cX11_due 0 = .ok (.aload_n 0, 1) := by decide +kernel
theorem dX11_due_1 : decode cX11_due 1 = .ok (.iload_n 1, 1) := by decide +kernel
theorem dX11_due_2 : decode cX11_due 2 = .ok (.invokevirtual 133, 3) := by decide +kernel
theorem dX11_due_5 : decode cX11_due 5 = .ok (.ifCond .eq 11, 3) := by decide +kernel
theorem dX11_due_8 : decode cX11_due 8 = .ok (.aload_n 0, 1) := by decide +kernel
theorem dX11_due_9 : decode cX11_due 9 = .ok (.iload_n 2, 1) := by decide +kernel
theorem dX11_due_10 : decode cX11_due 10 = .ok (.invokevirtual 127, 3) := by decide +kernel
theorem dX11_due_13 : decode cX11_due 13 = .ok (.ifCond .ne 10, 3) := by decide +kernel
theorem dX11_due_16 : decode cX11_due 16 = .ok (.aload_n 0, 1) := by decide +kernel
theorem dX11_due_17 : decode cX11_due 17 = .ok (.ldc 118, 2) := by decide +kernel
theorem dX11_due_19 : decode cX11_due 19 = .ok (.invokevirtual 101, 3) := by decide +kernel
theorem dX11_due_22 : decode cX11_due 22 = .ok (.ireturn, 1) := by decide +kernel
theorem dX11_due_23 : decode cX11_due 23 = .ok (.aload_n 0, 1) := by decide +kernel
theorem dX11_due_24 : decode cX11_due 24 = .ok (.iload_n 1, 1) := by decide +kernel
theorem dX11_due_25 : decode cX11_due 25 = .ok (.iload_n 2, 1) := by decide +kernel
theorem dX11_due_26 : decode cX11_due 26 = .ok (.invokevirtual 149, 3) := by decide +kernel
theorem dX11_due_29 : decode cX11_due 29 = .ok (.ifCond .eq 12, 3) := by decide +kernel
theorem dX11_due_32 : decode cX11_due 32 = .ok (.aload_n 0, 1) := by decide +kernel
theorem dX11_due_33 : decode cX11_due 33 = .ok (.iload_n 1, 1) := by decide +kernel
theorem dX11_due_34 : decode cX11_due 34 = .ok (.iload_n 2, 1) := by decide +kernel
theorem dX11_due_35 : decode cX11_due 35 = .ok (.invokevirtual 153, 3) := by decide +kernel
theorem dX11_due_38 : decode cX11_due 38 = .ok (.goto 9, 3) := by decide +kernel
theorem dX11_due_41 : decode cX11_due 41 = .ok (.aload_n 0, 1) := by decide +kernel
theorem dX11_due_42 : decode cX11_due 42 = .ok (.ldc 100, 2) := by decide +kernel
theorem dX11_due_44 : decode cX11_due 44 = .ok (.invokevirtual 101, 3) := by decide +kernel
theorem dX11_due_47 : decode cX11_due 47 = .ok (.ireturn, 1) := by decide +kernel
theorem dX11_rankOf_0 : decode cX11_rankOf 0 = .ok (.aload_n 0, 1) := by decide +kernel
theorem dX11_rankOf_1 : decode cX11_rankOf 1 = .ok (.iload_n 1, 1) := by decide +kernel
theorem dX11_rankOf_2 : decode cX11_rankOf 2 = .ok (.invokevirtual 136, 3) := by decide +kernel
theorem dX11_rankOf_5 : decode cX11_rankOf 5 = .ok (.iconst 3, 1) := by decide +kernel
theorem dX11_rankOf_6 : decode cX11_rankOf 6 = .ok (.if_icmp .ne 7, 3) := by decide +kernel
theorem dX11_rankOf_9 : decode cX11_rankOf 9 = .ok (.iconst 0, 1) := by decide +kernel
theorem dX11_rankOf_10 : decode cX11_rankOf 10 = .ok (.goto 8, 3) := by decide +kernel
theorem dX11_rankOf_13 : decode cX11_rankOf 13 = .ok (.aload_n 0, 1) := by decide +kernel
theorem dX11_rankOf_14 : decode cX11_rankOf 14 = .ok (.iload_n 1, 1) := by decide +kernel
theorem dX11_rankOf_15 : decode cX11_rankOf 15 = .ok (.invokevirtual 136, 3) := by decide +kernel
theorem dX11_rankOf_18 : decode cX11_rankOf 18 = .ok (.ireturn, 1) := by decide +kernel
theorem dX11_isOver_0 : decode cX11_isOver 0 = .ok (.aload_n 0, 1) := by decide +kernel
theorem dX11_isOver_1 : decode cX11_isOver 1 = .ok (.iload_n 1, 1) := by decide +kernel
theorem dX11_isOver_2 : decode cX11_isOver 2 = .ok (.invokevirtual 156, 3) := by decide +kernel
theorem dX11_isOver_5 : decode cX11_isOver 5 = .ok (.aload_n 0, 1) := by decide +kernel
theorem dX11_isOver_6 : decode cX11_isOver 6 = .ok (.iload_n 3, 1) := by decide +kernel
theorem dX11_isOver_7 : decode cX11_isOver 7 = .ok (.invokevirtual 156, 3) := by decide +kernel
theorem dX11_isOver_10 : decode cX11_isOver 10 = .ok (.if_icmp .gt 20, 3) := by decide +kernel
theorem dX11_isOver_13 : decode cX11_isOver 13 = .ok (.aload_n 0, 1) := by decide +kernel
theorem dX11_isOver_14 : decode cX11_isOver 14 = .ok (.iload_n 1, 1) := by decide +kernel
theorem dX11_isOver_15 : decode cX11_isOver 15 = .ok (.invokevirtual 156, 3) := by decide +kernel
theorem dX11_isOver_18 : decode cX11_isOver 18 = .ok (.aload_n 0, 1) := by decide +kernel
theorem dX11_isOver_19 : decode cX11_isOver 19 = .ok (.iload_n 3, 1) := by decide +kernel
theorem dX11_isOver_20 : decode cX11_isOver 20 = .ok (.invokevirtual 156, 3) := by decide +kernel
theorem dX11_isOver_23 : decode cX11_isOver 23 = .ok (.if_icmp .ne 11, 3) := by decide +kernel
theorem dX11_isOver_26 : decode cX11_isOver 26 = .ok (.iload_n 2, 1) := by decide +kernel
theorem dX11_isOver_27 : decode cX11_isOver 27 = .ok (.ifCond .ne 7, 3) := by decide +kernel
theorem dX11_isOver_30 : decode cX11_isOver 30 = .ok (.iconst 1, 1) := by decide +kernel
theorem dX11_isOver_31 : decode cX11_isOver 31 = .ok (.goto 4, 3) := by decide +kernel
theorem dX11_isOver_34 : decode cX11_isOver 34 = .ok (.iconst 0, 1) := by decide +kernel
theorem dX11_isOver_35 : decode cX11_isOver 35 = .ok (.ireturn, 1) := by decide +kernel
theorem dX11_over_0 : decode cX11_over 0 = .ok (.aload_n 0, 1) := by decide +kernel
theorem dX11_over_1 : decode cX11_over 1 = .ok (.iload_n 1, 1) := by decide +kernel
theorem dX11_over_2 : decode cX11_over 2 = .ok (.invokevirtual 133, 3) := by decide +kernel
theorem dX11_over_5 : decode cX11_over 5 = .ok (.ifCond .eq 11, 3) := by decide +kernel
theorem dX11_over_8 : decode cX11_over 8 = .ok (.aload_n 0, 1) := by decide +kernel
theorem dX11_over_9 : decode cX11_over 9 = .ok (.iload_n 2, 1) := by decide +kernel
theorem dX11_over_10 : decode cX11_over 10 = .ok (.invokevirtual 133, 3) := by decide +kernel
theorem dX11_over_13 : decode cX11_over 13 = .ok (.ifCond .ne 10, 3) := by decide +kernel
theorem dX11_over_16 : decode cX11_over 16 = .ok (.aload_n 0, 1) := by decide +kernel
theorem dX11_over_17 : decode cX11_over 17 = .ok (.ldc 118, 2) := by decide +kernel
theorem dX11_over_19 : decode cX11_over 19 = .ok (.invokevirtual 101, 3) := by decide +kernel
theorem dX11_over_22 : decode cX11_over 22 = .ok (.ireturn, 1) := by decide +kernel
theorem dX11_over_23 : decode cX11_over 23 = .ok (.aload_n 0, 1) := by decide +kernel
theorem dX11_over_24 : decode cX11_over 24 = .ok (.iload_n 1, 1) := by decide +kernel
theorem dX11_over_25 : decode cX11_over 25 = .ok (.invokevirtual 140, 3) := by decide +kernel
theorem dX11_over_28 : decode cX11_over 28 = .ok (.aload_n 0, 1) := by decide +kernel
theorem dX11_over_29 : decode cX11_over 29 = .ok (.iload_n 2, 1) := by decide +kernel
theorem dX11_over_30 : decode cX11_over 30 = .ok (.invokevirtual 140, 3) := by decide +kernel
theorem dX11_over_33 : decode cX11_over 33 = .ok (.if_icmp .ne 10, 3) := by decide +kernel
theorem dX11_over_36 : decode cX11_over 36 = .ok (.aload_n 0, 1) := by decide +kernel
theorem dX11_over_37 : decode cX11_over 37 = .ok (.ldc 131, 2) := by decide +kernel
theorem dX11_over_39 : decode cX11_over 39 = .ok (.invokevirtual 101, 3) := by decide +kernel
theorem dX11_over_42 : decode cX11_over 42 = .ok (.ireturn, 1) := by decide +kernel
theorem dX11_over_43 : decode cX11_over 43 = .ok (.aload_n 0, 1) := by decide +kernel
theorem dX11_over_44 : decode cX11_over 44 = .ok (.iload_n 1, 1) := by decide +kernel
theorem dX11_over_45 : decode cX11_over 45 = .ok (.aload_n 0, 1) := by decide +kernel
theorem dX11_over_46 : decode cX11_over 46 = .ok (.iload_n 1, 1) := by decide +kernel
theorem dX11_over_47 : decode cX11_over 47 = .ok (.invokevirtual 140, 3) := by decide +kernel
theorem dX11_over_50 : decode cX11_over 50 = .ok (.iload_n 2, 1) := by decide +kernel
theorem dX11_over_51 : decode cX11_over 51 = .ok (.invokevirtual 159, 3) := by decide +kernel
theorem dX11_over_54 : decode cX11_over 54 = .ok (.ifCond .eq 7, 3) := by decide +kernel
theorem dX11_over_57 : decode cX11_over 57 = .ok (.iconst 1, 1) := by decide +kernel
theorem dX11_over_58 : decode cX11_over 58 = .ok (.goto 4, 3) := by decide +kernel
theorem dX11_over_61 : decode cX11_over 61 = .ok (.iconst 0, 1) := by decide +kernel
theorem dX11_over_62 : decode cX11_over 62 = .ok (.ireturn, 1) := by decide +kernel
theorem dX11_stationOf_0 : decode cX11_stationOf 0 = .ok (.aload_n 0, 1) := by decide +kernel
theorem dX11_stationOf_1 : decode cX11_stationOf 1 = .ok (.getfield 7, 3) := by decide +kernel
theorem dX11_stationOf_4 : decode cX11_stationOf 4 = .ok (.bipush 41, 2) := by decide +kernel
theorem dX11_stationOf_6 : decode cX11_stationOf 6 = .ok (.iconst 5, 1) := by decide +kernel
theorem dX11_stationOf_7 : decode cX11_stationOf 7 = .ok (.iload_n 1, 1) := by decide +kernel
theorem dX11_stationOf_8 : decode cX11_stationOf 8 = .ok (.imul, 1) := by decide +kernel
theorem dX11_stationOf_9 : decode cX11_stationOf 9 = .ok (.iadd, 1) := by decide +kernel
theorem dX11_stationOf_10 : decode cX11_stationOf 10 = .ok (.iconst 3, 1) := by decide +kernel
theorem dX11_stationOf_11 : decode cX11_stationOf 11 = .ok (.iadd, 1) := by decide +kernel
theorem dX11_stationOf_12 : decode cX11_stationOf 12 = .ok (.iaload, 1) := by decide +kernel
theorem dX11_stationOf_13 : decode cX11_stationOf 13 = .ok (.ireturn, 1) := by decide +kernel
theorem dX11_formOf_0 : decode cX11_formOf 0 = .ok (.aload_n 0, 1) := by decide +kernel
theorem dX11_formOf_1 : decode cX11_formOf 1 = .ok (.getfield 7, 3) := by decide +kernel
theorem dX11_formOf_4 : decode cX11_formOf 4 = .ok (.bipush 41, 2) := by decide +kernel
theorem dX11_formOf_6 : decode cX11_formOf 6 = .ok (.iconst 5, 1) := by decide +kernel
theorem dX11_formOf_7 : decode cX11_formOf 7 = .ok (.iload_n 1, 1) := by decide +kernel
theorem dX11_formOf_8 : decode cX11_formOf 8 = .ok (.imul, 1) := by decide +kernel
theorem dX11_formOf_9 : decode cX11_formOf 9 = .ok (.iadd, 1) := by decide +kernel
theorem dX11_formOf_10 : decode cX11_formOf 10 = .ok (.iaload, 1) := by decide +kernel
theorem dX11_formOf_11 : decode cX11_formOf 11 = .ok (.ireturn, 1) := by decide +kernel
theorem dX11_trainOf_0 : decode cX11_trainOf 0 = .ok (.aload_n 0, 1) := by decide +kernel
theorem dX11_trainOf_1 : decode cX11_trainOf 1 = .ok (.getfield 7, 3) := by decide +kernel
theorem dX11_trainOf_4 : decode cX11_trainOf 4 = .ok (.bipush 41, 2) := by decide +kernel
theorem dX11_trainOf_6 : decode cX11_trainOf 6 = .ok (.iconst 5, 1) := by decide +kernel
theorem dX11_trainOf_7 : decode cX11_trainOf 7 = .ok (.iload_n 1, 1) := by decide +kernel
theorem dX11_trainOf_8 : decode cX11_trainOf 8 = .ok (.imul, 1) := by decide +kernel
theorem dX11_trainOf_9 : decode cX11_trainOf 9 = .ok (.iadd, 1) := by decide +kernel
theorem dX11_trainOf_10 : decode cX11_trainOf 10 = .ok (.iconst 1, 1) := by decide +kernel
theorem dX11_trainOf_11 : decode cX11_trainOf 11 = .ok (.iadd, 1) := by decide +kernel
theorem dX11_trainOf_12 : decode cX11_trainOf 12 = .ok (.iaload, 1) := by decide +kernel
theorem dX11_trainOf_13 : decode cX11_trainOf 13 = .ok (.ireturn, 1) := by decide +kernel
theorem dX11_otherOf_0 : decode cX11_otherOf 0 = .ok (.aload_n 0, 1) := by decide +kernel
theorem dX11_otherOf_1 : decode cX11_otherOf 1 = .ok (.getfield 7, 3) := by decide +kernel
theorem dX11_otherOf_4 : decode cX11_otherOf 4 = .ok (.bipush 41, 2) := by decide +kernel
theorem dX11_otherOf_6 : decode cX11_otherOf 6 = .ok (.iconst 5, 1) := by decide +kernel
theorem dX11_otherOf_7 : decode cX11_otherOf 7 = .ok (.iload_n 1, 1) := by decide +kernel
theorem dX11_otherOf_8 : decode cX11_otherOf 8 = .ok (.imul, 1) := by decide +kernel
theorem dX11_otherOf_9 : decode cX11_otherOf 9 = .ok (.iadd, 1) := by decide +kernel
theorem dX11_otherOf_10 : decode cX11_otherOf 10 = .ok (.iconst 2, 1) := by decide +kernel
theorem dX11_otherOf_11 : decode cX11_otherOf 11 = .ok (.iadd, 1) := by decide +kernel
theorem dX11_otherOf_12 : decode cX11_otherOf 12 = .ok (.iaload, 1) := by decide +kernel
theorem dX11_otherOf_13 : decode cX11_otherOf 13 = .ok (.ireturn, 1) := by decide +kernel
theorem dX11_numberOf_0 : decode cX11_numberOf 0 = .ok (.aload_n 0, 1) := by decide +kernel
theorem dX11_numberOf_1 : decode cX11_numberOf 1 = .ok (.getfield 7, 3) := by decide +kernel
theorem dX11_numberOf_4 : decode cX11_numberOf 4 = .ok (.bipush 41, 2) := by decide +kernel
theorem dX11_numberOf_6 : decode cX11_numberOf 6 = .ok (.iconst 5, 1) := by decide +kernel
theorem dX11_numberOf_7 : decode cX11_numberOf 7 = .ok (.iload_n 1, 1) := by decide +kernel
theorem dX11_numberOf_8 : decode cX11_numberOf 8 = .ok (.imul, 1) := by decide +kernel
theorem dX11_numberOf_9 : decode cX11_numberOf 9 = .ok (.iadd, 1) := by decide +kernel
theorem dX11_numberOf_10 : decode cX11_numberOf 10 = .ok (.iconst 4, 1) := by decide +kernel
theorem dX11_numberOf_11 : decode cX11_numberOf 11 = .ok (.iadd, 1) := by decide +kernel
theorem dX11_numberOf_12 : decode cX11_numberOf 12 = .ok (.iaload, 1) := by decide +kernel
theorem dX11_numberOf_13 : decode cX11_numberOf 13 = .ok (.ireturn, 1) := by decide +kernel
theorem dX11_ordered_0 : decode cX11_ordered 0 = .ok (.aload_n 0, 1) := by decide +kernel
theorem dX11_ordered_1 : decode cX11_ordered 1 = .ok (.getfield 7, 3) := by decide +kernel
theorem dX11_ordered_4 : decode cX11_ordered 4 = .ok (.bipush 40, 2) := by decide +kernel
theorem dX11_ordered_6 : decode cX11_ordered 6 = .ok (.iaload, 1) := by decide +kernel
theorem dX11_ordered_7 : decode cX11_ordered 7 = .ok (.istore 6, 2) := by decide +kernel
theorem dX11_ordered_9 : decode cX11_ordered 9 = .ok (.iload 6, 2) := by decide +kernel
theorem dX11_ordered_11 : decode cX11_ordered 11 = .ok (.bipush 12, 2) := by decide +kernel
theorem dX11_ordered_13 : decode cX11_ordered 13 = .ok (.if_icmp .ne 10, 3) := by decide +kernel
theorem dX11_ordered_16 : decode cX11_ordered 16 = .ok (.aload_n 0, 1) := by decide +kernel
theorem dX11_ordered_17 : decode cX11_ordered 17 = .ok (.ldc 132, 2) := by decide +kernel
theorem dX11_ordered_19 : decode cX11_ordered 19 = .ok (.invokevirtual 101, 3) := by decide +kernel
theorem dX11_ordered_22 : decode cX11_ordered 22 = .ok (.ireturn, 1) := by decide +kernel
theorem dX11_ordered_23 : decode cX11_ordered 23 = .ok (.aload_n 0, 1) := by decide +kernel
theorem dX11_ordered_24 : decode cX11_ordered 24 = .ok (.invokevirtual 105, 3) := by decide +kernel
theorem dX11_ordered_27 : decode cX11_ordered 27 = .ok (.aload_n 0, 1) := by decide +kernel
theorem dX11_ordered_28 : decode cX11_ordered 28 = .ok (.getfield 7, 3) := by decide +kernel
theorem dX11_ordered_31 : decode cX11_ordered 31 = .ok (.bipush 41, 2) := by decide +kernel
theorem dX11_ordered_33 : decode cX11_ordered 33 = .ok (.iconst 5, 1) := by decide +kernel
theorem dX11_ordered_34 : decode cX11_ordered 34 = .ok (.iload 6, 2) := by decide +kernel
theorem dX11_ordered_36 : decode cX11_ordered 36 = .ok (.imul, 1) := by decide +kernel
theorem dX11_ordered_37 : decode cX11_ordered 37 = .ok (.iadd, 1) := by decide +kernel
theorem dX11_ordered_38 : decode cX11_ordered 38 = .ok (.iload_n 1, 1) := by decide +kernel
theorem dX11_ordered_39 : decode cX11_ordered 39 = .ok (.iastore, 1) := by decide +kernel
theorem dX11_ordered_40 : decode cX11_ordered 40 = .ok (.aload_n 0, 1) := by decide +kernel
theorem dX11_ordered_41 : decode cX11_ordered 41 = .ok (.getfield 7, 3) := by decide +kernel
theorem dX11_ordered_44 : decode cX11_ordered 44 = .ok (.bipush 41, 2) := by decide +kernel
theorem dX11_ordered_46 : decode cX11_ordered 46 = .ok (.iconst 5, 1) := by decide +kernel
theorem dX11_ordered_47 : decode cX11_ordered 47 = .ok (.iload 6, 2) := by decide +kernel
theorem dX11_ordered_49 : decode cX11_ordered 49 = .ok (.imul, 1) := by decide +kernel
theorem dX11_ordered_50 : decode cX11_ordered 50 = .ok (.iadd, 1) := by decide +kernel
theorem dX11_ordered_51 : decode cX11_ordered 51 = .ok (.iconst 1, 1) := by decide +kernel
theorem dX11_ordered_52 : decode cX11_ordered 52 = .ok (.iadd, 1) := by decide +kernel
theorem dX11_ordered_53 : decode cX11_ordered 53 = .ok (.iload_n 2, 1) := by decide +kernel
theorem dX11_ordered_54 : decode cX11_ordered 54 = .ok (.iastore, 1) := by decide +kernel
theorem dX11_ordered_55 : decode cX11_ordered 55 = .ok (.aload_n 0, 1) := by decide +kernel
theorem dX11_ordered_56 : decode cX11_ordered 56 = .ok (.getfield 7, 3) := by decide +kernel
theorem dX11_ordered_59 : decode cX11_ordered 59 = .ok (.bipush 41, 2) := by decide +kernel
theorem dX11_ordered_61 : decode cX11_ordered 61 = .ok (.iconst 5, 1) := by decide +kernel
theorem dX11_ordered_62 : decode cX11_ordered 62 = .ok (.iload 6, 2) := by decide +kernel
theorem dX11_ordered_64 : decode cX11_ordered 64 = .ok (.imul, 1) := by decide +kernel
theorem dX11_ordered_65 : decode cX11_ordered 65 = .ok (.iadd, 1) := by decide +kernel
theorem dX11_ordered_66 : decode cX11_ordered 66 = .ok (.iconst 2, 1) := by decide +kernel
theorem dX11_ordered_67 : decode cX11_ordered 67 = .ok (.iadd, 1) := by decide +kernel
theorem dX11_ordered_68 : decode cX11_ordered 68 = .ok (.iload_n 3, 1) := by decide +kernel
theorem dX11_ordered_69 : decode cX11_ordered 69 = .ok (.iastore, 1) := by decide +kernel
theorem dX11_ordered_70 : decode cX11_ordered 70 = .ok (.aload_n 0, 1) := by decide +kernel
theorem dX11_ordered_71 : decode cX11_ordered 71 = .ok (.getfield 7, 3) := by decide +kernel
theorem dX11_ordered_74 : decode cX11_ordered 74 = .ok (.bipush 41, 2) := by decide +kernel
theorem dX11_ordered_76 : decode cX11_ordered 76 = .ok (.iconst 5, 1) := by decide +kernel
theorem dX11_ordered_77 : decode cX11_ordered 77 = .ok (.iload 6, 2) := by decide +kernel
theorem dX11_ordered_79 : decode cX11_ordered 79 = .ok (.imul, 1) := by decide +kernel
theorem dX11_ordered_80 : decode cX11_ordered 80 = .ok (.iadd, 1) := by decide +kernel
theorem dX11_ordered_81 : decode cX11_ordered 81 = .ok (.iconst 3, 1) := by decide +kernel
theorem dX11_ordered_82 : decode cX11_ordered 82 = .ok (.iadd, 1) := by decide +kernel
theorem dX11_ordered_83 : decode cX11_ordered 83 = .ok (.iload 4, 2) := by decide +kernel
theorem dX11_ordered_85 : decode cX11_ordered 85 = .ok (.iastore, 1) := by decide +kernel
theorem dX11_ordered_86 : decode cX11_ordered 86 = .ok (.aload_n 0, 1) := by decide +kernel
theorem dX11_ordered_87 : decode cX11_ordered 87 = .ok (.getfield 7, 3) := by decide +kernel
theorem dX11_ordered_90 : decode cX11_ordered 90 = .ok (.bipush 41, 2) := by decide +kernel
theorem dX11_ordered_92 : decode cX11_ordered 92 = .ok (.iconst 5, 1) := by decide +kernel
theorem dX11_ordered_93 : decode cX11_ordered 93 = .ok (.iload 6, 2) := by decide +kernel
theorem dX11_ordered_95 : decode cX11_ordered 95 = .ok (.imul, 1) := by decide +kernel
theorem dX11_ordered_96 : decode cX11_ordered 96 = .ok (.iadd, 1) := by decide +kernel
theorem dX11_ordered_97 : decode cX11_ordered 97 = .ok (.iconst 4, 1) := by decide +kernel
theorem dX11_ordered_98 : decode cX11_ordered 98 = .ok (.iadd, 1) := by decide +kernel
theorem dX11_ordered_99 : decode cX11_ordered 99 = .ok (.iload 5, 2) := by decide +kernel
theorem dX11_ordered_101 : decode cX11_ordered 101 = .ok (.iastore, 1) := by decide +kernel
theorem dX11_ordered_102 : decode cX11_ordered 102 = .ok (.iconst 0, 1) := by decide +kernel
theorem dX11_ordered_103 : decode cX11_ordered 103 = .ok (.istore 7, 2) := by decide +kernel
theorem dX11_ordered_105 : decode cX11_ordered 105 = .ok (.iload 7, 2) := by decide +kernel
theorem dX11_ordered_107 : decode cX11_ordered 107 = .ok (.iconst 5, 1) := by decide +kernel
theorem dX11_ordered_108 : decode cX11_ordered 108 = .ok (.if_icmp .ge 25, 3) := by decide +kernel
theorem dX11_ordered_111 : decode cX11_ordered 111 = .ok (.aload_n 0, 1) := by decide +kernel
theorem dX11_ordered_112 : decode cX11_ordered 112 = .ok (.getfield 7, 3) := by decide +kernel
theorem dX11_ordered_115 : decode cX11_ordered 115 = .ok (.bipush 101, 2) := by decide +kernel
theorem dX11_ordered_117 : decode cX11_ordered 117 = .ok (.iconst 5, 1) := by decide +kernel
theorem dX11_ordered_118 : decode cX11_ordered 118 = .ok (.iload 6, 2) := by decide +kernel
theorem dX11_ordered_120 : decode cX11_ordered 120 = .ok (.imul, 1) := by decide +kernel
theorem dX11_ordered_121 : decode cX11_ordered 121 = .ok (.iadd, 1) := by decide +kernel
theorem dX11_ordered_122 : decode cX11_ordered 122 = .ok (.iload 7, 2) := by decide +kernel
theorem dX11_ordered_124 : decode cX11_ordered 124 = .ok (.iadd, 1) := by decide +kernel
theorem dX11_ordered_125 : decode cX11_ordered 125 = .ok (.iconst (-1), 1) := by decide +kernel
theorem dX11_ordered_126 : decode cX11_ordered 126 = .ok (.iastore, 1) := by decide +kernel
theorem dX11_ordered_127 : decode cX11_ordered 127 = .ok (.iinc 7 1, 3) := by decide +kernel
theorem dX11_ordered_130 : decode cX11_ordered 130 = .ok (.goto (-25), 3) := by decide +kernel
theorem dX11_ordered_133 : decode cX11_ordered 133 = .ok (.aload_n 0, 1) := by decide +kernel
theorem dX11_ordered_134 : decode cX11_ordered 134 = .ok (.getfield 7, 3) := by decide +kernel
theorem dX11_ordered_137 : decode cX11_ordered 137 = .ok (.bipush 40, 2) := by decide +kernel
theorem dX11_ordered_139 : decode cX11_ordered 139 = .ok (.dup2, 1) := by decide +kernel
theorem dX11_ordered_140 : decode cX11_ordered 140 = .ok (.iaload, 1) := by decide +kernel
theorem dX11_ordered_141 : decode cX11_ordered 141 = .ok (.iconst 1, 1) := by decide +kernel
theorem dX11_ordered_142 : decode cX11_ordered 142 = .ok (.iadd, 1) := by decide +kernel
theorem dX11_ordered_143 : decode cX11_ordered 143 = .ok (.iastore, 1) := by decide +kernel
theorem dX11_ordered_144 : decode cX11_ordered 144 = .ok (.iload 6, 2) := by decide +kernel
theorem dX11_ordered_146 : decode cX11_ordered 146 = .ok (.ireturn, 1) := by decide +kernel
theorem dX11_meet_0 : decode cX11_meet 0 = .ok (.aload_n 0, 1) := by decide +kernel
theorem dX11_meet_1 : decode cX11_meet 1 = .ok (.iload_n 1, 1) := by decide +kernel
theorem dX11_meet_2 : decode cX11_meet 2 = .ok (.invokevirtual 133, 3) := by decide +kernel
theorem dX11_meet_5 : decode cX11_meet 5 = .ok (.ifCond .eq 19, 3) := by decide +kernel
theorem dX11_meet_8 : decode cX11_meet 8 = .ok (.aload_n 0, 1) := by decide +kernel
theorem dX11_meet_9 : decode cX11_meet 9 = .ok (.iload_n 2, 1) := by decide +kernel
theorem dX11_meet_10 : decode cX11_meet 10 = .ok (.invokevirtual 133, 3) := by decide +kernel
theorem dX11_meet_13 : decode cX11_meet 13 = .ok (.ifCond .eq 11, 3) := by decide +kernel
theorem dX11_meet_16 : decode cX11_meet 16 = .ok (.aload_n 0, 1) := by decide +kernel
theorem dX11_meet_17 : decode cX11_meet 17 = .ok (.iload_n 3, 1) := by decide +kernel
theorem dX11_meet_18 : decode cX11_meet 18 = .ok (.invokevirtual 127, 3) := by decide +kernel
theorem dX11_meet_21 : decode cX11_meet 21 = .ok (.ifCond .ne 10, 3) := by decide +kernel
theorem dX11_meet_24 : decode cX11_meet 24 = .ok (.aload_n 0, 1) := by decide +kernel
theorem dX11_meet_25 : decode cX11_meet 25 = .ok (.ldc 118, 2) := by decide +kernel
theorem dX11_meet_27 : decode cX11_meet 27 = .ok (.invokevirtual 101, 3) := by decide +kernel
theorem dX11_meet_30 : decode cX11_meet 30 = .ok (.ireturn, 1) := by decide +kernel
theorem dX11_meet_31 : decode cX11_meet 31 = .ok (.aload_n 0, 1) := by decide +kernel
theorem dX11_meet_32 : decode cX11_meet 32 = .ok (.iload_n 1, 1) := by decide +kernel
theorem dX11_meet_33 : decode cX11_meet 33 = .ok (.invokevirtual 140, 3) := by decide +kernel
theorem dX11_meet_36 : decode cX11_meet 36 = .ok (.aload_n 0, 1) := by decide +kernel
theorem dX11_meet_37 : decode cX11_meet 37 = .ok (.iload_n 2, 1) := by decide +kernel
theorem dX11_meet_38 : decode cX11_meet 38 = .ok (.invokevirtual 140, 3) := by decide +kernel
theorem dX11_meet_41 : decode cX11_meet 41 = .ok (.if_icmp .ne 12, 3) := by decide +kernel
theorem dX11_meet_44 : decode cX11_meet 44 = .ok (.aload_n 0, 1) := by decide +kernel
theorem dX11_meet_45 : decode cX11_meet 45 = .ok (.ldc 131, 2) := by decide +kernel
theorem dX11_meet_47 : decode cX11_meet 47 = .ok (.invokevirtual 101, 3) := by decide +kernel
theorem dX11_meet_50 : decode cX11_meet 50 = .ok (.goto 12, 3) := by decide +kernel
theorem dX11_meet_53 : decode cX11_meet 53 = .ok (.aload_n 0, 1) := by decide +kernel
theorem dX11_meet_54 : decode cX11_meet 54 = .ok (.iconst 0, 1) := by decide +kernel
theorem dX11_meet_55 : decode cX11_meet 55 = .ok (.iload_n 1, 1) := by decide +kernel
theorem dX11_meet_56 : decode cX11_meet 56 = .ok (.iload_n 2, 1) := by decide +kernel
theorem dX11_meet_57 : decode cX11_meet 57 = .ok (.iload_n 3, 1) := by decide +kernel
theorem dX11_meet_58 : decode cX11_meet 58 = .ok (.iconst 0, 1) := by decide +kernel
theorem dX11_meet_59 : decode cX11_meet 59 = .ok (.invokevirtual 162, 3) := by decide +kernel
theorem dX11_meet_62 : decode cX11_meet 62 = .ok (.ireturn, 1) := by decide +kernel
theorem dX11_late_0 : decode cX11_late 0 = .ok (.aload_n 0, 1) := by decide +kernel
theorem dX11_late_1 : decode cX11_late 1 = .ok (.iload_n 1, 1) := by decide +kernel
theorem dX11_late_2 : decode cX11_late 2 = .ok (.invokevirtual 133, 3) := by decide +kernel
theorem dX11_late_5 : decode cX11_late 5 = .ok (.ifCond .eq 25, 3) := by decide +kernel
theorem dX11_late_8 : decode cX11_late 8 = .ok (.iload_n 2, 1) := by decide +kernel
theorem dX11_late_9 : decode cX11_late 9 = .ok (.iconst 1, 1) := by decide +kernel
theorem dX11_late_10 : decode cX11_late 10 = .ok (.bipush 120, 2) := by decide +kernel
theorem dX11_late_12 : decode cX11_late 12 = .ok (.invokestatic 108, 3) := by decide +kernel
theorem dX11_late_15 : decode cX11_late 15 = .ok (.ifCond .eq 15, 3) := by decide +kernel
theorem dX11_late_18 : decode cX11_late 18 = .ok (.aload_n 0, 1) := by decide +kernel
theorem dX11_late_19 : decode cX11_late 19 = .ok (.iconst 1, 1) := by decide +kernel
theorem dX11_late_20 : decode cX11_late 20 = .ok (.iload_n 1, 1) := by decide +kernel
theorem dX11_late_21 : decode cX11_late 21 = .ok (.iconst (-1), 1) := by decide +kernel
theorem dX11_late_22 : decode cX11_late 22 = .ok (.iconst (-1), 1) := by decide +kernel
theorem dX11_late_23 : decode cX11_late 23 = .ok (.iload_n 2, 1) := by decide +kernel
theorem dX11_late_24 : decode cX11_late 24 = .ok (.invokevirtual 162, 3) := by decide +kernel
theorem dX11_late_27 : decode cX11_late 27 = .ok (.goto 9, 3) := by decide +kernel
theorem dX11_late_30 : decode cX11_late 30 = .ok (.aload_n 0, 1) := by decide +kernel
theorem dX11_late_31 : decode cX11_late 31 = .ok (.ldc 118, 2) := by decide +kernel
theorem dX11_late_33 : decode cX11_late 33 = .ok (.invokevirtual 101, 3) := by decide +kernel
theorem dX11_late_36 : decode cX11_late 36 = .ok (.ireturn, 1) := by decide +kernel
theorem dX11_wait_0 : decode cX11_wait 0 = .ok (.aload_n 0, 1) := by decide +kernel
theorem dX11_wait_1 : decode cX11_wait 1 = .ok (.iload_n 1, 1) := by decide +kernel
theorem dX11_wait_2 : decode cX11_wait 2 = .ok (.invokevirtual 133, 3) := by decide +kernel
theorem dX11_wait_5 : decode cX11_wait 5 = .ok (.ifCond .eq 34, 3) := by decide +kernel
theorem dX11_wait_8 : decode cX11_wait 8 = .ok (.aload_n 0, 1) := by decide +kernel
theorem dX11_wait_9 : decode cX11_wait 9 = .ok (.iload_n 2, 1) := by decide +kernel
theorem dX11_wait_10 : decode cX11_wait 10 = .ok (.invokevirtual 127, 3) := by decide +kernel
theorem dX11_wait_13 : decode cX11_wait 13 = .ok (.ifCond .eq 26, 3) := by decide +kernel
theorem dX11_wait_16 : decode cX11_wait 16 = .ok (.iload_n 3, 1) := by decide +kernel
theorem dX11_wait_17 : decode cX11_wait 17 = .ok (.iconst 0, 1) := by decide +kernel
theorem dX11_wait_18 : decode cX11_wait 18 = .ok (.sipush 400, 3) := by decide +kernel
theorem dX11_wait_21 : decode cX11_wait 21 = .ok (.invokestatic 108, 3) := by decide +kernel
theorem dX11_wait_24 : decode cX11_wait 24 = .ok (.ifCond .eq 15, 3) := by decide +kernel
theorem dX11_wait_27 : decode cX11_wait 27 = .ok (.aload_n 0, 1) := by decide +kernel
theorem dX11_wait_28 : decode cX11_wait 28 = .ok (.iconst 2, 1) := by decide +kernel
theorem dX11_wait_29 : decode cX11_wait 29 = .ok (.iload_n 1, 1) := by decide +kernel
theorem dX11_wait_30 : decode cX11_wait 30 = .ok (.iconst (-1), 1) := by decide +kernel
theorem dX11_wait_31 : decode cX11_wait 31 = .ok (.iload_n 2, 1) := by decide +kernel
theorem dX11_wait_32 : decode cX11_wait 32 = .ok (.iload_n 3, 1) := by decide +kernel
theorem dX11_wait_33 : decode cX11_wait 33 = .ok (.invokevirtual 162, 3) := by decide +kernel
theorem dX11_wait_36 : decode cX11_wait 36 = .ok (.goto 9, 3) := by decide +kernel
theorem dX11_wait_39 : decode cX11_wait 39 = .ok (.aload_n 0, 1) := by decide +kernel
theorem dX11_wait_40 : decode cX11_wait 40 = .ok (.ldc 118, 2) := by decide +kernel
theorem dX11_wait_42 : decode cX11_wait 42 = .ok (.invokevirtual 101, 3) := by decide +kernel
theorem dX11_wait_45 : decode cX11_wait 45 = .ok (.ireturn, 1) := by decide +kernel
theorem dX11_run_0 : decode cX11_run 0 = .ok (.aload_n 0, 1) := by decide +kernel
theorem dX11_run_1 : decode cX11_run 1 = .ok (.iload_n 1, 1) := by decide +kernel
theorem dX11_run_2 : decode cX11_run 2 = .ok (.invokevirtual 133, 3) := by decide +kernel
theorem dX11_run_5 : decode cX11_run 5 = .ok (.ifCond .eq 26, 3) := by decide +kernel
theorem dX11_run_8 : decode cX11_run 8 = .ok (.iload_n 2, 1) := by decide +kernel
theorem dX11_run_9 : decode cX11_run 9 = .ok (.iconst 0, 1) := by decide +kernel
theorem dX11_run_10 : decode cX11_run 10 = .ok (.sipush 400, 3) := by decide +kernel
theorem dX11_run_13 : decode cX11_run 13 = .ok (.invokestatic 108, 3) := by decide +kernel
theorem dX11_run_16 : decode cX11_run 16 = .ok (.ifCond .eq 15, 3) := by decide +kernel
theorem dX11_run_19 : decode cX11_run 19 = .ok (.aload_n 0, 1) := by decide +kernel
theorem dX11_run_20 : decode cX11_run 20 = .ok (.iconst 3, 1) := by decide +kernel
theorem dX11_run_21 : decode cX11_run 21 = .ok (.iload_n 1, 1) := by decide +kernel
theorem dX11_run_22 : decode cX11_run 22 = .ok (.iconst (-1), 1) := by decide +kernel
theorem dX11_run_23 : decode cX11_run 23 = .ok (.iconst (-1), 1) := by decide +kernel
theorem dX11_run_24 : decode cX11_run 24 = .ok (.iload_n 2, 1) := by decide +kernel
theorem dX11_run_25 : decode cX11_run 25 = .ok (.invokevirtual 162, 3) := by decide +kernel
theorem dX11_run_28 : decode cX11_run 28 = .ok (.goto 9, 3) := by decide +kernel
theorem dX11_run_31 : decode cX11_run 31 = .ok (.aload_n 0, 1) := by decide +kernel
theorem dX11_run_32 : decode cX11_run 32 = .ok (.ldc 118, 2) := by decide +kernel
theorem dX11_run_34 : decode cX11_run 34 = .ok (.invokevirtual 101, 3) := by decide +kernel
theorem dX11_run_37 : decode cX11_run 37 = .ok (.ireturn, 1) := by decide +kernel
theorem dX11_annul_0 : decode cX11_annul 0 = .ok (.aload_n 0, 1) := by decide +kernel
theorem dX11_annul_1 : decode cX11_annul 1 = .ok (.iload_n 1, 1) := by decide +kernel
theorem dX11_annul_2 : decode cX11_annul 2 = .ok (.invokevirtual 166, 3) := by decide +kernel
theorem dX11_annul_5 : decode cX11_annul 5 = .ok (.ifCond .eq 15, 3) := by decide +kernel
theorem dX11_annul_8 : decode cX11_annul 8 = .ok (.aload_n 0, 1) := by decide +kernel
theorem dX11_annul_9 : decode cX11_annul 9 = .ok (.iconst 4, 1) := by decide +kernel
theorem dX11_annul_10 : decode cX11_annul 10 = .ok (.iload_n 1, 1) := by decide +kernel
theorem dX11_annul_11 : decode cX11_annul 11 = .ok (.iconst (-1), 1) := by decide +kernel
theorem dX11_annul_12 : decode cX11_annul 12 = .ok (.iconst (-1), 1) := by decide +kernel
theorem dX11_annul_13 : decode cX11_annul 13 = .ok (.iconst 0, 1) := by decide +kernel
theorem dX11_annul_14 : decode cX11_annul 14 = .ok (.invokevirtual 162, 3) := by decide +kernel
theorem dX11_annul_17 : decode cX11_annul 17 = .ok (.goto 9, 3) := by decide +kernel
theorem dX11_annul_20 : decode cX11_annul 20 = .ok (.aload_n 0, 1) := by decide +kernel
theorem dX11_annul_21 : decode cX11_annul 21 = .ok (.ldc 118, 2) := by decide +kernel
theorem dX11_annul_23 : decode cX11_annul 23 = .ok (.invokevirtual 101, 3) := by decide +kernel
theorem dX11_annul_26 : decode cX11_annul 26 = .ok (.ireturn, 1) := by decide +kernel
theorem dX11_hand_0 : decode cX11_hand 0 = .ok (.aload_n 0, 1) := by decide +kernel
theorem dX11_hand_1 : decode cX11_hand 1 = .ok (.iload_n 1, 1) := by decide +kernel
theorem dX11_hand_2 : decode cX11_hand 2 = .ok (.invokevirtual 166, 3) := by decide +kernel
theorem dX11_hand_5 : decode cX11_hand 5 = .ok (.ifCond .eq 22, 3) := by decide +kernel
theorem dX11_hand_8 : decode cX11_hand 8 = .ok (.aload_n 0, 1) := by decide +kernel
theorem dX11_hand_9 : decode cX11_hand 9 = .ok (.iload_n 2, 1) := by decide +kernel
theorem dX11_hand_10 : decode cX11_hand 10 = .ok (.invokevirtual 133, 3) := by decide +kernel
theorem dX11_hand_13 : decode cX11_hand 13 = .ok (.ifCond .eq 14, 3) := by decide +kernel
theorem dX11_hand_16 : decode cX11_hand 16 = .ok (.iload_n 3, 1) := by decide +kernel
theorem dX11_hand_17 : decode cX11_hand 17 = .ok (.iconst 0, 1) := by decide +kernel
theorem dX11_hand_18 : decode cX11_hand 18 = .ok (.sipush 400, 3) := by decide +kernel
theorem dX11_hand_21 : decode cX11_hand 21 = .ok (.invokestatic 108, 3) := by decide +kernel
theorem dX11_hand_24 : decode cX11_hand 24 = .ok (.ifCond .ne 10, 3) := by decide +kernel
theorem dX11_hand_27 : decode cX11_hand 27 = .ok (.aload_n 0, 1) := by decide +kernel
theorem dX11_hand_28 : decode cX11_hand 28 = .ok (.ldc 118, 2) := by decide +kernel
theorem dX11_hand_30 : decode cX11_hand 30 = .ok (.invokevirtual 101, 3) := by decide +kernel
theorem dX11_hand_33 : decode cX11_hand 33 = .ok (.ireturn, 1) := by decide +kernel
theorem dX11_hand_34 : decode cX11_hand 34 = .ok (.aload_n 0, 1) := by decide +kernel
theorem dX11_hand_35 : decode cX11_hand 35 = .ok (.getfield 7, 3) := by decide +kernel
theorem dX11_hand_38 : decode cX11_hand 38 = .ok (.bipush 101, 2) := by decide +kernel
theorem dX11_hand_40 : decode cX11_hand 40 = .ok (.iconst 5, 1) := by decide +kernel
theorem dX11_hand_41 : decode cX11_hand 41 = .ok (.iload_n 1, 1) := by decide +kernel
theorem dX11_hand_42 : decode cX11_hand 42 = .ok (.imul, 1) := by decide +kernel
theorem dX11_hand_43 : decode cX11_hand 43 = .ok (.iadd, 1) := by decide +kernel
theorem dX11_hand_44 : decode cX11_hand 44 = .ok (.iload_n 2, 1) := by decide +kernel
theorem dX11_hand_45 : decode cX11_hand 45 = .ok (.iadd, 1) := by decide +kernel
theorem dX11_hand_46 : decode cX11_hand 46 = .ok (.iaload, 1) := by decide +kernel
theorem dX11_hand_47 : decode cX11_hand 47 = .ok (.istore 4, 2) := by decide +kernel
theorem dX11_hand_49 : decode cX11_hand 49 = .ok (.aload_n 0, 1) := by decide +kernel
theorem dX11_hand_50 : decode cX11_hand 50 = .ok (.bipush 101, 2) := by decide +kernel
theorem dX11_hand_52 : decode cX11_hand 52 = .ok (.iconst 5, 1) := by decide +kernel
theorem dX11_hand_53 : decode cX11_hand 53 = .ok (.iload_n 1, 1) := by decide +kernel
theorem dX11_hand_54 : decode cX11_hand 54 = .ok (.imul, 1) := by decide +kernel
theorem dX11_hand_55 : decode cX11_hand 55 = .ok (.iadd, 1) := by decide +kernel
theorem dX11_hand_56 : decode cX11_hand 56 = .ok (.iload_n 2, 1) := by decide +kernel
theorem dX11_hand_57 : decode cX11_hand 57 = .ok (.iadd, 1) := by decide +kernel
theorem dX11_hand_58 : decode cX11_hand 58 = .ok (.iload 4, 2) := by decide +kernel
theorem dX11_hand_60 : decode cX11_hand 60 = .ok (.ifCond .lt 14, 3) := by decide +kernel
theorem dX11_hand_63 : decode cX11_hand 63 = .ok (.iload 4, 2) := by decide +kernel
theorem dX11_hand_65 : decode cX11_hand 65 = .ok (.iload_n 3, 1) := by decide +kernel
theorem dX11_hand_66 : decode cX11_hand 66 = .ok (.if_icmp .ge 8, 3) := by decide +kernel
theorem dX11_hand_69 : decode cX11_hand 69 = .ok (.iload 4, 2) := by decide +kernel
theorem dX11_hand_71 : decode cX11_hand 71 = .ok (.goto 4, 3) := by decide +kernel
theorem dX11_hand_74 : decode cX11_hand 74 = .ok (.iload_n 3, 1) := by decide +kernel
theorem dX11_hand_75 : decode cX11_hand 75 = .ok (.invokevirtual 123, 3) := by decide +kernel
theorem dX11_hand_78 : decode cX11_hand 78 = .ok (.ireturn, 1) := by decide +kernel
theorem dX11_findHeld_0 : decode cX11_findHeld 0 = .ok (.aload_n 0, 1) := by decide +kernel
theorem dX11_findHeld_1 : decode cX11_findHeld 1 = .ok (.getfield 7, 3) := by decide +kernel
theorem dX11_findHeld_4 : decode cX11_findHeld 4 = .ok (.bipush 40, 2) := by decide +kernel
theorem dX11_findHeld_6 : decode cX11_findHeld 6 = .ok (.iaload, 1) := by decide +kernel
theorem dX11_findHeld_7 : decode cX11_findHeld 7 = .ok (.iconst 1, 1) := by decide +kernel
theorem dX11_findHeld_8 : decode cX11_findHeld 8 = .ok (.isub, 1) := by decide +kernel
theorem dX11_findHeld_9 : decode cX11_findHeld 9 = .ok (.istore_n 3, 1) := by decide +kernel
theorem dX11_findHeld_10 : decode cX11_findHeld 10 = .ok (.iload_n 3, 1) := by decide +kernel
theorem dX11_findHeld_11 : decode cX11_findHeld 11 = .ok (.ifCond .lt 115, 3) := by decide +kernel
theorem dX11_findHeld_14 : decode cX11_findHeld 14 = .ok (.aload_n 0, 1) := by decide +kernel
theorem dX11_findHeld_15 : decode cX11_findHeld 15 = .ok (.getfield 7, 3) := by decide +kernel
theorem dX11_findHeld_18 : decode cX11_findHeld 18 = .ok (.bipush 101, 2) := by decide +kernel
theorem dX11_findHeld_20 : decode cX11_findHeld 20 = .ok (.iconst 5, 1) := by decide +kernel
theorem dX11_findHeld_21 : decode cX11_findHeld 21 = .ok (.iload_n 3, 1) := by decide +kernel
theorem dX11_findHeld_22 : decode cX11_findHeld 22 = .ok (.imul, 1) := by decide +kernel
theorem dX11_findHeld_23 : decode cX11_findHeld 23 = .ok (.iadd, 1) := by decide +kernel
theorem dX11_findHeld_24 : decode cX11_findHeld 24 = .ok (.iload_n 1, 1) := by decide +kernel
theorem dX11_findHeld_25 : decode cX11_findHeld 25 = .ok (.iadd, 1) := by decide +kernel
theorem dX11_findHeld_26 : decode cX11_findHeld 26 = .ok (.iaload, 1) := by decide +kernel
theorem dX11_findHeld_27 : decode cX11_findHeld 27 = .ok (.istore 4, 2) := by decide +kernel
theorem dX11_findHeld_29 : decode cX11_findHeld 29 = .ok (.iload 4, 2) := by decide +kernel
theorem dX11_findHeld_31 : decode cX11_findHeld 31 = .ok (.ifCond .lt 13, 3) := by decide +kernel
theorem dX11_findHeld_34 : decode cX11_findHeld 34 = .ok (.iload 4, 2) := by decide +kernel
theorem dX11_findHeld_36 : decode cX11_findHeld 36 = .ok (.iload_n 2, 1) := by decide +kernel
theorem dX11_findHeld_37 : decode cX11_findHeld 37 = .ok (.if_icmp .gt 7, 3) := by decide +kernel
theorem dX11_findHeld_40 : decode cX11_findHeld 40 = .ok (.iconst 1, 1) := by decide +kernel
theorem dX11_findHeld_41 : decode cX11_findHeld 41 = .ok (.goto 4, 3) := by decide +kernel
theorem dX11_findHeld_44 : decode cX11_findHeld 44 = .ok (.iconst 0, 1) := by decide +kernel
theorem dX11_findHeld_45 : decode cX11_findHeld 45 = .ok (.istore 5, 2) := by decide +kernel
theorem dX11_findHeld_47 : decode cX11_findHeld 47 = .ok (.iload_n 3, 1) := by decide +kernel
theorem dX11_findHeld_48 : decode cX11_findHeld 48 = .ok (.iconst 1, 1) := by decide +kernel
theorem dX11_findHeld_49 : decode cX11_findHeld 49 = .ok (.iadd, 1) := by decide +kernel
theorem dX11_findHeld_50 : decode cX11_findHeld 50 = .ok (.istore 6, 2) := by decide +kernel
theorem dX11_findHeld_52 : decode cX11_findHeld 52 = .ok (.iload 6, 2) := by decide +kernel
theorem dX11_findHeld_54 : decode cX11_findHeld 54 = .ok (.aload_n 0, 1) := by decide +kernel
theorem dX11_findHeld_55 : decode cX11_findHeld 55 = .ok (.getfield 7, 3) := by decide +kernel
theorem dX11_findHeld_58 : decode cX11_findHeld 58 = .ok (.bipush 40, 2) := by decide +kernel
theorem dX11_findHeld_60 : decode cX11_findHeld 60 = .ok (.iaload, 1) := by decide +kernel
theorem dX11_findHeld_61 : decode cX11_findHeld 61 = .ok (.if_icmp .ge 51, 3) := by decide +kernel
theorem dX11_findHeld_64 : decode cX11_findHeld 64 = .ok (.iload 5, 2) := by decide +kernel
theorem dX11_findHeld_66 : decode cX11_findHeld 66 = .ok (.ifCond .eq 37, 3) := by decide +kernel
theorem dX11_findHeld_69 : decode cX11_findHeld 69 = .ok (.aload_n 0, 1) := by decide +kernel
theorem dX11_findHeld_70 : decode cX11_findHeld 70 = .ok (.getfield 28, 3) := by decide +kernel
theorem dX11_findHeld_73 : decode cX11_findHeld 73 = .ok (.iload 6, 2) := by decide +kernel
theorem dX11_findHeld_75 : decode cX11_findHeld 75 = .ok (.baload, 1) := by decide +kernel
theorem dX11_findHeld_76 : decode cX11_findHeld 76 = .ok (.ifCond .eq 23, 3) := by decide +kernel
theorem dX11_findHeld_79 : decode cX11_findHeld 79 = .ok (.aload_n 0, 1) := by decide +kernel
theorem dX11_findHeld_80 : decode cX11_findHeld 80 = .ok (.iload 6, 2) := by decide +kernel
theorem dX11_findHeld_82 : decode cX11_findHeld 82 = .ok (.invokevirtual 169, 3) := by decide +kernel
theorem dX11_findHeld_85 : decode cX11_findHeld 85 = .ok (.iconst 4, 1) := by decide +kernel
theorem dX11_findHeld_86 : decode cX11_findHeld 86 = .ok (.if_icmp .ne 13, 3) := by decide +kernel
theorem dX11_findHeld_89 : decode cX11_findHeld 89 = .ok (.aload_n 0, 1) := by decide +kernel
theorem dX11_findHeld_90 : decode cX11_findHeld 90 = .ok (.iload 6, 2) := by decide +kernel
theorem dX11_findHeld_92 : decode cX11_findHeld 92 = .ok (.invokevirtual 172, 3) := by decide +kernel
theorem dX11_findHeld_95 : decode cX11_findHeld 95 = .ok (.iload_n 3, 1) := by decide +kernel
theorem dX11_findHeld_96 : decode cX11_findHeld 96 = .ok (.if_icmp .eq 7, 3) := by decide +kernel
theorem dX11_findHeld_99 : decode cX11_findHeld 99 = .ok (.iconst 1, 1) := by decide +kernel
theorem dX11_findHeld_100 : decode cX11_findHeld 100 = .ok (.goto 4, 3) := by decide +kernel
theorem dX11_findHeld_103 : decode cX11_findHeld 103 = .ok (.iconst 0, 1) := by decide +kernel
theorem dX11_findHeld_104 : decode cX11_findHeld 104 = .ok (.istore 5, 2) := by decide +kernel
theorem dX11_findHeld_106 : decode cX11_findHeld 106 = .ok (.iinc 6 1, 3) := by decide +kernel
theorem dX11_findHeld_109 : decode cX11_findHeld 109 = .ok (.goto (-57), 3) := by decide +kernel
theorem dX11_findHeld_112 : decode cX11_findHeld 112 = .ok (.aload_n 0, 1) := by decide +kernel
theorem dX11_findHeld_113 : decode cX11_findHeld 113 = .ok (.getfield 28, 3) := by decide +kernel
theorem dX11_findHeld_116 : decode cX11_findHeld 116 = .ok (.iload_n 3, 1) := by decide +kernel
theorem dX11_findHeld_117 : decode cX11_findHeld 117 = .ok (.iload 5, 2) := by decide +kernel
theorem dX11_findHeld_119 : decode cX11_findHeld 119 = .ok (.bastore, 1) := by decide +kernel
theorem dX11_findHeld_120 : decode cX11_findHeld 120 = .ok (.iinc 3 (-1), 3) := by decide +kernel
theorem dX11_findHeld_123 : decode cX11_findHeld 123 = .ok (.goto (-113), 3) := by decide +kernel
theorem dX11_findHeld_126 : decode cX11_findHeld 126 = .ok (.return_, 1) := by decide +kernel
theorem dX11_holds_0 : decode cX11_holds 0 = .ok (.aload_n 0, 1) := by decide +kernel
theorem dX11_holds_1 : decode cX11_holds 1 = .ok (.iload_n 1, 1) := by decide +kernel
theorem dX11_holds_2 : decode cX11_holds 2 = .ok (.invokevirtual 133, 3) := by decide +kernel
theorem dX11_holds_5 : decode cX11_holds 5 = .ok (.ifCond .eq 18, 3) := by decide +kernel
theorem dX11_holds_8 : decode cX11_holds 8 = .ok (.aload_n 0, 1) := by decide +kernel
theorem dX11_holds_9 : decode cX11_holds 9 = .ok (.iload_n 2, 1) := by decide +kernel
theorem dX11_holds_10 : decode cX11_holds 10 = .ok (.invokevirtual 166, 3) := by decide +kernel
theorem dX11_holds_13 : decode cX11_holds 13 = .ok (.ifCond .eq 10, 3) := by decide +kernel
theorem dX11_holds_16 : decode cX11_holds 16 = .ok (.iload_n 3, 1) := by decide +kernel
theorem dX11_holds_17 : decode cX11_holds 17 = .ok (.invokestatic 175, 3) := by decide +kernel
theorem dX11_holds_20 : decode cX11_holds 20 = .ok (.ifCond .ne 10, 3) := by decide +kernel
theorem dX11_holds_23 : decode cX11_holds 23 = .ok (.aload_n 0, 1) := by decide +kernel
theorem dX11_holds_24 : decode cX11_holds 24 = .ok (.ldc 118, 2) := by decide +kernel
theorem dX11_holds_26 : decode cX11_holds 26 = .ok (.invokevirtual 101, 3) := by decide +kernel
theorem dX11_holds_29 : decode cX11_holds 29 = .ok (.ireturn, 1) := by decide +kernel
theorem dX11_holds_30 : decode cX11_holds 30 = .ok (.aload_n 0, 1) := by decide +kernel
theorem dX11_holds_31 : decode cX11_holds 31 = .ok (.iload_n 1, 1) := by decide +kernel
theorem dX11_holds_32 : decode cX11_holds 32 = .ok (.iload_n 3, 1) := by decide +kernel
theorem dX11_holds_33 : decode cX11_holds 33 = .ok (.invokevirtual 178, 3) := by decide +kernel
theorem dX11_holds_36 : decode cX11_holds 36 = .ok (.aload_n 0, 1) := by decide +kernel
theorem dX11_holds_37 : decode cX11_holds 37 = .ok (.getfield 28, 3) := by decide +kernel
theorem dX11_holds_40 : decode cX11_holds 40 = .ok (.iload_n 2, 1) := by decide +kernel
theorem dX11_holds_41 : decode cX11_holds 41 = .ok (.baload, 1) := by decide +kernel
theorem dX11_holds_42 : decode cX11_holds 42 = .ok (.ifCond .eq 7, 3) := by decide +kernel
theorem dX11_holds_45 : decode cX11_holds 45 = .ok (.iconst 1, 1) := by decide +kernel
theorem dX11_holds_46 : decode cX11_holds 46 = .ok (.goto 4, 3) := by decide +kernel
theorem dX11_holds_49 : decode cX11_holds 49 = .ok (.iconst 0, 1) := by decide +kernel
theorem dX11_holds_50 : decode cX11_holds 50 = .ok (.ireturn, 1) := by decide +kernel
theorem dX11_order_0 : decode cX11_order 0 = .ok (.aload_n 0, 1) := by decide +kernel
theorem dX11_order_1 : decode cX11_order 1 = .ok (.iload_n 1, 1) := by decide +kernel
theorem dX11_order_2 : decode cX11_order 2 = .ok (.invokevirtual 166, 3) := by decide +kernel
theorem dX11_order_5 : decode cX11_order 5 = .ok (.ifCond .eq 12, 3) := by decide +kernel
theorem dX11_order_8 : decode cX11_order 8 = .ok (.iload_n 2, 1) := by decide +kernel
theorem dX11_order_9 : decode cX11_order 9 = .ok (.iconst 0, 1) := by decide +kernel
theorem dX11_order_10 : decode cX11_order 10 = .ok (.iconst 5, 1) := by decide +kernel
theorem dX11_order_11 : decode cX11_order 11 = .ok (.invokestatic 108, 3) := by decide +kernel
theorem dX11_order_14 : decode cX11_order 14 = .ok (.ifCond .ne 10, 3) := by decide +kernel
theorem dX11_order_17 : decode cX11_order 17 = .ok (.aload_n 0, 1) := by decide +kernel
theorem dX11_order_18 : decode cX11_order 18 = .ok (.ldc 118, 2) := by decide +kernel
theorem dX11_order_20 : decode cX11_order 20 = .ok (.invokevirtual 101, 3) := by decide +kernel
theorem dX11_order_23 : decode cX11_order 23 = .ok (.ireturn, 1) := by decide +kernel
theorem dX11_order_24 : decode cX11_order 24 = .ok (.iload_n 2, 1) := by decide +kernel
theorem dX11_order_25 : decode cX11_order 25 = .ok (.iconst 5, 1) := by decide +kernel
theorem dX11_order_26 : decode cX11_order 26 = .ok (.if_icmp .ge 17, 3) := by decide +kernel
theorem dX11_order_29 : decode cX11_order 29 = .ok (.aload_n 0, 1) := by decide +kernel
theorem dX11_order_30 : decode cX11_order 30 = .ok (.getfield 7, 3) := by decide +kernel
theorem dX11_order_33 : decode cX11_order 33 = .ok (.bipush 41, 2) := by decide +kernel
theorem dX11_order_35 : decode cX11_order 35 = .ok (.iconst 5, 1) := by decide +kernel
theorem dX11_order_36 : decode cX11_order 36 = .ok (.iload_n 1, 1) := by decide +kernel
theorem dX11_order_37 : decode cX11_order 37 = .ok (.imul, 1) := by decide +kernel
theorem dX11_order_38 : decode cX11_order 38 = .ok (.iadd, 1) := by decide +kernel
theorem dX11_order_39 : decode cX11_order 39 = .ok (.iload_n 2, 1) := by decide +kernel
theorem dX11_order_40 : decode cX11_order 40 = .ok (.iadd, 1) := by decide +kernel
theorem dX11_order_41 : decode cX11_order 41 = .ok (.iaload, 1) := by decide +kernel
theorem dX11_order_42 : decode cX11_order 42 = .ok (.ireturn, 1) := by decide +kernel
theorem dX11_order_43 : decode cX11_order 43 = .ok (.iconst 0, 1) := by decide +kernel
theorem dX11_order_44 : decode cX11_order 44 = .ok (.istore_n 3, 1) := by decide +kernel
theorem dX11_order_45 : decode cX11_order 45 = .ok (.iconst 0, 1) := by decide +kernel
theorem dX11_order_46 : decode cX11_order 46 = .ok (.istore 4, 2) := by decide +kernel
theorem dX11_order_48 : decode cX11_order 48 = .ok (.iload 4, 2) := by decide +kernel
theorem dX11_order_50 : decode cX11_order 50 = .ok (.iconst 5, 1) := by decide +kernel
theorem dX11_order_51 : decode cX11_order 51 = .ok (.if_icmp .ge 37, 3) := by decide +kernel
theorem dX11_order_54 : decode cX11_order 54 = .ok (.iload_n 3, 1) := by decide +kernel
theorem dX11_order_55 : decode cX11_order 55 = .ok (.aload_n 0, 1) := by decide +kernel
theorem dX11_order_56 : decode cX11_order 56 = .ok (.getfield 7, 3) := by decide +kernel
theorem dX11_order_59 : decode cX11_order 59 = .ok (.bipush 101, 2) := by decide +kernel
theorem dX11_order_61 : decode cX11_order 61 = .ok (.iconst 5, 1) := by decide +kernel
theorem dX11_order_62 : decode cX11_order 62 = .ok (.iload_n 1, 1) := by decide +kernel
theorem dX11_order_63 : decode cX11_order 63 = .ok (.imul, 1) := by decide +kernel
theorem dX11_order_64 : decode cX11_order 64 = .ok (.iadd, 1) := by decide +kernel
theorem dX11_order_65 : decode cX11_order 65 = .ok (.iload 4, 2) := by decide +kernel
theorem dX11_order_67 : decode cX11_order 67 = .ok (.iadd, 1) := by decide +kernel
theorem dX11_order_68 : decode cX11_order 68 = .ok (.iaload, 1) := by decide +kernel
theorem dX11_order_69 : decode cX11_order 69 = .ok (.ifCond .lt 10, 3) := by decide +kernel
theorem dX11_order_72 : decode cX11_order 72 = .ok (.iconst 1, 1) := by decide +kernel
theorem dX11_order_73 : decode cX11_order 73 = .ok (.iload 4, 2) := by decide +kernel
theorem dX11_order_75 : decode cX11_order 75 = .ok (.ishl, 1) := by decide +kernel
theorem dX11_order_76 : decode cX11_order 76 = .ok (.goto 4, 3) := by decide +kernel
theorem dX11_order_79 : decode cX11_order 79 = .ok (.iconst 0, 1) := by decide +kernel
theorem dX11_order_80 : decode cX11_order 80 = .ok (.ior, 1) := by decide +kernel
theorem dX11_order_81 : decode cX11_order 81 = .ok (.istore_n 3, 1) := by decide +kernel
theorem dX11_order_82 : decode cX11_order 82 = .ok (.iinc 4 1, 3) := by decide +kernel
theorem dX11_order_85 : decode cX11_order 85 = .ok (.goto (-37), 3) := by decide +kernel
theorem dX11_order_88 : decode cX11_order 88 = .ok (.iload_n 3, 1) := by decide +kernel
theorem dX11_order_89 : decode cX11_order 89 = .ok (.ireturn, 1) := by decide +kernel
theorem dX11_force_0 : decode cX11_force 0 = .ok (.aload_n 0, 1) := by decide +kernel
theorem dX11_force_1 : decode cX11_force 1 = .ok (.iload_n 1, 1) := by decide +kernel
theorem dX11_force_2 : decode cX11_force 2 = .ok (.invokevirtual 133, 3) := by decide +kernel
theorem dX11_force_5 : decode cX11_force 5 = .ok (.ifCond .eq 10, 3) := by decide +kernel
theorem dX11_force_8 : decode cX11_force 8 = .ok (.iload_n 2, 1) := by decide +kernel
theorem dX11_force_9 : decode cX11_force 9 = .ok (.invokestatic 175, 3) := by decide +kernel
theorem dX11_force_12 : decode cX11_force 12 = .ok (.ifCond .ne 10, 3) := by decide +kernel
theorem dX11_force_15 : decode cX11_force 15 = .ok (.aload_n 0, 1) := by decide +kernel
theorem dX11_force_16 : decode cX11_force 16 = .ok (.ldc 118, 2) := by decide +kernel
theorem dX11_force_18 : decode cX11_force 18 = .ok (.invokevirtual 101, 3) := by decide +kernel
theorem dX11_force_21 : decode cX11_force 21 = .ok (.ireturn, 1) := by decide +kernel
theorem dX11_force_22 : decode cX11_force 22 = .ok (.aload_n 0, 1) := by decide +kernel
theorem dX11_force_23 : decode cX11_force 23 = .ok (.getfield 7, 3) := by decide +kernel
theorem dX11_force_26 : decode cX11_force 26 = .ok (.sipush 161, 3) := by decide +kernel
theorem dX11_force_29 : decode cX11_force 29 = .ok (.iaload, 1) := by decide +kernel
theorem dX11_force_30 : decode cX11_force 30 = .ok (.bipush 6, 2) := by decide +kernel
theorem dX11_force_32 : decode cX11_force 32 = .ok (.if_icmp .ne 10, 3) := by decide +kernel
theorem dX11_force_35 : decode cX11_force 35 = .ok (.aload_n 0, 1) := by decide +kernel
theorem dX11_force_36 : decode cX11_force 36 = .ok (.ldc 132, 2) := by decide +kernel
theorem dX11_force_38 : decode cX11_force 38 = .ok (.invokevirtual 101, 3) := by decide +kernel
theorem dX11_force_41 : decode cX11_force 41 = .ok (.ireturn, 1) := by decide +kernel
theorem dX11_force_42 : decode cX11_force 42 = .ok (.aload_n 0, 1) := by decide +kernel
theorem dX11_force_43 : decode cX11_force 43 = .ok (.invokevirtual 105, 3) := by decide +kernel
theorem dX11_force_46 : decode cX11_force 46 = .ok (.aload_n 0, 1) := by decide +kernel
theorem dX11_force_47 : decode cX11_force 47 = .ok (.getfield 7, 3) := by decide +kernel
theorem dX11_force_50 : decode cX11_force 50 = .ok (.sipush 162, 3) := by decide +kernel
theorem dX11_force_53 : decode cX11_force 53 = .ok (.iconst 2, 1) := by decide +kernel
theorem dX11_force_54 : decode cX11_force 54 = .ok (.aload_n 0, 1) := by decide +kernel
theorem dX11_force_55 : decode cX11_force 55 = .ok (.getfield 7, 3) := by decide +kernel
theorem dX11_force_58 : decode cX11_force 58 = .ok (.sipush 161, 3) := by decide +kernel
theorem dX11_force_61 : decode cX11_force 61 = .ok (.iaload, 1) := by decide +kernel
theorem dX11_force_62 : decode cX11_force 62 = .ok (.imul, 1) := by decide +kernel
theorem dX11_force_63 : decode cX11_force 63 = .ok (.iadd, 1) := by decide +kernel
theorem dX11_force_64 : decode cX11_force 64 = .ok (.iload_n 1, 1) := by decide +kernel
theorem dX11_force_65 : decode cX11_force 65 = .ok (.iastore, 1) := by decide +kernel
theorem dX11_force_66 : decode cX11_force 66 = .ok (.aload_n 0, 1) := by decide +kernel
theorem dX11_force_67 : decode cX11_force 67 = .ok (.getfield 7, 3) := by decide +kernel
theorem dX11_force_70 : decode cX11_force 70 = .ok (.sipush 162, 3) := by decide +kernel
theorem dX11_force_73 : decode cX11_force 73 = .ok (.iconst 2, 1) := by decide +kernel
theorem dX11_force_74 : decode cX11_force 74 = .ok (.aload_n 0, 1) := by decide +kernel
theorem dX11_force_75 : decode cX11_force 75 = .ok (.getfield 7, 3) := by decide +kernel
theorem dX11_force_78 : decode cX11_force 78 = .ok (.sipush 161, 3) := by decide +kernel
theorem dX11_force_81 : decode cX11_force 81 = .ok (.iaload, 1) := by decide +kernel
theorem dX11_force_82 : decode cX11_force 82 = .ok (.imul, 1) := by decide +kernel
theorem dX11_force_83 : decode cX11_force 83 = .ok (.iadd, 1) := by decide +kernel
theorem dX11_force_84 : decode cX11_force 84 = .ok (.iconst 1, 1) := by decide +kernel
theorem dX11_force_85 : decode cX11_force 85 = .ok (.iadd, 1) := by decide +kernel
theorem dX11_force_86 : decode cX11_force 86 = .ok (.iload_n 2, 1) := by decide +kernel
theorem dX11_force_87 : decode cX11_force 87 = .ok (.iastore, 1) := by decide +kernel
theorem dX11_force_88 : decode cX11_force 88 = .ok (.aload_n 0, 1) := by decide +kernel
theorem dX11_force_89 : decode cX11_force 89 = .ok (.getfield 7, 3) := by decide +kernel
theorem dX11_force_92 : decode cX11_force 92 = .ok (.sipush 161, 3) := by decide +kernel
theorem dX11_force_95 : decode cX11_force 95 = .ok (.dup2, 1) := by decide +kernel
theorem dX11_force_96 : decode cX11_force 96 = .ok (.iaload, 1) := by decide +kernel
theorem dX11_force_97 : decode cX11_force 97 = .ok (.iconst 1, 1) := by decide +kernel
theorem dX11_force_98 : decode cX11_force 98 = .ok (.iadd, 1) := by decide +kernel
theorem dX11_force_99 : decode cX11_force 99 = .ok (.iastore, 1) := by decide +kernel
theorem dX11_force_100 : decode cX11_force 100 = .ok (.aload_n 0, 1) := by decide +kernel
theorem dX11_force_101 : decode cX11_force 101 = .ok (.getfield 7, 3) := by decide +kernel
theorem dX11_force_104 : decode cX11_force 104 = .ok (.sipush 161, 3) := by decide +kernel
theorem dX11_force_107 : decode cX11_force 107 = .ok (.iaload, 1) := by decide +kernel
theorem dX11_force_108 : decode cX11_force 108 = .ok (.ireturn, 1) := by decide +kernel
theorem dX11_isForced_0 : decode cX11_isForced 0 = .ok (.iconst 0, 1) := by decide +kernel
theorem dX11_isForced_1 : decode cX11_isForced 1 = .ok (.istore_n 3, 1) := by decide +kernel
theorem dX11_isForced_2 : decode cX11_isForced 2 = .ok (.iload_n 3, 1) := by decide +kernel
theorem dX11_isForced_3 : decode cX11_isForced 3 = .ok (.aload_n 0, 1) := by decide +kernel
theorem dX11_isForced_4 : decode cX11_isForced 4 = .ok (.getfield 7, 3) := by decide +kernel
theorem dX11_isForced_7 : decode cX11_isForced 7 = .ok (.sipush 161, 3) := by decide +kernel
theorem dX11_isForced_10 : decode cX11_isForced 10 = .ok (.iaload, 1) := by decide +kernel
theorem dX11_isForced_11 : decode cX11_isForced 11 = .ok (.if_icmp .ge 45, 3) := by decide +kernel
theorem dX11_isForced_14 : decode cX11_isForced 14 = .ok (.aload_n 0, 1) := by decide +kernel
theorem dX11_isForced_15 : decode cX11_isForced 15 = .ok (.getfield 7, 3) := by decide +kernel
theorem dX11_isForced_18 : decode cX11_isForced 18 = .ok (.sipush 162, 3) := by decide +kernel
theorem dX11_isForced_21 : decode cX11_isForced 21 = .ok (.iconst 2, 1) := by decide +kernel
theorem dX11_isForced_22 : decode cX11_isForced 22 = .ok (.iload_n 3, 1) := by decide +kernel
theorem dX11_isForced_23 : decode cX11_isForced 23 = .ok (.imul, 1) := by decide +kernel
theorem dX11_isForced_24 : decode cX11_isForced 24 = .ok (.iadd, 1) := by decide +kernel
theorem dX11_isForced_25 : decode cX11_isForced 25 = .ok (.iaload, 1) := by decide +kernel
theorem dX11_isForced_26 : decode cX11_isForced 26 = .ok (.iload_n 1, 1) := by decide +kernel
theorem dX11_isForced_27 : decode cX11_isForced 27 = .ok (.if_icmp .ne 23, 3) := by decide +kernel
theorem dX11_isForced_30 : decode cX11_isForced 30 = .ok (.aload_n 0, 1) := by decide +kernel
theorem dX11_isForced_31 : decode cX11_isForced 31 = .ok (.getfield 7, 3) := by decide +kernel
theorem dX11_isForced_34 : decode cX11_isForced 34 = .ok (.sipush 162, 3) := by decide +kernel
theorem dX11_isForced_37 : decode cX11_isForced 37 = .ok (.iconst 2, 1) := by decide +kernel
theorem dX11_isForced_38 : decode cX11_isForced 38 = .ok (.iload_n 3, 1) := by decide +kernel
theorem dX11_isForced_39 : decode cX11_isForced 39 = .ok (.imul, 1) := by decide +kernel
theorem dX11_isForced_40 : decode cX11_isForced 40 = .ok (.iadd, 1) := by decide +kernel
theorem dX11_isForced_41 : decode cX11_isForced 41 = .ok (.iconst 1, 1) := by decide +kernel
theorem dX11_isForced_42 : decode cX11_isForced 42 = .ok (.iadd, 1) := by decide +kernel
theorem dX11_isForced_43 : decode cX11_isForced 43 = .ok (.iaload, 1) := by decide +kernel
theorem dX11_isForced_44 : decode cX11_isForced 44 = .ok (.iload_n 2, 1) := by decide +kernel
theorem dX11_isForced_45 : decode cX11_isForced 45 = .ok (.if_icmp .ne 5, 3) := by decide +kernel
theorem dX11_isForced_48 : decode cX11_isForced 48 = .ok (.iconst 1, 1) := by decide +kernel
theorem dX11_isForced_49 : decode cX11_isForced 49 = .ok (.ireturn, 1) := by decide +kernel
theorem dX11_isForced_50 : decode cX11_isForced 50 = .ok (.iinc 3 1, 3) := by decide +kernel
theorem dX11_isForced_53 : decode cX11_isForced 53 = .ok (.goto (-51), 3) := by decide +kernel
theorem dX11_isForced_56 : decode cX11_isForced 56 = .ok (.iconst 0, 1) := by decide +kernel
theorem dX11_isForced_57 : decode cX11_isForced 57 = .ok (.ireturn, 1) := by decide +kernel
theorem dX11_begin_0 : decode cX11_begin 0 = .ok (.iconst 0, 1) := by decide +kernel
theorem dX11_begin_1 : decode cX11_begin 1 = .ok (.istore_n 1, 1) := by decide +kernel
theorem dX11_begin_2 : decode cX11_begin 2 = .ok (.iload_n 1, 1) := by decide +kernel
theorem dX11_begin_3 : decode cX11_begin 3 = .ok (.iconst 5, 1) := by decide +kernel
theorem dX11_begin_4 : decode cX11_begin 4 = .ok (.if_icmp .ge 82, 3) := by decide +kernel
theorem dX11_begin_7 : decode cX11_begin 7 = .ok (.aload_n 0, 1) := by decide +kernel
theorem dX11_begin_8 : decode cX11_begin 8 = .ok (.getfield 32, 3) := by decide +kernel
theorem dX11_begin_11 : decode cX11_begin 11 = .ok (.iload_n 1, 1) := by decide +kernel
theorem dX11_begin_12 : decode cX11_begin 12 = .ok (.iconst 0, 1) := by decide +kernel
theorem dX11_begin_13 : decode cX11_begin 13 = .ok (.iastore, 1) := by decide +kernel
theorem dX11_begin_14 : decode cX11_begin 14 = .ok (.aload_n 0, 1) := by decide +kernel
theorem dX11_begin_15 : decode cX11_begin 15 = .ok (.getfield 35, 3) := by decide +kernel
theorem dX11_begin_18 : decode cX11_begin 18 = .ok (.iload_n 1, 1) := by decide +kernel
theorem dX11_begin_19 : decode cX11_begin 19 = .ok (.iload_n 1, 1) := by decide +kernel
theorem dX11_begin_20 : decode cX11_begin 20 = .ok (.aload_n 0, 1) := by decide +kernel
theorem dX11_begin_21 : decode cX11_begin 21 = .ok (.getfield 7, 3) := by decide +kernel
theorem dX11_begin_24 : decode cX11_begin 24 = .ok (.bipush 14, 2) := by decide +kernel
theorem dX11_begin_26 : decode cX11_begin 26 = .ok (.iaload, 1) := by decide +kernel
theorem dX11_begin_27 : decode cX11_begin 27 = .ok (.if_icmp .ge 11, 3) := by decide +kernel
theorem dX11_begin_30 : decode cX11_begin 30 = .ok (.aload_n 0, 1) := by decide +kernel
theorem dX11_begin_31 : decode cX11_begin 31 = .ok (.iload_n 1, 1) := by decide +kernel
theorem dX11_begin_32 : decode cX11_begin 32 = .ok (.invokevirtual 115, 3) := by decide +kernel
theorem dX11_begin_35 : decode cX11_begin 35 = .ok (.goto 4, 3) := by decide +kernel
theorem dX11_begin_38 : decode cX11_begin 38 = .ok (.iconst 0, 1) := by decide +kernel
theorem dX11_begin_39 : decode cX11_begin 39 = .ok (.iastore, 1) := by decide +kernel
theorem dX11_begin_40 : decode cX11_begin 40 = .ok (.aload_n 0, 1) := by decide +kernel
theorem dX11_begin_41 : decode cX11_begin 41 = .ok (.getfield 38, 3) := by decide +kernel
theorem dX11_begin_44 : decode cX11_begin 44 = .ok (.iload_n 1, 1) := by decide +kernel
theorem dX11_begin_45 : decode cX11_begin 45 = .ok (.iload_n 1, 1) := by decide +kernel
theorem dX11_begin_46 : decode cX11_begin 46 = .ok (.aload_n 0, 1) := by decide +kernel
theorem dX11_begin_47 : decode cX11_begin 47 = .ok (.getfield 7, 3) := by decide +kernel
theorem dX11_begin_50 : decode cX11_begin 50 = .ok (.bipush 14, 2) := by decide +kernel
theorem dX11_begin_52 : decode cX11_begin 52 = .ok (.iaload, 1) := by decide +kernel
theorem dX11_begin_53 : decode cX11_begin 53 = .ok (.if_icmp .ge 11, 3) := by decide +kernel
theorem dX11_begin_56 : decode cX11_begin 56 = .ok (.aload_n 0, 1) := by decide +kernel
theorem dX11_begin_57 : decode cX11_begin 57 = .ok (.iload_n 1, 1) := by decide +kernel
theorem dX11_begin_58 : decode cX11_begin 58 = .ok (.invokevirtual 140, 3) := by decide +kernel
theorem dX11_begin_61 : decode cX11_begin 61 = .ok (.goto 4, 3) := by decide +kernel
theorem dX11_begin_64 : decode cX11_begin 64 = .ok (.iconst 0, 1) := by decide +kernel
theorem dX11_begin_65 : decode cX11_begin 65 = .ok (.iastore, 1) := by decide +kernel
theorem dX11_begin_66 : decode cX11_begin 66 = .ok (.aload_n 0, 1) := by decide +kernel
theorem dX11_begin_67 : decode cX11_begin 67 = .ok (.getfield 62, 3) := by decide +kernel
theorem dX11_begin_70 : decode cX11_begin 70 = .ok (.iload_n 1, 1) := by decide +kernel
theorem dX11_begin_71 : decode cX11_begin 71 = .ok (.iconst 0, 1) := by decide +kernel
theorem dX11_begin_72 : decode cX11_begin 72 = .ok (.bastore, 1) := by decide +kernel
theorem dX11_begin_73 : decode cX11_begin 73 = .ok (.aload_n 0, 1) := by decide +kernel
theorem dX11_begin_74 : decode cX11_begin 74 = .ok (.getfield 44, 3) := by decide +kernel
theorem dX11_begin_77 : decode cX11_begin 77 = .ok (.iload_n 1, 1) := by decide +kernel
theorem dX11_begin_78 : decode cX11_begin 78 = .ok (.iconst (-1), 1) := by decide +kernel
theorem dX11_begin_79 : decode cX11_begin 79 = .ok (.iastore, 1) := by decide +kernel
theorem dX11_begin_80 : decode cX11_begin 80 = .ok (.iinc 1 1, 3) := by decide +kernel
theorem dX11_begin_83 : decode cX11_begin 83 = .ok (.goto (-81), 3) := by decide +kernel
theorem dX11_begin_86 : decode cX11_begin 86 = .ok (.iconst 0, 1) := by decide +kernel
theorem dX11_begin_87 : decode cX11_begin 87 = .ok (.istore_n 1, 1) := by decide +kernel
theorem dX11_begin_88 : decode cX11_begin 88 = .ok (.iload_n 1, 1) := by decide +kernel
theorem dX11_begin_89 : decode cX11_begin 89 = .ok (.bipush 35, 2) := by decide +kernel
theorem dX11_begin_91 : decode cX11_begin 91 = .ok (.if_icmp .ge 37, 3) := by decide +kernel
theorem dX11_begin_94 : decode cX11_begin 94 = .ok (.aload_n 0, 1) := by decide +kernel
theorem dX11_begin_95 : decode cX11_begin 95 = .ok (.getfield 47, 3) := by decide +kernel
theorem dX11_begin_98 : decode cX11_begin 98 = .ok (.iload_n 1, 1) := by decide +kernel
theorem dX11_begin_99 : decode cX11_begin 99 = .ok (.iconst (-1), 1) := by decide +kernel
theorem dX11_begin_100 : decode cX11_begin 100 = .ok (.iastore, 1) := by decide +kernel
theorem dX11_begin_101 : decode cX11_begin 101 = .ok (.aload_n 0, 1) := by decide +kernel
theorem dX11_begin_102 : decode cX11_begin 102 = .ok (.getfield 50, 3) := by decide +kernel
theorem dX11_begin_105 : decode cX11_begin 105 = .ok (.iload_n 1, 1) := by decide +kernel
theorem dX11_begin_106 : decode cX11_begin 106 = .ok (.iconst (-1), 1) := by decide +kernel
theorem dX11_begin_107 : decode cX11_begin 107 = .ok (.iastore, 1) := by decide +kernel
theorem dX11_begin_108 : decode cX11_begin 108 = .ok (.aload_n 0, 1) := by decide +kernel
theorem dX11_begin_109 : decode cX11_begin 109 = .ok (.getfield 65, 3) := by decide +kernel
theorem dX11_begin_112 : decode cX11_begin 112 = .ok (.iload_n 1, 1) := by decide +kernel
theorem dX11_begin_113 : decode cX11_begin 113 = .ok (.iconst 0, 1) := by decide +kernel
theorem dX11_begin_114 : decode cX11_begin 114 = .ok (.bastore, 1) := by decide +kernel
theorem dX11_begin_115 : decode cX11_begin 115 = .ok (.aload_n 0, 1) := by decide +kernel
theorem dX11_begin_116 : decode cX11_begin 116 = .ok (.getfield 68, 3) := by decide +kernel
theorem dX11_begin_119 : decode cX11_begin 119 = .ok (.iload_n 1, 1) := by decide +kernel
theorem dX11_begin_120 : decode cX11_begin 120 = .ok (.iconst 0, 1) := by decide +kernel
theorem dX11_begin_121 : decode cX11_begin 121 = .ok (.bastore, 1) := by decide +kernel
theorem dX11_begin_122 : decode cX11_begin 122 = .ok (.iinc 1 1, 3) := by decide +kernel
theorem dX11_begin_125 : decode cX11_begin 125 = .ok (.goto (-37), 3) := by decide +kernel
theorem dX11_begin_128 : decode cX11_begin 128 = .ok (.iconst 0, 1) := by decide +kernel
theorem dX11_begin_129 : decode cX11_begin 129 = .ok (.istore_n 1, 1) := by decide +kernel
theorem dX11_begin_130 : decode cX11_begin 130 = .ok (.iload_n 1, 1) := by decide +kernel
theorem dX11_begin_131 : decode cX11_begin 131 = .ok (.bipush 14, 2) := by decide +kernel
theorem dX11_begin_133 : decode cX11_begin 133 = .ok (.if_icmp .ge 17, 3) := by decide +kernel
theorem dX11_begin_136 : decode cX11_begin 136 = .ok (.aload_n 0, 1) := by decide +kernel
theorem dX11_begin_137 : decode cX11_begin 137 = .ok (.getfield 53, 3) := by decide +kernel
theorem dX11_begin_140 : decode cX11_begin 140 = .ok (.iload_n 1, 1) := by decide +kernel
theorem dX11_begin_141 : decode cX11_begin 141 = .ok (.bipush (-100), 2) := by decide +kernel
theorem dX11_begin_143 : decode cX11_begin 143 = .ok (.iastore, 1) := by decide +kernel
theorem dX11_begin_144 : decode cX11_begin 144 = .ok (.iinc 1 1, 3) := by decide +kernel
theorem dX11_begin_147 : decode cX11_begin 147 = .ok (.goto (-17), 3) := by decide +kernel
theorem dX11_begin_150 : decode cX11_begin 150 = .ok (.iconst 0, 1) := by decide +kernel
theorem dX11_begin_151 : decode cX11_begin 151 = .ok (.istore_n 1, 1) := by decide +kernel
theorem dX11_begin_152 : decode cX11_begin 152 = .ok (.iload_n 1, 1) := by decide +kernel
theorem dX11_begin_153 : decode cX11_begin 153 = .ok (.bipush 25, 2) := by decide +kernel
theorem dX11_begin_155 : decode cX11_begin 155 = .ok (.if_icmp .ge 16, 3) := by decide +kernel
theorem dX11_begin_158 : decode cX11_begin 158 = .ok (.aload_n 0, 1) := by decide +kernel
theorem dX11_begin_159 : decode cX11_begin 159 = .ok (.getfield 71, 3) := by decide +kernel
theorem dX11_begin_162 : decode cX11_begin 162 = .ok (.iload_n 1, 1) := by decide +kernel
theorem dX11_begin_163 : decode cX11_begin 163 = .ok (.iconst 0, 1) := by decide +kernel
theorem dX11_begin_164 : decode cX11_begin 164 = .ok (.bastore, 1) := by decide +kernel
theorem dX11_begin_165 : decode cX11_begin 165 = .ok (.iinc 1 1, 3) := by decide +kernel
theorem dX11_begin_168 : decode cX11_begin 168 = .ok (.goto (-16), 3) := by decide +kernel
theorem dX11_begin_171 : decode cX11_begin 171 = .ok (.aload_n 0, 1) := by decide +kernel
theorem dX11_begin_172 : decode cX11_begin 172 = .ok (.iconst 0, 1) := by decide +kernel
theorem dX11_begin_173 : decode cX11_begin 173 = .ok (.putfield 182, 3) := by decide +kernel
theorem dX11_begin_176 : decode cX11_begin 176 = .ok (.aload_n 0, 1) := by decide +kernel
theorem dX11_begin_177 : decode cX11_begin 177 = .ok (.iconst 0, 1) := by decide +kernel
theorem dX11_begin_178 : decode cX11_begin 178 = .ok (.putfield 185, 3) := by decide +kernel
theorem dX11_begin_181 : decode cX11_begin 181 = .ok (.return_, 1) := by decide +kernel
theorem dX11_isAt_0 : decode cX11_isAt 0 = .ok (.aload_n 0, 1) := by decide +kernel
theorem dX11_isAt_1 : decode cX11_isAt 1 = .ok (.getfield 32, 3) := by decide +kernel
theorem dX11_isAt_4 : decode cX11_isAt 4 = .ok (.iload_n 1, 1) := by decide +kernel
theorem dX11_isAt_5 : decode cX11_isAt 5 = .ok (.iconst 1, 1) := by decide +kernel
theorem dX11_isAt_6 : decode cX11_isAt 6 = .ok (.iastore, 1) := by decide +kernel
theorem dX11_isAt_7 : decode cX11_isAt 7 = .ok (.aload_n 0, 1) := by decide +kernel
theorem dX11_isAt_8 : decode cX11_isAt 8 = .ok (.getfield 35, 3) := by decide +kernel
theorem dX11_isAt_11 : decode cX11_isAt 11 = .ok (.iload_n 1, 1) := by decide +kernel
theorem dX11_isAt_12 : decode cX11_isAt 12 = .ok (.iload_n 2, 1) := by decide +kernel
theorem dX11_isAt_13 : decode cX11_isAt 13 = .ok (.iastore, 1) := by decide +kernel
theorem dX11_isAt_14 : decode cX11_isAt 14 = .ok (.aload_n 0, 1) := by decide +kernel
theorem dX11_isAt_15 : decode cX11_isAt 15 = .ok (.getfield 65, 3) := by decide +kernel
theorem dX11_isAt_18 : decode cX11_isAt 18 = .ok (.bipush 7, 2) := by decide +kernel
theorem dX11_isAt_20 : decode cX11_isAt 20 = .ok (.iload_n 1, 1) := by decide +kernel
theorem dX11_isAt_21 : decode cX11_isAt 21 = .ok (.imul, 1) := by decide +kernel
theorem dX11_isAt_22 : decode cX11_isAt 22 = .ok (.iload_n 2, 1) := by decide +kernel
theorem dX11_isAt_23 : decode cX11_isAt 23 = .ok (.iadd, 1) := by decide +kernel
theorem dX11_isAt_24 : decode cX11_isAt 24 = .ok (.iconst 1, 1) := by decide +kernel
theorem dX11_isAt_25 : decode cX11_isAt 25 = .ok (.bastore, 1) := by decide +kernel
theorem dX11_isAt_26 : decode cX11_isAt 26 = .ok (.aload_n 0, 1) := by decide +kernel
theorem dX11_isAt_27 : decode cX11_isAt 27 = .ok (.getfield 68, 3) := by decide +kernel
theorem dX11_isAt_30 : decode cX11_isAt 30 = .ok (.bipush 7, 2) := by decide +kernel
theorem dX11_isAt_32 : decode cX11_isAt 32 = .ok (.iload_n 1, 1) := by decide +kernel
theorem dX11_isAt_33 : decode cX11_isAt 33 = .ok (.imul, 1) := by decide +kernel
theorem dX11_isAt_34 : decode cX11_isAt 34 = .ok (.iload_n 2, 1) := by decide +kernel
theorem dX11_isAt_35 : decode cX11_isAt 35 = .ok (.iadd, 1) := by decide +kernel
theorem dX11_isAt_36 : decode cX11_isAt 36 = .ok (.iconst 1, 1) := by decide +kernel
theorem dX11_isAt_37 : decode cX11_isAt 37 = .ok (.bastore, 1) := by decide +kernel
theorem dX11_isAt_38 : decode cX11_isAt 38 = .ok (.aload_n 0, 1) := by decide +kernel
theorem dX11_isAt_39 : decode cX11_isAt 39 = .ok (.getfield 47, 3) := by decide +kernel
theorem dX11_isAt_42 : decode cX11_isAt 42 = .ok (.bipush 7, 2) := by decide +kernel
theorem dX11_isAt_44 : decode cX11_isAt 44 = .ok (.iload_n 1, 1) := by decide +kernel
theorem dX11_isAt_45 : decode cX11_isAt 45 = .ok (.imul, 1) := by decide +kernel
theorem dX11_isAt_46 : decode cX11_isAt 46 = .ok (.iload_n 2, 1) := by decide +kernel
theorem dX11_isAt_47 : decode cX11_isAt 47 = .ok (.iadd, 1) := by decide +kernel
theorem dX11_isAt_48 : decode cX11_isAt 48 = .ok (.iaload, 1) := by decide +kernel
theorem dX11_isAt_49 : decode cX11_isAt 49 = .ok (.ifCond .ge 15, 3) := by decide +kernel
theorem dX11_isAt_52 : decode cX11_isAt 52 = .ok (.aload_n 0, 1) := by decide +kernel
theorem dX11_isAt_53 : decode cX11_isAt 53 = .ok (.getfield 47, 3) := by decide +kernel
theorem dX11_isAt_56 : decode cX11_isAt 56 = .ok (.bipush 7, 2) := by decide +kernel
theorem dX11_isAt_58 : decode cX11_isAt 58 = .ok (.iload_n 1, 1) := by decide +kernel
theorem dX11_isAt_59 : decode cX11_isAt 59 = .ok (.imul, 1) := by decide +kernel
theorem dX11_isAt_60 : decode cX11_isAt 60 = .ok (.iload_n 2, 1) := by decide +kernel
theorem dX11_isAt_61 : decode cX11_isAt 61 = .ok (.iadd, 1) := by decide +kernel
theorem dX11_isAt_62 : decode cX11_isAt 62 = .ok (.iload_n 3, 1) := by decide +kernel
theorem dX11_isAt_63 : decode cX11_isAt 63 = .ok (.iastore, 1) := by decide +kernel
theorem dX11_isAt_64 : decode cX11_isAt 64 = .ok (.return_, 1) := by decide +kernel
theorem dX11_comesIn_0 : decode cX11_comesIn 0 = .ok (.aload_n 0, 1) := by decide +kernel
theorem dX11_comesIn_1 : decode cX11_comesIn 1 = .ok (.getfield 38, 3) := by decide +kernel
theorem dX11_comesIn_4 : decode cX11_comesIn 4 = .ok (.iload_n 1, 1) := by decide +kernel
theorem dX11_comesIn_5 : decode cX11_comesIn 5 = .ok (.iaload, 1) := by decide +kernel
theorem dX11_comesIn_6 : decode cX11_comesIn 6 = .ok (.ifCond .ne 14, 3) := by decide +kernel
theorem dX11_comesIn_9 : decode cX11_comesIn 9 = .ok (.aload_n 0, 1) := by decide +kernel
theorem dX11_comesIn_10 : decode cX11_comesIn 10 = .ok (.getfield 35, 3) := by decide +kernel
theorem dX11_comesIn_13 : decode cX11_comesIn 13 = .ok (.iload_n 1, 1) := by decide +kernel
theorem dX11_comesIn_14 : decode cX11_comesIn 14 = .ok (.iaload, 1) := by decide +kernel
theorem dX11_comesIn_15 : decode cX11_comesIn 15 = .ok (.iconst 1, 1) := by decide +kernel
theorem dX11_comesIn_16 : decode cX11_comesIn 16 = .ok (.iadd, 1) := by decide +kernel
theorem dX11_comesIn_17 : decode cX11_comesIn 17 = .ok (.goto 9, 3) := by decide +kernel
theorem dX11_comesIn_20 : decode cX11_comesIn 20 = .ok (.aload_n 0, 1) := by decide +kernel
theorem dX11_comesIn_21 : decode cX11_comesIn 21 = .ok (.getfield 35, 3) := by decide +kernel
theorem dX11_comesIn_24 : decode cX11_comesIn 24 = .ok (.iload_n 1, 1) := by decide +kernel
theorem dX11_comesIn_25 : decode cX11_comesIn 25 = .ok (.iaload, 1) := by decide +kernel
theorem dX11_comesIn_26 : decode cX11_comesIn 26 = .ok (.istore_n 3, 1) := by decide +kernel
theorem dX11_comesIn_27 : decode cX11_comesIn 27 = .ok (.aload_n 0, 1) := by decide +kernel
theorem dX11_comesIn_28 : decode cX11_comesIn 28 = .ok (.iload_n 1, 1) := by decide +kernel
theorem dX11_comesIn_29 : decode cX11_comesIn 29 = .ok (.iload_n 3, 1) := by decide +kernel
theorem dX11_comesIn_30 : decode cX11_comesIn 30 = .ok (.iload_n 2, 1) := by decide +kernel
theorem dX11_comesIn_31 : decode cX11_comesIn 31 = .ok (.invokevirtual 188, 3) := by decide +kernel
theorem dX11_comesIn_34 : decode cX11_comesIn 34 = .ok (.iload_n 3, 1) := by decide +kernel
theorem dX11_comesIn_35 : decode cX11_comesIn 35 = .ok (.aload_n 0, 1) := by decide +kernel
theorem dX11_comesIn_36 : decode cX11_comesIn 36 = .ok (.getfield 62, 3) := by decide +kernel
theorem dX11_comesIn_39 : decode cX11_comesIn 39 = .ok (.iload_n 1, 1) := by decide +kernel
theorem dX11_comesIn_40 : decode cX11_comesIn 40 = .ok (.baload, 1) := by decide +kernel
theorem dX11_comesIn_41 : decode cX11_comesIn 41 = .ok (.ifCond .eq 11, 3) := by decide +kernel
theorem dX11_comesIn_44 : decode cX11_comesIn 44 = .ok (.aload_n 0, 1) := by decide +kernel
theorem dX11_comesIn_45 : decode cX11_comesIn 45 = .ok (.iload_n 1, 1) := by decide +kernel
theorem dX11_comesIn_46 : decode cX11_comesIn 46 = .ok (.invokevirtual 115, 3) := by decide +kernel
theorem dX11_comesIn_49 : decode cX11_comesIn 49 = .ok (.goto 8, 3) := by decide +kernel
theorem dX11_comesIn_52 : decode cX11_comesIn 52 = .ok (.aload_n 0, 1) := by decide +kernel
theorem dX11_comesIn_53 : decode cX11_comesIn 53 = .ok (.iload_n 1, 1) := by decide +kernel
theorem dX11_comesIn_54 : decode cX11_comesIn 54 = .ok (.invokevirtual 112, 3) := by decide +kernel
theorem dX11_comesIn_57 : decode cX11_comesIn 57 = .ok (.if_icmp .ne 7, 3) := by decide +kernel
theorem dX11_comesIn_60 : decode cX11_comesIn 60 = .ok (.iconst 1, 1) := by decide +kernel
theorem dX11_comesIn_61 : decode cX11_comesIn 61 = .ok (.goto 4, 3) := by decide +kernel
theorem dX11_comesIn_64 : decode cX11_comesIn 64 = .ok (.iconst 0, 1) := by decide +kernel
theorem dX11_comesIn_65 : decode cX11_comesIn 65 = .ok (.istore 4, 2) := by decide +kernel
theorem dX11_comesIn_67 : decode cX11_comesIn 67 = .ok (.iload 4, 2) := by decide +kernel
theorem dX11_comesIn_69 : decode cX11_comesIn 69 = .ok (.ifCond .eq 36, 3) := by decide +kernel
theorem dX11_comesIn_72 : decode cX11_comesIn 72 = .ok (.aload_n 0, 1) := by decide +kernel
theorem dX11_comesIn_73 : decode cX11_comesIn 73 = .ok (.getfield 62, 3) := by decide +kernel
theorem dX11_comesIn_76 : decode cX11_comesIn 76 = .ok (.iload_n 1, 1) := by decide +kernel
theorem dX11_comesIn_77 : decode cX11_comesIn 77 = .ok (.baload, 1) := by decide +kernel
theorem dX11_comesIn_78 : decode cX11_comesIn 78 = .ok (.ifCond .ne 12, 3) := by decide +kernel
theorem dX11_comesIn_81 : decode cX11_comesIn 81 = .ok (.aload_n 0, 1) := by decide +kernel
theorem dX11_comesIn_82 : decode cX11_comesIn 82 = .ok (.iload_n 1, 1) := by decide +kernel
theorem dX11_comesIn_83 : decode cX11_comesIn 83 = .ok (.invokevirtual 136, 3) := by decide +kernel
theorem dX11_comesIn_86 : decode cX11_comesIn 86 = .ok (.iconst 3, 1) := by decide +kernel
theorem dX11_comesIn_87 : decode cX11_comesIn 87 = .ok (.if_icmp .eq 18, 3) := by decide +kernel
theorem dX11_comesIn_90 : decode cX11_comesIn 90 = .ok (.aload_n 0, 1) := by decide +kernel
theorem dX11_comesIn_91 : decode cX11_comesIn 91 = .ok (.getfield 32, 3) := by decide +kernel
theorem dX11_comesIn_94 : decode cX11_comesIn 94 = .ok (.iload_n 1, 1) := by decide +kernel
theorem dX11_comesIn_95 : decode cX11_comesIn 95 = .ok (.iconst 3, 1) := by decide +kernel
theorem dX11_comesIn_96 : decode cX11_comesIn 96 = .ok (.iastore, 1) := by decide +kernel
theorem dX11_comesIn_97 : decode cX11_comesIn 97 = .ok (.aload_n 0, 1) := by decide +kernel
theorem dX11_comesIn_98 : decode cX11_comesIn 98 = .ok (.getfield 44, 3) := by decide +kernel
theorem dX11_comesIn_101 : decode cX11_comesIn 101 = .ok (.iload_n 1, 1) := by decide +kernel
theorem dX11_comesIn_102 : decode cX11_comesIn 102 = .ok (.iload_n 2, 1) := by decide +kernel
theorem dX11_comesIn_103 : decode cX11_comesIn 103 = .ok (.iastore, 1) := by decide +kernel
theorem dX11_comesIn_104 : decode cX11_comesIn 104 = .ok (.return_, 1) := by decide +kernel
theorem dX11_comesIn_105 : decode cX11_comesIn 105 = .ok (.iload 4, 2) := by decide +kernel
theorem dX11_comesIn_107 : decode cX11_comesIn 107 = .ok (.ifCond .eq 63, 3) := by decide +kernel
theorem dX11_comesIn_110 : decode cX11_comesIn 110 = .ok (.aload_n 0, 1) := by decide +kernel
theorem dX11_comesIn_111 : decode cX11_comesIn 111 = .ok (.getfield 62, 3) := by decide +kernel
theorem dX11_comesIn_114 : decode cX11_comesIn 114 = .ok (.iload_n 1, 1) := by decide +kernel
theorem dX11_comesIn_115 : decode cX11_comesIn 115 = .ok (.iconst 1, 1) := by decide +kernel
theorem dX11_comesIn_116 : decode cX11_comesIn 116 = .ok (.bastore, 1) := by decide +kernel
theorem dX11_comesIn_117 : decode cX11_comesIn 117 = .ok (.aload_n 0, 1) := by decide +kernel
theorem dX11_comesIn_118 : decode cX11_comesIn 118 = .ok (.getfield 38, 3) := by decide +kernel
theorem dX11_comesIn_121 : decode cX11_comesIn 121 = .ok (.iload_n 1, 1) := by decide +kernel
theorem dX11_comesIn_122 : decode cX11_comesIn 122 = .ok (.iconst 1, 1) := by decide +kernel
theorem dX11_comesIn_123 : decode cX11_comesIn 123 = .ok (.aload_n 0, 1) := by decide +kernel
theorem dX11_comesIn_124 : decode cX11_comesIn 124 = .ok (.getfield 38, 3) := by decide +kernel
theorem dX11_comesIn_127 : decode cX11_comesIn 127 = .ok (.iload_n 1, 1) := by decide +kernel
theorem dX11_comesIn_128 : decode cX11_comesIn 128 = .ok (.iaload, 1) := by decide +kernel
theorem dX11_comesIn_129 : decode cX11_comesIn 129 = .ok (.isub, 1) := by decide +kernel
theorem dX11_comesIn_130 : decode cX11_comesIn 130 = .ok (.iastore, 1) := by decide +kernel
theorem dX11_comesIn_131 : decode cX11_comesIn 131 = .ok (.iconst 0, 1) := by decide +kernel
theorem dX11_comesIn_132 : decode cX11_comesIn 132 = .ok (.istore 5, 2) := by decide +kernel
theorem dX11_comesIn_134 : decode cX11_comesIn 134 = .ok (.iload 5, 2) := by decide +kernel
theorem dX11_comesIn_136 : decode cX11_comesIn 136 = .ok (.bipush 7, 2) := by decide +kernel
theorem dX11_comesIn_138 : decode cX11_comesIn 138 = .ok (.if_icmp .ge 32, 3) := by decide +kernel
theorem dX11_comesIn_141 : decode cX11_comesIn 141 = .ok (.aload_n 0, 1) := by decide +kernel
theorem dX11_comesIn_142 : decode cX11_comesIn 142 = .ok (.getfield 68, 3) := by decide +kernel
theorem dX11_comesIn_145 : decode cX11_comesIn 145 = .ok (.bipush 7, 2) := by decide +kernel
theorem dX11_comesIn_147 : decode cX11_comesIn 147 = .ok (.iload_n 1, 1) := by decide +kernel
theorem dX11_comesIn_148 : decode cX11_comesIn 148 = .ok (.imul, 1) := by decide +kernel
theorem dX11_comesIn_149 : decode cX11_comesIn 149 = .ok (.iload 5, 2) := by decide +kernel
theorem dX11_comesIn_151 : decode cX11_comesIn 151 = .ok (.iadd, 1) := by decide +kernel
theorem dX11_comesIn_152 : decode cX11_comesIn 152 = .ok (.iload 5, 2) := by decide +kernel
theorem dX11_comesIn_154 : decode cX11_comesIn 154 = .ok (.iload_n 3, 1) := by decide +kernel
theorem dX11_comesIn_155 : decode cX11_comesIn 155 = .ok (.if_icmp .ne 7, 3) := by decide +kernel
theorem dX11_comesIn_158 : decode cX11_comesIn 158 = .ok (.iconst 1, 1) := by decide +kernel
theorem dX11_comesIn_159 : decode cX11_comesIn 159 = .ok (.goto 4, 3) := by decide +kernel
theorem dX11_comesIn_162 : decode cX11_comesIn 162 = .ok (.iconst 0, 1) := by decide +kernel
theorem dX11_comesIn_163 : decode cX11_comesIn 163 = .ok (.bastore, 1) := by decide +kernel
theorem dX11_comesIn_164 : decode cX11_comesIn 164 = .ok (.iinc 5 1, 3) := by decide +kernel
theorem dX11_comesIn_167 : decode cX11_comesIn 167 = .ok (.goto (-33), 3) := by decide +kernel
theorem dX11_comesIn_170 : decode cX11_comesIn 170 = .ok (.iconst 0, 1) := by decide +kernel
theorem dX11_comesIn_171 : decode cX11_comesIn 171 = .ok (.istore 5, 2) := by decide +kernel
theorem dX11_comesIn_173 : decode cX11_comesIn 173 = .ok (.aload_n 0, 1) := by decide +kernel
theorem dX11_comesIn_174 : decode cX11_comesIn 174 = .ok (.iload_n 1, 1) := by decide +kernel
theorem dX11_comesIn_175 : decode cX11_comesIn 175 = .ok (.iload_n 3, 1) := by decide +kernel
theorem dX11_comesIn_176 : decode cX11_comesIn 176 = .ok (.invokevirtual 192, 3) := by decide +kernel
theorem dX11_comesIn_179 : decode cX11_comesIn 179 = .ok (.istore 6, 2) := by decide +kernel
theorem dX11_comesIn_181 : decode cX11_comesIn 181 = .ok (.iconst 0, 1) := by decide +kernel
theorem dX11_comesIn_182 : decode cX11_comesIn 182 = .ok (.istore 7, 2) := by decide +kernel
theorem dX11_comesIn_184 : decode cX11_comesIn 184 = .ok (.iload 7, 2) := by decide +kernel
theorem dX11_comesIn_186 : decode cX11_comesIn 186 = .ok (.aload_n 0, 1) := by decide +kernel
theorem dX11_comesIn_187 : decode cX11_comesIn 187 = .ok (.getfield 7, 3) := by decide +kernel
theorem dX11_comesIn_190 : decode cX11_comesIn 190 = .ok (.bipush 14, 2) := by decide +kernel
theorem dX11_comesIn_192 : decode cX11_comesIn 192 = .ok (.iaload, 1) := by decide +kernel
theorem dX11_comesIn_193 : decode cX11_comesIn 193 = .ok (.if_icmp .ge 65, 3) := by decide +kernel
theorem dX11_comesIn_196 : decode cX11_comesIn 196 = .ok (.iload 7, 2) := by decide +kernel
theorem dX11_comesIn_198 : decode cX11_comesIn 198 = .ok (.iload_n 1, 1) := by decide +kernel
theorem dX11_comesIn_199 : decode cX11_comesIn 199 = .ok (.if_icmp .eq 53, 3) := by decide +kernel
theorem dX11_comesIn_202 : decode cX11_comesIn 202 = .ok (.aload_n 0, 1) := by decide +kernel
theorem dX11_comesIn_203 : decode cX11_comesIn 203 = .ok (.getfield 32, 3) := by decide +kernel
theorem dX11_comesIn_206 : decode cX11_comesIn 206 = .ok (.iload 7, 2) := by decide +kernel
theorem dX11_comesIn_208 : decode cX11_comesIn 208 = .ok (.iaload, 1) := by decide +kernel
theorem dX11_comesIn_209 : decode cX11_comesIn 209 = .ok (.iconst 1, 1) := by decide +kernel
theorem dX11_comesIn_210 : decode cX11_comesIn 210 = .ok (.if_icmp .ne 42, 3) := by decide +kernel
theorem dX11_comesIn_213 : decode cX11_comesIn 213 = .ok (.aload_n 0, 1) := by decide +kernel
theorem dX11_comesIn_214 : decode cX11_comesIn 214 = .ok (.getfield 35, 3) := by decide +kernel
theorem dX11_comesIn_217 : decode cX11_comesIn 217 = .ok (.iload 7, 2) := by decide +kernel
theorem dX11_comesIn_219 : decode cX11_comesIn 219 = .ok (.iaload, 1) := by decide +kernel
theorem dX11_comesIn_220 : decode cX11_comesIn 220 = .ok (.iload_n 3, 1) := by decide +kernel
theorem dX11_comesIn_221 : decode cX11_comesIn 221 = .ok (.if_icmp .eq 6, 3) := by decide +kernel
theorem dX11_comesIn_224 : decode cX11_comesIn 224 = .ok (.goto 28, 3) := by decide +kernel
theorem dX11_comesIn_227 : decode cX11_comesIn 227 = .ok (.iinc 5 1, 3) := by decide +kernel
theorem dX11_comesIn_230 : decode cX11_comesIn 230 = .ok (.iload 6, 2) := by decide +kernel
theorem dX11_comesIn_232 : decode cX11_comesIn 232 = .ok (.ifCond .ne 13, 3) := by decide +kernel
theorem dX11_comesIn_235 : decode cX11_comesIn 235 = .ok (.aload_n 0, 1) := by decide +kernel
theorem dX11_comesIn_236 : decode cX11_comesIn 236 = .ok (.iload 7, 2) := by decide +kernel
theorem dX11_comesIn_238 : decode cX11_comesIn 238 = .ok (.iload_n 3, 1) := by decide +kernel
theorem dX11_comesIn_239 : decode cX11_comesIn 239 = .ok (.invokevirtual 192, 3) := by decide +kernel
theorem dX11_comesIn_242 : decode cX11_comesIn 242 = .ok (.ifCond .eq 7, 3) := by decide +kernel
theorem dX11_comesIn_245 : decode cX11_comesIn 245 = .ok (.iconst 1, 1) := by decide +kernel
theorem dX11_comesIn_246 : decode cX11_comesIn 246 = .ok (.goto 4, 3) := by decide +kernel
theorem dX11_comesIn_249 : decode cX11_comesIn 249 = .ok (.iconst 0, 1) := by decide +kernel
theorem dX11_comesIn_250 : decode cX11_comesIn 250 = .ok (.istore 6, 2) := by decide +kernel
theorem dX11_comesIn_252 : decode cX11_comesIn 252 = .ok (.iinc 7 1, 3) := by decide +kernel
theorem dX11_comesIn_255 : decode cX11_comesIn 255 = .ok (.goto (-71), 3) := by decide +kernel
theorem dX11_comesIn_258 : decode cX11_comesIn 258 = .ok (.aload_n 0, 1) := by decide +kernel
theorem dX11_comesIn_259 : decode cX11_comesIn 259 = .ok (.dup, 1) := by decide +kernel
theorem dX11_comesIn_260 : decode cX11_comesIn 260 = .ok (.getfield 185, 3) := by decide +kernel
theorem dX11_comesIn_263 : decode cX11_comesIn 263 = .ok (.iload 5, 2) := by decide +kernel
theorem dX11_comesIn_265 : decode cX11_comesIn 265 = .ok (.iconst 1, 1) := by decide +kernel
theorem dX11_comesIn_266 : decode cX11_comesIn 266 = .ok (.if_icmp .gt 14, 3) := by decide +kernel
theorem dX11_comesIn_269 : decode cX11_comesIn 269 = .ok (.iload 5, 2) := by decide +kernel
theorem dX11_comesIn_271 : decode cX11_comesIn 271 = .ok (.iconst 1, 1) := by decide +kernel
theorem dX11_comesIn_272 : decode cX11_comesIn 272 = .ok (.if_icmp .ne 12, 3) := by decide +kernel
theorem dX11_comesIn_275 : decode cX11_comesIn 275 = .ok (.iload 6, 2) := by decide +kernel
theorem dX11_comesIn_277 : decode cX11_comesIn 277 = .ok (.ifCond .ne 7, 3) := by decide +kernel
theorem dX11_comesIn_280 : decode cX11_comesIn 280 = .ok (.iconst 1, 1) := by decide +kernel
theorem dX11_comesIn_281 : decode cX11_comesIn 281 = .ok (.goto 4, 3) := by decide +kernel
theorem dX11_comesIn_284 : decode cX11_comesIn 284 = .ok (.iconst 0, 1) := by decide +kernel
theorem dX11_comesIn_285 : decode cX11_comesIn 285 = .ok (.iadd, 1) := by decide +kernel
theorem dX11_comesIn_286 : decode cX11_comesIn 286 = .ok (.putfield 185, 3) := by decide +kernel
theorem dX11_comesIn_289 : decode cX11_comesIn 289 = .ok (.return_, 1) := by decide +kernel
theorem dX11_lengthFits_0 : decode cX11_lengthFits 0 = .ok (.aload_n 0, 1) := by decide +kernel
theorem dX11_lengthFits_1 : decode cX11_lengthFits 1 = .ok (.getfield 7, 3) := by decide +kernel
theorem dX11_lengthFits_4 : decode cX11_lengthFits 4 = .ok (.bipush 15, 2) := by decide +kernel
theorem dX11_lengthFits_6 : decode cX11_lengthFits 6 = .ok (.iconst 5, 1) := by decide +kernel
theorem dX11_lengthFits_7 : decode cX11_lengthFits 7 = .ok (.iload_n 1, 1) := by decide +kernel
theorem dX11_lengthFits_8 : decode cX11_lengthFits 8 = .ok (.imul, 1) := by decide +kernel
theorem dX11_lengthFits_9 : decode cX11_lengthFits 9 = .ok (.iadd, 1) := by decide +kernel
theorem dX11_lengthFits_10 : decode cX11_lengthFits 10 = .ok (.iconst 3, 1) := by decide +kernel
theorem dX11_lengthFits_11 : decode cX11_lengthFits 11 = .ok (.iadd, 1) := by decide +kernel
theorem dX11_lengthFits_12 : decode cX11_lengthFits 12 = .ok (.iaload, 1) := by decide +kernel
theorem dX11_lengthFits_13 : decode cX11_lengthFits 13 = .ok (.aload_n 0, 1) := by decide +kernel
theorem dX11_lengthFits_14 : decode cX11_lengthFits 14 = .ok (.getfield 7, 3) := by decide +kernel
theorem dX11_lengthFits_17 : decode cX11_lengthFits 17 = .ok (.iconst 1, 1) := by decide +kernel
theorem dX11_lengthFits_18 : decode cX11_lengthFits 18 = .ok (.iload_n 2, 1) := by decide +kernel
theorem dX11_lengthFits_19 : decode cX11_lengthFits 19 = .ok (.iadd, 1) := by decide +kernel
theorem dX11_lengthFits_20 : decode cX11_lengthFits 20 = .ok (.iaload, 1) := by decide +kernel
theorem dX11_lengthFits_21 : decode cX11_lengthFits 21 = .ok (.if_icmp .gt 7, 3) := by decide +kernel
theorem dX11_lengthFits_24 : decode cX11_lengthFits 24 = .ok (.iconst 1, 1) := by decide +kernel
theorem dX11_lengthFits_25 : decode cX11_lengthFits 25 = .ok (.goto 4, 3) := by decide +kernel
theorem dX11_lengthFits_28 : decode cX11_lengthFits 28 = .ok (.iconst 0, 1) := by decide +kernel
theorem dX11_lengthFits_29 : decode cX11_lengthFits 29 = .ok (.ireturn, 1) := by decide +kernel
theorem dX11_lates_0 : decode cX11_lates 0 = .ok (.iconst 0, 1) := by decide +kernel
theorem dX11_lates_1 : decode cX11_lates 1 = .ok (.istore_n 2, 1) := by decide +kernel
theorem dX11_lates_2 : decode cX11_lates 2 = .ok (.iconst 0, 1) := by decide +kernel
theorem dX11_lates_3 : decode cX11_lates 3 = .ok (.istore_n 3, 1) := by decide +kernel
theorem dX11_lates_4 : decode cX11_lates 4 = .ok (.iload_n 3, 1) := by decide +kernel
theorem dX11_lates_5 : decode cX11_lates 5 = .ok (.aload_n 0, 1) := by decide +kernel
theorem dX11_lates_6 : decode cX11_lates 6 = .ok (.getfield 7, 3) := by decide +kernel
theorem dX11_lates_9 : decode cX11_lates 9 = .ok (.bipush 40, 2) := by decide +kernel
theorem dX11_lates_11 : decode cX11_lates 11 = .ok (.iaload, 1) := by decide +kernel
theorem dX11_lates_12 : decode cX11_lates 12 = .ok (.if_icmp .ge 48, 3) := by decide +kernel
theorem dX11_lates_15 : decode cX11_lates 15 = .ok (.iload_n 2, 1) := by decide +kernel
theorem dX11_lates_16 : decode cX11_lates 16 = .ok (.aload_n 0, 1) := by decide +kernel
theorem dX11_lates_17 : decode cX11_lates 17 = .ok (.getfield 28, 3) := by decide +kernel
theorem dX11_lates_20 : decode cX11_lates 20 = .ok (.iload_n 3, 1) := by decide +kernel
theorem dX11_lates_21 : decode cX11_lates 21 = .ok (.baload, 1) := by decide +kernel
theorem dX11_lates_22 : decode cX11_lates 22 = .ok (.ifCond .eq 29, 3) := by decide +kernel
theorem dX11_lates_25 : decode cX11_lates 25 = .ok (.aload_n 0, 1) := by decide +kernel
theorem dX11_lates_26 : decode cX11_lates 26 = .ok (.iload_n 3, 1) := by decide +kernel
theorem dX11_lates_27 : decode cX11_lates 27 = .ok (.invokevirtual 169, 3) := by decide +kernel
theorem dX11_lates_30 : decode cX11_lates 30 = .ok (.iconst 1, 1) := by decide +kernel
theorem dX11_lates_31 : decode cX11_lates 31 = .ok (.if_icmp .ne 20, 3) := by decide +kernel
theorem dX11_lates_34 : decode cX11_lates 34 = .ok (.aload_n 0, 1) := by decide +kernel
theorem dX11_lates_35 : decode cX11_lates 35 = .ok (.iload_n 3, 1) := by decide +kernel
theorem dX11_lates_36 : decode cX11_lates 36 = .ok (.invokevirtual 172, 3) := by decide +kernel
theorem dX11_lates_39 : decode cX11_lates 39 = .ok (.iload_n 1, 1) := by decide +kernel
theorem dX11_lates_40 : decode cX11_lates 40 = .ok (.if_icmp .ne 11, 3) := by decide +kernel
theorem dX11_lates_43 : decode cX11_lates 43 = .ok (.aload_n 0, 1) := by decide +kernel
theorem dX11_lates_44 : decode cX11_lates 44 = .ok (.iload_n 3, 1) := by decide +kernel
theorem dX11_lates_45 : decode cX11_lates 45 = .ok (.invokevirtual 195, 3) := by decide +kernel
theorem dX11_lates_48 : decode cX11_lates 48 = .ok (.goto 4, 3) := by decide +kernel
theorem dX11_lates_51 : decode cX11_lates 51 = .ok (.iconst 0, 1) := by decide +kernel
theorem dX11_lates_52 : decode cX11_lates 52 = .ok (.iadd, 1) := by decide +kernel
theorem dX11_lates_53 : decode cX11_lates 53 = .ok (.istore_n 2, 1) := by decide +kernel
theorem dX11_lates_54 : decode cX11_lates 54 = .ok (.iinc 3 1, 3) := by decide +kernel
theorem dX11_lates_57 : decode cX11_lates 57 = .ok (.goto (-53), 3) := by decide +kernel
theorem dX11_lates_60 : decode cX11_lates 60 = .ok (.iload_n 2, 1) := by decide +kernel
theorem dX11_lates_61 : decode cX11_lates 61 = .ok (.ireturn, 1) := by decide +kernel
theorem dX11_hasMeet_0 : decode cX11_hasMeet 0 = .ok (.aload_n 0, 1) := by decide +kernel
theorem dX11_hasMeet_1 : decode cX11_hasMeet 1 = .ok (.getfield 28, 3) := by decide +kernel
theorem dX11_hasMeet_4 : decode cX11_hasMeet 4 = .ok (.iload_n 1, 1) := by decide +kernel
theorem dX11_hasMeet_5 : decode cX11_hasMeet 5 = .ok (.baload, 1) := by decide +kernel
theorem dX11_hasMeet_6 : decode cX11_hasMeet 6 = .ok (.ifCond .eq 51, 3) := by decide +kernel
theorem dX11_hasMeet_9 : decode cX11_hasMeet 9 = .ok (.aload_n 0, 1) := by decide +kernel
theorem dX11_hasMeet_10 : decode cX11_hasMeet 10 = .ok (.iload_n 1, 1) := by decide +kernel
theorem dX11_hasMeet_11 : decode cX11_hasMeet 11 = .ok (.invokevirtual 169, 3) := by decide +kernel
theorem dX11_hasMeet_14 : decode cX11_hasMeet 14 = .ok (.ifCond .ne 43, 3) := by decide +kernel
theorem dX11_hasMeet_17 : decode cX11_hasMeet 17 = .ok (.aload_n 0, 1) := by decide +kernel
theorem dX11_hasMeet_18 : decode cX11_hasMeet 18 = .ok (.iload_n 1, 1) := by decide +kernel
theorem dX11_hasMeet_19 : decode cX11_hasMeet 19 = .ok (.invokevirtual 172, 3) := by decide +kernel
theorem dX11_hasMeet_22 : decode cX11_hasMeet 22 = .ok (.iload_n 2, 1) := by decide +kernel
theorem dX11_hasMeet_23 : decode cX11_hasMeet 23 = .ok (.if_icmp .ne 12, 3) := by decide +kernel
theorem dX11_hasMeet_26 : decode cX11_hasMeet 26 = .ok (.aload_n 0, 1) := by decide +kernel
theorem dX11_hasMeet_27 : decode cX11_hasMeet 27 = .ok (.iload_n 1, 1) := by decide +kernel
theorem dX11_hasMeet_28 : decode cX11_hasMeet 28 = .ok (.invokevirtual 198, 3) := by decide +kernel
theorem dX11_hasMeet_31 : decode cX11_hasMeet 31 = .ok (.iload_n 3, 1) := by decide +kernel
theorem dX11_hasMeet_32 : decode cX11_hasMeet 32 = .ok (.if_icmp .eq 21, 3) := by decide +kernel
theorem dX11_hasMeet_35 : decode cX11_hasMeet 35 = .ok (.aload_n 0, 1) := by decide +kernel
theorem dX11_hasMeet_36 : decode cX11_hasMeet 36 = .ok (.iload_n 1, 1) := by decide +kernel
theorem dX11_hasMeet_37 : decode cX11_hasMeet 37 = .ok (.invokevirtual 172, 3) := by decide +kernel
theorem dX11_hasMeet_40 : decode cX11_hasMeet 40 = .ok (.iload_n 3, 1) := by decide +kernel
theorem dX11_hasMeet_41 : decode cX11_hasMeet 41 = .ok (.if_icmp .ne 16, 3) := by decide +kernel
theorem dX11_hasMeet_44 : decode cX11_hasMeet 44 = .ok (.aload_n 0, 1) := by decide +kernel
theorem dX11_hasMeet_45 : decode cX11_hasMeet 45 = .ok (.iload_n 1, 1) := by decide +kernel
theorem dX11_hasMeet_46 : decode cX11_hasMeet 46 = .ok (.invokevirtual 198, 3) := by decide +kernel
theorem dX11_hasMeet_49 : decode cX11_hasMeet 49 = .ok (.iload_n 2, 1) := by decide +kernel
theorem dX11_hasMeet_50 : decode cX11_hasMeet 50 = .ok (.if_icmp .ne 7, 3) := by decide +kernel
theorem dX11_hasMeet_53 : decode cX11_hasMeet 53 = .ok (.iconst 1, 1) := by decide +kernel
theorem dX11_hasMeet_54 : decode cX11_hasMeet 54 = .ok (.goto 4, 3) := by decide +kernel
theorem dX11_hasMeet_57 : decode cX11_hasMeet 57 = .ok (.iconst 0, 1) := by decide +kernel
theorem dX11_hasMeet_58 : decode cX11_hasMeet 58 = .ok (.ireturn, 1) := by decide +kernel
theorem dX11_isMore_0 : decode cX11_isMore 0 = .ok (.aload_n 0, 1) := by decide +kernel
theorem dX11_isMore_1 : decode cX11_isMore 1 = .ok (.getfield 201, 3) := by decide +kernel
theorem dX11_isMore_4 : decode cX11_isMore 4 = .ok (.iload_n 1, 1) := by decide +kernel
theorem dX11_isMore_5 : decode cX11_isMore 5 = .ok (.if_icmp .ne 11, 3) := by decide +kernel
theorem dX11_isMore_8 : decode cX11_isMore 8 = .ok (.aload_n 0, 1) := by decide +kernel
theorem dX11_isMore_9 : decode cX11_isMore 9 = .ok (.getfield 204, 3) := by decide +kernel
theorem dX11_isMore_12 : decode cX11_isMore 12 = .ok (.iload_n 2, 1) := by decide +kernel
theorem dX11_isMore_13 : decode cX11_isMore 13 = .ok (.if_icmp .eq 19, 3) := by decide +kernel
theorem dX11_isMore_16 : decode cX11_isMore 16 = .ok (.aload_n 0, 1) := by decide +kernel
theorem dX11_isMore_17 : decode cX11_isMore 17 = .ok (.getfield 201, 3) := by decide +kernel
theorem dX11_isMore_20 : decode cX11_isMore 20 = .ok (.iload_n 2, 1) := by decide +kernel
theorem dX11_isMore_21 : decode cX11_isMore 21 = .ok (.if_icmp .ne 15, 3) := by decide +kernel
theorem dX11_isMore_24 : decode cX11_isMore 24 = .ok (.aload_n 0, 1) := by decide +kernel
theorem dX11_isMore_25 : decode cX11_isMore 25 = .ok (.getfield 204, 3) := by decide +kernel
theorem dX11_isMore_28 : decode cX11_isMore 28 = .ok (.iload_n 1, 1) := by decide +kernel
theorem dX11_isMore_29 : decode cX11_isMore 29 = .ok (.if_icmp .ne 7, 3) := by decide +kernel

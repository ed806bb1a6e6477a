theorem dX11_isMore_32 : decode cX11_isMore 32 = .ok (.iconst 1, 1) := by decide +kernel
theorem dX11_isMore_33 : decode cX11_isMore 33 = .ok (.goto 4, 3) := by decide +kernel
theorem dX11_isMore_36 : decode cX11_isMore 36 = .ok (.iconst 0, 1) := by decide +kernel
theorem dX11_isMore_37 : decode cX11_isMore 37 = .ok (.ireturn, 1) := by decide +kernel
theorem dX11_mayByTime_0 : decode cX11_mayByTime 0 = .ok (.aload_n 0, 1) := by decide +kernel
theorem dX11_mayByTime_1 : decode cX11_mayByTime 1 = .ok (.iload_n 1, 1) := by decide +kernel
theorem dX11_mayByTime_2 : decode cX11_mayByTime 2 = .ok (.invokevirtual 136, 3) := by decide +kernel
theorem dX11_mayByTime_5 : decode cX11_mayByTime 5 = .ok (.iconst 1, 1) := by decide +kernel
theorem dX11_mayByTime_6 : decode cX11_mayByTime 6 = .ok (.if_icmp .eq 12, 3) := by decide +kernel
theorem dX11_mayByTime_9 : decode cX11_mayByTime 9 = .ok (.aload_n 0, 1) := by decide +kernel
theorem dX11_mayByTime_10 : decode cX11_mayByTime 10 = .ok (.iload_n 1, 1) := by decide +kernel
theorem dX11_mayByTime_11 : decode cX11_mayByTime 11 = .ok (.invokevirtual 136, 3) := by decide +kernel
theorem dX11_mayByTime_14 : decode cX11_mayByTime 14 = .ok (.iconst 2, 1) := by decide +kernel
theorem dX11_mayByTime_15 : decode cX11_mayByTime 15 = .ok (.if_icmp .ne 30, 3) := by decide +kernel
theorem dX11_mayByTime_18 : decode cX11_mayByTime 18 = .ok (.iload_n 2, 1) := by decide +kernel
theorem dX11_mayByTime_19 : decode cX11_mayByTime 19 = .ok (.aload_n 0, 1) := by decide +kernel
theorem dX11_mayByTime_20 : decode cX11_mayByTime 20 = .ok (.iload_n 1, 1) := by decide +kernel
theorem dX11_mayByTime_21 : decode cX11_mayByTime 21 = .ok (.aload_n 0, 1) := by decide +kernel
theorem dX11_mayByTime_22 : decode cX11_mayByTime 22 = .ok (.getfield 35, 3) := by decide +kernel
theorem dX11_mayByTime_25 : decode cX11_mayByTime 25 = .ok (.iload_n 1, 1) := by decide +kernel
theorem dX11_mayByTime_26 : decode cX11_mayByTime 26 = .ok (.iaload, 1) := by decide +kernel
theorem dX11_mayByTime_27 : decode cX11_mayByTime 27 = .ok (.invokevirtual 153, 3) := by decide +kernel
theorem dX11_mayByTime_30 : decode cX11_mayByTime 30 = .ok (.aload_n 0, 1) := by decide +kernel
theorem dX11_mayByTime_31 : decode cX11_mayByTime 31 = .ok (.iload_n 1, 1) := by decide +kernel
theorem dX11_mayByTime_32 : decode cX11_mayByTime 32 = .ok (.invokevirtual 207, 3) := by decide +kernel
theorem dX11_mayByTime_35 : decode cX11_mayByTime 35 = .ok (.iadd, 1) := by decide +kernel
theorem dX11_mayByTime_36 : decode cX11_mayByTime 36 = .ok (.if_icmp .lt 7, 3) := by decide +kernel
theorem dX11_mayByTime_39 : decode cX11_mayByTime 39 = .ok (.iconst 1, 1) := by decide +kernel
theorem dX11_mayByTime_40 : decode cX11_mayByTime 40 = .ok (.goto 4, 3) := by decide +kernel
theorem dX11_mayByTime_43 : decode cX11_mayByTime 43 = .ok (.iconst 0, 1) := by decide +kernel
theorem dX11_mayByTime_44 : decode cX11_mayByTime 44 = .ok (.ireturn, 1) := by decide +kernel
theorem dX11_mayByTime_45 : decode cX11_mayByTime 45 = .ok (.iconst 0, 1) := by decide +kernel
theorem dX11_mayByTime_46 : decode cX11_mayByTime 46 = .ok (.istore_n 3, 1) := by decide +kernel
theorem dX11_mayByTime_47 : decode cX11_mayByTime 47 = .ok (.iload_n 3, 1) := by decide +kernel
theorem dX11_mayByTime_48 : decode cX11_mayByTime 48 = .ok (.aload_n 0, 1) := by decide +kernel
theorem dX11_mayByTime_49 : decode cX11_mayByTime 49 = .ok (.getfield 7, 3) := by decide +kernel
theorem dX11_mayByTime_52 : decode cX11_mayByTime 52 = .ok (.bipush 40, 2) := by decide +kernel
theorem dX11_mayByTime_54 : decode cX11_mayByTime 54 = .ok (.iaload, 1) := by decide +kernel
theorem dX11_mayByTime_55 : decode cX11_mayByTime 55 = .ok (.if_icmp .ge 47, 3) := by decide +kernel
theorem dX11_mayByTime_58 : decode cX11_mayByTime 58 = .ok (.aload_n 0, 1) := by decide +kernel
theorem dX11_mayByTime_59 : decode cX11_mayByTime 59 = .ok (.getfield 28, 3) := by decide +kernel
theorem dX11_mayByTime_62 : decode cX11_mayByTime 62 = .ok (.iload_n 3, 1) := by decide +kernel
theorem dX11_mayByTime_63 : decode cX11_mayByTime 63 = .ok (.baload, 1) := by decide +kernel
theorem dX11_mayByTime_64 : decode cX11_mayByTime 64 = .ok (.ifCond .eq 32, 3) := by decide +kernel
theorem dX11_mayByTime_67 : decode cX11_mayByTime 67 = .ok (.aload_n 0, 1) := by decide +kernel
theorem dX11_mayByTime_68 : decode cX11_mayByTime 68 = .ok (.iload_n 3, 1) := by decide +kernel
theorem dX11_mayByTime_69 : decode cX11_mayByTime 69 = .ok (.invokevirtual 169, 3) := by decide +kernel
theorem dX11_mayByTime_72 : decode cX11_mayByTime 72 = .ok (.iconst 3, 1) := by decide +kernel
theorem dX11_mayByTime_73 : decode cX11_mayByTime 73 = .ok (.if_icmp .ne 23, 3) := by decide +kernel
theorem dX11_mayByTime_76 : decode cX11_mayByTime 76 = .ok (.aload_n 0, 1) := by decide +kernel
theorem dX11_mayByTime_77 : decode cX11_mayByTime 77 = .ok (.iload_n 3, 1) := by decide +kernel
theorem dX11_mayByTime_78 : decode cX11_mayByTime 78 = .ok (.invokevirtual 172, 3) := by decide +kernel
theorem dX11_mayByTime_81 : decode cX11_mayByTime 81 = .ok (.iload_n 1, 1) := by decide +kernel
theorem dX11_mayByTime_82 : decode cX11_mayByTime 82 = .ok (.if_icmp .ne 14, 3) := by decide +kernel
theorem dX11_mayByTime_85 : decode cX11_mayByTime 85 = .ok (.aload_n 0, 1) := by decide +kernel
theorem dX11_mayByTime_86 : decode cX11_mayByTime 86 = .ok (.iload_n 3, 1) := by decide +kernel
theorem dX11_mayByTime_87 : decode cX11_mayByTime 87 = .ok (.invokevirtual 195, 3) := by decide +kernel
theorem dX11_mayByTime_90 : decode cX11_mayByTime 90 = .ok (.iload_n 2, 1) := by decide +kernel
theorem dX11_mayByTime_91 : decode cX11_mayByTime 91 = .ok (.if_icmp .gt 5, 3) := by decide +kernel
theorem dX11_mayByTime_94 : decode cX11_mayByTime 94 = .ok (.iconst 1, 1) := by decide +kernel
theorem dX11_mayByTime_95 : decode cX11_mayByTime 95 = .ok (.ireturn, 1) := by decide +kernel
theorem dX11_mayByTime_96 : decode cX11_mayByTime 96 = .ok (.iinc 3 1, 3) := by decide +kernel
theorem dX11_mayByTime_99 : decode cX11_mayByTime 99 = .ok (.goto (-52), 3) := by decide +kernel
theorem dX11_mayByTime_102 : decode cX11_mayByTime 102 = .ok (.iconst 0, 1) := by decide +kernel
theorem dX11_mayByTime_103 : decode cX11_mayByTime 103 = .ok (.ireturn, 1) := by decide +kernel
theorem dX11_mayByWaits_0 : decode cX11_mayByWaits 0 = .ok (.iconst 0, 1) := by decide +kernel
theorem dX11_mayByWaits_1 : decode cX11_mayByWaits 1 = .ok (.istore_n 3, 1) := by decide +kernel
theorem dX11_mayByWaits_2 : decode cX11_mayByWaits 2 = .ok (.iload_n 3, 1) := by decide +kernel
theorem dX11_mayByWaits_3 : decode cX11_mayByWaits 3 = .ok (.aload_n 0, 1) := by decide +kernel
theorem dX11_mayByWaits_4 : decode cX11_mayByWaits 4 = .ok (.getfield 7, 3) := by decide +kernel
theorem dX11_mayByWaits_7 : decode cX11_mayByWaits 7 = .ok (.bipush 40, 2) := by decide +kernel
theorem dX11_mayByWaits_9 : decode cX11_mayByWaits 9 = .ok (.iaload, 1) := by decide +kernel
theorem dX11_mayByWaits_10 : decode cX11_mayByWaits 10 = .ok (.if_icmp .ge 61, 3) := by decide +kernel
theorem dX11_mayByWaits_13 : decode cX11_mayByWaits 13 = .ok (.aload_n 0, 1) := by decide +kernel
theorem dX11_mayByWaits_14 : decode cX11_mayByWaits 14 = .ok (.getfield 28, 3) := by decide +kernel
theorem dX11_mayByWaits_17 : decode cX11_mayByWaits 17 = .ok (.iload_n 3, 1) := by decide +kernel
theorem dX11_mayByWaits_18 : decode cX11_mayByWaits 18 = .ok (.baload, 1) := by decide +kernel
theorem dX11_mayByWaits_19 : decode cX11_mayByWaits 19 = .ok (.ifCond .eq 46, 3) := by decide +kernel
theorem dX11_mayByWaits_22 : decode cX11_mayByWaits 22 = .ok (.aload_n 0, 1) := by decide +kernel
theorem dX11_mayByWaits_23 : decode cX11_mayByWaits 23 = .ok (.iload_n 3, 1) := by decide +kernel
theorem dX11_mayByWaits_24 : decode cX11_mayByWaits 24 = .ok (.invokevirtual 169, 3) := by decide +kernel
theorem dX11_mayByWaits_27 : decode cX11_mayByWaits 27 = .ok (.iconst 2, 1) := by decide +kernel
theorem dX11_mayByWaits_28 : decode cX11_mayByWaits 28 = .ok (.if_icmp .ne 37, 3) := by decide +kernel
theorem dX11_mayByWaits_31 : decode cX11_mayByWaits 31 = .ok (.aload_n 0, 1) := by decide +kernel
theorem dX11_mayByWaits_32 : decode cX11_mayByWaits 32 = .ok (.iload_n 3, 1) := by decide +kernel
theorem dX11_mayByWaits_33 : decode cX11_mayByWaits 33 = .ok (.invokevirtual 172, 3) := by decide +kernel
theorem dX11_mayByWaits_36 : decode cX11_mayByWaits 36 = .ok (.iload_n 1, 1) := by decide +kernel
theorem dX11_mayByWaits_37 : decode cX11_mayByWaits 37 = .ok (.if_icmp .ne 28, 3) := by decide +kernel
theorem dX11_mayByWaits_40 : decode cX11_mayByWaits 40 = .ok (.aload_n 0, 1) := by decide +kernel
theorem dX11_mayByWaits_41 : decode cX11_mayByWaits 41 = .ok (.iload_n 3, 1) := by decide +kernel
theorem dX11_mayByWaits_42 : decode cX11_mayByWaits 42 = .ok (.invokevirtual 120, 3) := by decide +kernel
theorem dX11_mayByWaits_45 : decode cX11_mayByWaits 45 = .ok (.aload_n 0, 1) := by decide +kernel
theorem dX11_mayByWaits_46 : decode cX11_mayByWaits 46 = .ok (.getfield 35, 3) := by decide +kernel
theorem dX11_mayByWaits_49 : decode cX11_mayByWaits 49 = .ok (.iload_n 1, 1) := by decide +kernel
theorem dX11_mayByWaits_50 : decode cX11_mayByWaits 50 = .ok (.iaload, 1) := by decide +kernel
theorem dX11_mayByWaits_51 : decode cX11_mayByWaits 51 = .ok (.if_icmp .ne 14, 3) := by decide +kernel
theorem dX11_mayByWaits_54 : decode cX11_mayByWaits 54 = .ok (.aload_n 0, 1) := by decide +kernel
theorem dX11_mayByWaits_55 : decode cX11_mayByWaits 55 = .ok (.iload_n 3, 1) := by decide +kernel
theorem dX11_mayByWaits_56 : decode cX11_mayByWaits 56 = .ok (.invokevirtual 195, 3) := by decide +kernel
theorem dX11_mayByWaits_59 : decode cX11_mayByWaits 59 = .ok (.iload_n 2, 1) := by decide +kernel
theorem dX11_mayByWaits_60 : decode cX11_mayByWaits 60 = .ok (.if_icmp .le 5, 3) := by decide +kernel
theorem dX11_mayByWaits_63 : decode cX11_mayByWaits 63 = .ok (.iconst 0, 1) := by decide +kernel
theorem dX11_mayByWaits_64 : decode cX11_mayByWaits 64 = .ok (.ireturn, 1) := by decide +kernel
theorem dX11_mayByWaits_65 : decode cX11_mayByWaits 65 = .ok (.iinc 3 1, 3) := by decide +kernel
theorem dX11_mayByWaits_68 : decode cX11_mayByWaits 68 = .ok (.goto (-66), 3) := by decide +kernel
theorem dX11_mayByWaits_71 : decode cX11_mayByWaits 71 = .ok (.iconst 1, 1) := by decide +kernel
theorem dX11_mayByWaits_72 : decode cX11_mayByWaits 72 = .ok (.ireturn, 1) := by decide +kernel
theorem dX11_isMet_0 : decode cX11_isMet 0 = .ok (.aload_n 0, 1) := by decide +kernel
theorem dX11_isMet_1 : decode cX11_isMet 1 = .ok (.getfield 32, 3) := by decide +kernel
theorem dX11_isMet_4 : decode cX11_isMet 4 = .ok (.iload_n 1, 1) := by decide +kernel
theorem dX11_isMet_5 : decode cX11_isMet 5 = .ok (.iaload, 1) := by decide +kernel
theorem dX11_isMet_6 : decode cX11_isMet 6 = .ok (.iconst 3, 1) := by decide +kernel
theorem dX11_isMet_7 : decode cX11_isMet 7 = .ok (.if_icmp .eq 17, 3) := by decide +kernel
theorem dX11_isMet_10 : decode cX11_isMet 10 = .ok (.aload_n 0, 1) := by decide +kernel
theorem dX11_isMet_11 : decode cX11_isMet 11 = .ok (.getfield 65, 3) := by decide +kernel
theorem dX11_isMet_14 : decode cX11_isMet 14 = .ok (.bipush 7, 2) := by decide +kernel
theorem dX11_isMet_16 : decode cX11_isMet 16 = .ok (.iload_n 1, 1) := by decide +kernel
theorem dX11_isMet_17 : decode cX11_isMet 17 = .ok (.imul, 1) := by decide +kernel
theorem dX11_isMet_18 : decode cX11_isMet 18 = .ok (.iload_n 2, 1) := by decide +kernel
theorem dX11_isMet_19 : decode cX11_isMet 19 = .ok (.iadd, 1) := by decide +kernel
theorem dX11_isMet_20 : decode cX11_isMet 20 = .ok (.baload, 1) := by decide +kernel
theorem dX11_isMet_21 : decode cX11_isMet 21 = .ok (.ifCond .eq 7, 3) := by decide +kernel
theorem dX11_isMet_24 : decode cX11_isMet 24 = .ok (.iconst 1, 1) := by decide +kernel
theorem dX11_isMet_25 : decode cX11_isMet 25 = .ok (.goto 4, 3) := by decide +kernel
theorem dX11_isMet_28 : decode cX11_isMet 28 = .ok (.iconst 0, 1) := by decide +kernel
theorem dX11_isMet_29 : decode cX11_isMet 29 = .ok (.ireturn, 1) := by decide +kernel
theorem dX11_mayByMeets_0 : decode cX11_mayByMeets 0 = .ok (.iconst 0, 1) := by decide +kernel
theorem dX11_mayByMeets_1 : decode cX11_mayByMeets 1 = .ok (.istore_n 2, 1) := by decide +kernel
theorem dX11_mayByMeets_2 : decode cX11_mayByMeets 2 = .ok (.iload_n 2, 1) := by decide +kernel
theorem dX11_mayByMeets_3 : decode cX11_mayByMeets 3 = .ok (.aload_n 0, 1) := by decide +kernel
theorem dX11_mayByMeets_4 : decode cX11_mayByMeets 4 = .ok (.getfield 7, 3) := by decide +kernel
theorem dX11_mayByMeets_7 : decode cX11_mayByMeets 7 = .ok (.bipush 14, 2) := by decide +kernel
theorem dX11_mayByMeets_9 : decode cX11_mayByMeets 9 = .ok (.iaload, 1) := by decide +kernel
theorem dX11_mayByMeets_10 : decode cX11_mayByMeets 10 = .ok (.if_icmp .ge 100, 3) := by decide +kernel
theorem dX11_mayByMeets_13 : decode cX11_mayByMeets 13 = .ok (.iload_n 2, 1) := by decide +kernel
theorem dX11_mayByMeets_14 : decode cX11_mayByMeets 14 = .ok (.iload_n 1, 1) := by decide +kernel
theorem dX11_mayByMeets_15 : decode cX11_mayByMeets 15 = .ok (.if_icmp .eq 89, 3) := by decide +kernel
theorem dX11_mayByMeets_18 : decode cX11_mayByMeets 18 = .ok (.aload_n 0, 1) := by decide +kernel
theorem dX11_mayByMeets_19 : decode cX11_mayByMeets 19 = .ok (.iload_n 2, 1) := by decide +kernel
theorem dX11_mayByMeets_20 : decode cX11_mayByMeets 20 = .ok (.aload_n 0, 1) := by decide +kernel
theorem dX11_mayByMeets_21 : decode cX11_mayByMeets 21 = .ok (.getfield 35, 3) := by decide +kernel
theorem dX11_mayByMeets_24 : decode cX11_mayByMeets 24 = .ok (.iload_n 1, 1) := by decide +kernel
theorem dX11_mayByMeets_25 : decode cX11_mayByMeets 25 = .ok (.iaload, 1) := by decide +kernel
theorem dX11_mayByMeets_26 : decode cX11_mayByMeets 26 = .ok (.invokevirtual 210, 3) := by decide +kernel
theorem dX11_mayByMeets_29 : decode cX11_mayByMeets 29 = .ok (.ifCond .eq 6, 3) := by decide +kernel
theorem dX11_mayByMeets_32 : decode cX11_mayByMeets 32 = .ok (.goto 72, 3) := by decide +kernel
theorem dX11_mayByMeets_35 : decode cX11_mayByMeets 35 = .ok (.iconst 0, 1) := by decide +kernel
theorem dX11_mayByMeets_36 : decode cX11_mayByMeets 36 = .ok (.istore_n 3, 1) := by decide +kernel
theorem dX11_mayByMeets_37 : decode cX11_mayByMeets 37 = .ok (.iload_n 3, 1) := by decide +kernel
theorem dX11_mayByMeets_38 : decode cX11_mayByMeets 38 = .ok (.aload_n 0, 1) := by decide +kernel
theorem dX11_mayByMeets_39 : decode cX11_mayByMeets 39 = .ok (.getfield 7, 3) := by decide +kernel
theorem dX11_mayByMeets_42 : decode cX11_mayByMeets 42 = .ok (.bipush 40, 2) := by decide +kernel
theorem dX11_mayByMeets_44 : decode cX11_mayByMeets 44 = .ok (.iaload, 1) := by decide +kernel
theorem dX11_mayByMeets_45 : decode cX11_mayByMeets 45 = .ok (.if_icmp .ge 35, 3) := by decide +kernel
theorem dX11_mayByMeets_48 : decode cX11_mayByMeets 48 = .ok (.aload_n 0, 1) := by decide +kernel
theorem dX11_mayByMeets_49 : decode cX11_mayByMeets 49 = .ok (.iload_n 3, 1) := by decide +kernel
theorem dX11_mayByMeets_50 : decode cX11_mayByMeets 50 = .ok (.iload_n 1, 1) := by decide +kernel
theorem dX11_mayByMeets_51 : decode cX11_mayByMeets 51 = .ok (.iload_n 2, 1) := by decide +kernel
theorem dX11_mayByMeets_52 : decode cX11_mayByMeets 52 = .ok (.invokevirtual 213, 3) := by decide +kernel
theorem dX11_mayByMeets_55 : decode cX11_mayByMeets 55 = .ok (.ifCond .eq 19, 3) := by decide +kernel
theorem dX11_mayByMeets_58 : decode cX11_mayByMeets 58 = .ok (.aload_n 0, 1) := by decide +kernel
theorem dX11_mayByMeets_59 : decode cX11_mayByMeets 59 = .ok (.iload_n 3, 1) := by decide +kernel
theorem dX11_mayByMeets_60 : decode cX11_mayByMeets 60 = .ok (.invokevirtual 120, 3) := by decide +kernel
theorem dX11_mayByMeets_63 : decode cX11_mayByMeets 63 = .ok (.aload_n 0, 1) := by decide +kernel
theorem dX11_mayByMeets_64 : decode cX11_mayByMeets 64 = .ok (.getfield 35, 3) := by decide +kernel
theorem dX11_mayByMeets_67 : decode cX11_mayByMeets 67 = .ok (.iload_n 1, 1) := by decide +kernel
theorem dX11_mayByMeets_68 : decode cX11_mayByMeets 68 = .ok (.iaload, 1) := by decide +kernel
theorem dX11_mayByMeets_69 : decode cX11_mayByMeets 69 = .ok (.if_icmp .ne 5, 3) := by decide +kernel
theorem dX11_mayByMeets_72 : decode cX11_mayByMeets 72 = .ok (.iconst 0, 1) := by decide +kernel
theorem dX11_mayByMeets_73 : decode cX11_mayByMeets 73 = .ok (.ireturn, 1) := by decide +kernel
theorem dX11_mayByMeets_74 : decode cX11_mayByMeets 74 = .ok (.iinc 3 1, 3) := by decide +kernel
theorem dX11_mayByMeets_77 : decode cX11_mayByMeets 77 = .ok (.goto (-40), 3) := by decide +kernel
theorem dX11_mayByMeets_80 : decode cX11_mayByMeets 80 = .ok (.aload_n 0, 1) := by decide +kernel
theorem dX11_mayByMeets_81 : decode cX11_mayByMeets 81 = .ok (.iload_n 1, 1) := by decide +kernel
theorem dX11_mayByMeets_82 : decode cX11_mayByMeets 82 = .ok (.iload_n 2, 1) := by decide +kernel
theorem dX11_mayByMeets_83 : decode cX11_mayByMeets 83 = .ok (.invokevirtual 216, 3) := by decide +kernel
theorem dX11_mayByMeets_86 : decode cX11_mayByMeets 86 = .ok (.ifCond .eq 18, 3) := by decide +kernel
theorem dX11_mayByMeets_89 : decode cX11_mayByMeets 89 = .ok (.aload_n 0, 1) := by decide +kernel
theorem dX11_mayByMeets_90 : decode cX11_mayByMeets 90 = .ok (.getfield 219, 3) := by decide +kernel
theorem dX11_mayByMeets_93 : decode cX11_mayByMeets 93 = .ok (.aload_n 0, 1) := by decide +kernel
theorem dX11_mayByMeets_94 : decode cX11_mayByMeets 94 = .ok (.getfield 35, 3) := by decide +kernel
theorem dX11_mayByMeets_97 : decode cX11_mayByMeets 97 = .ok (.iload_n 1, 1) := by decide +kernel
theorem dX11_mayByMeets_98 : decode cX11_mayByMeets 98 = .ok (.iaload, 1) := by decide +kernel
theorem dX11_mayByMeets_99 : decode cX11_mayByMeets 99 = .ok (.if_icmp .ne 5, 3) := by decide +kernel
theorem dX11_mayByMeets_102 : decode cX11_mayByMeets 102 = .ok (.iconst 0, 1) := by decide +kernel
theorem dX11_mayByMeets_103 : decode cX11_mayByMeets 103 = .ok (.ireturn, 1) := by decide +kernel
theorem dX11_mayByMeets_104 : decode cX11_mayByMeets 104 = .ok (.iinc 2 1, 3) := by decide +kernel
theorem dX11_mayByMeets_107 : decode cX11_mayByMeets 107 = .ok (.goto (-105), 3) := by decide +kernel
theorem dX11_mayByMeets_110 : decode cX11_mayByMeets 110 = .ok (.iconst 1, 1) := by decide +kernel
theorem dX11_mayByMeets_111 : decode cX11_mayByMeets 111 = .ok (.ireturn, 1) := by decide +kernel
theorem dX11_isBehind_0 : decode cX11_isBehind 0 = .ok (.aload_n 0, 1) := by decide +kernel
theorem dX11_isBehind_1 : decode cX11_isBehind 1 = .ok (.getfield 38, 3) := by decide +kernel
theorem dX11_isBehind_4 : decode cX11_isBehind 4 = .ok (.iload_n 1, 1) := by decide +kernel
theorem dX11_isBehind_5 : decode cX11_isBehind 5 = .ok (.iaload, 1) := by decide +kernel
theorem dX11_isBehind_6 : decode cX11_isBehind 6 = .ok (.ifCond .ne 21, 3) := by decide +kernel
theorem dX11_isBehind_9 : decode cX11_isBehind 9 = .ok (.iload_n 2, 1) := by decide +kernel
theorem dX11_isBehind_10 : decode cX11_isBehind 10 = .ok (.aload_n 0, 1) := by decide +kernel
theorem dX11_isBehind_11 : decode cX11_isBehind 11 = .ok (.getfield 35, 3) := by decide +kernel
theorem dX11_isBehind_14 : decode cX11_isBehind 14 = .ok (.iload_n 1, 1) := by decide +kernel
theorem dX11_isBehind_15 : decode cX11_isBehind 15 = .ok (.iaload, 1) := by decide +kernel
theorem dX11_isBehind_16 : decode cX11_isBehind 16 = .ok (.if_icmp .le 7, 3) := by decide +kernel
theorem dX11_isBehind_19 : decode cX11_isBehind 19 = .ok (.iconst 1, 1) := by decide +kernel
theorem dX11_isBehind_20 : decode cX11_isBehind 20 = .ok (.goto 22, 3) := by decide +kernel
theorem dX11_isBehind_23 : decode cX11_isBehind 23 = .ok (.iconst 0, 1) := by decide +kernel
theorem dX11_isBehind_24 : decode cX11_isBehind 24 = .ok (.goto 18, 3) := by decide +kernel
theorem dX11_isBehind_27 : decode cX11_isBehind 27 = .ok (.iload_n 2, 1) := by decide +kernel
theorem dX11_isBehind_28 : decode cX11_isBehind 28 = .ok (.aload_n 0, 1) := by decide +kernel
theorem dX11_isBehind_29 : decode cX11_isBehind 29 = .ok (.getfield 35, 3) := by decide +kernel
theorem dX11_isBehind_32 : decode cX11_isBehind 32 = .ok (.iload_n 1, 1) := by decide +kernel
theorem dX11_isBehind_33 : decode cX11_isBehind 33 = .ok (.iaload, 1) := by decide +kernel
theorem dX11_isBehind_34 : decode cX11_isBehind 34 = .ok (.if_icmp .ge 7, 3) := by decide +kernel
theorem dX11_isBehind_37 : decode cX11_isBehind 37 = .ok (.iconst 1, 1) := by decide +kernel
theorem dX11_isBehind_38 : decode cX11_isBehind 38 = .ok (.goto 4, 3) := by decide +kernel
theorem dX11_isBehind_41 : decode cX11_isBehind 41 = .ok (.iconst 0, 1) := by decide +kernel
theorem dX11_isBehind_42 : decode cX11_isBehind 42 = .ok (.ireturn, 1) := by decide +kernel
theorem dX11_sectionAhead_0 : decode cX11_sectionAhead 0 = .ok (.aload_n 0, 1) := by decide +kernel
theorem dX11_sectionAhead_1 : decode cX11_sectionAhead 1 = .ok (.getfield 38, 3) := by decide +kernel
theorem dX11_sectionAhead_4 : decode cX11_sectionAhead 4 = .ok (.iload_n 1, 1) := by decide +kernel
theorem dX11_sectionAhead_5 : decode cX11_sectionAhead 5 = .ok (.iaload, 1) := by decide +kernel
theorem dX11_sectionAhead_6 : decode cX11_sectionAhead 6 = .ok (.ifCond .ne 12, 3) := by decide +kernel
theorem dX11_sectionAhead_9 : decode cX11_sectionAhead 9 = .ok (.aload_n 0, 1) := by decide +kernel
theorem dX11_sectionAhead_10 : decode cX11_sectionAhead 10 = .ok (.getfield 35, 3) := by decide +kernel
theorem dX11_sectionAhead_13 : decode cX11_sectionAhead 13 = .ok (.iload_n 1, 1) := by decide +kernel
theorem dX11_sectionAhead_14 : decode cX11_sectionAhead 14 = .ok (.iaload, 1) := by decide +kernel
theorem dX11_sectionAhead_15 : decode cX11_sectionAhead 15 = .ok (.goto 11, 3) := by decide +kernel
theorem dX11_sectionAhead_18 : decode cX11_sectionAhead 18 = .ok (.aload_n 0, 1) := by decide +kernel
theorem dX11_sectionAhead_19 : decode cX11_sectionAhead 19 = .ok (.getfield 35, 3) := by decide +kernel
theorem dX11_sectionAhead_22 : decode cX11_sectionAhead 22 = .ok (.iload_n 1, 1) := by decide +kernel
theorem dX11_sectionAhead_23 : decode cX11_sectionAhead 23 = .ok (.iaload, 1) := by decide +kernel
theorem dX11_sectionAhead_24 : decode cX11_sectionAhead 24 = .ok (.iconst 1, 1) := by decide +kernel
theorem dX11_sectionAhead_25 : decode cX11_sectionAhead 25 = .ok (.isub, 1) := by decide +kernel
theorem dX11_sectionAhead_26 : decode cX11_sectionAhead 26 = .ok (.ireturn, 1) := by decide +kernel
theorem dX11_goesOver_0 : decode cX11_goesOver 0 = .ok (.aload_n 0, 1) := by decide +kernel
theorem dX11_goesOver_1 : decode cX11_goesOver 1 = .ok (.iload_n 1, 1) := by decide +kernel
theorem dX11_goesOver_2 : decode cX11_goesOver 2 = .ok (.invokevirtual 140, 3) := by decide +kernel
theorem dX11_goesOver_5 : decode cX11_goesOver 5 = .ok (.ifCond .ne 22, 3) := by decide +kernel
theorem dX11_goesOver_8 : decode cX11_goesOver 8 = .ok (.iload_n 2, 1) := by decide +kernel
theorem dX11_goesOver_9 : decode cX11_goesOver 9 = .ok (.aload_n 0, 1) := by decide +kernel
theorem dX11_goesOver_10 : decode cX11_goesOver 10 = .ok (.iload_n 1, 1) := by decide +kernel
theorem dX11_goesOver_11 : decode cX11_goesOver 11 = .ok (.invokevirtual 115, 3) := by decide +kernel
theorem dX11_goesOver_14 : decode cX11_goesOver 14 = .ok (.aload_n 0, 1) := by decide +kernel
theorem dX11_goesOver_15 : decode cX11_goesOver 15 = .ok (.iload_n 1, 1) := by decide +kernel
theorem dX11_goesOver_16 : decode cX11_goesOver 16 = .ok (.invokevirtual 112, 3) := by decide +kernel
theorem dX11_goesOver_19 : decode cX11_goesOver 19 = .ok (.iconst 1, 1) := by decide +kernel
theorem dX11_goesOver_20 : decode cX11_goesOver 20 = .ok (.isub, 1) := by decide +kernel
theorem dX11_goesOver_21 : decode cX11_goesOver 21 = .ok (.invokestatic 108, 3) := by decide +kernel
theorem dX11_goesOver_24 : decode cX11_goesOver 24 = .ok (.goto 19, 3) := by decide +kernel
theorem dX11_goesOver_27 : decode cX11_goesOver 27 = .ok (.iload_n 2, 1) := by decide +kernel
theorem dX11_goesOver_28 : decode cX11_goesOver 28 = .ok (.aload_n 0, 1) := by decide +kernel
theorem dX11_goesOver_29 : decode cX11_goesOver 29 = .ok (.iload_n 1, 1) := by decide +kernel
theorem dX11_goesOver_30 : decode cX11_goesOver 30 = .ok (.invokevirtual 112, 3) := by decide +kernel
theorem dX11_goesOver_33 : decode cX11_goesOver 33 = .ok (.aload_n 0, 1) := by decide +kernel
theorem dX11_goesOver_34 : decode cX11_goesOver 34 = .ok (.iload_n 1, 1) := by decide +kernel
theorem dX11_goesOver_35 : decode cX11_goesOver 35 = .ok (.invokevirtual 115, 3) := by decide +kernel
theorem dX11_goesOver_38 : decode cX11_goesOver 38 = .ok (.iconst 1, 1) := by decide +kernel
theorem dX11_goesOver_39 : decode cX11_goesOver 39 = .ok (.isub, 1) := by decide +kernel
theorem dX11_goesOver_40 : decode cX11_goesOver 40 = .ok (.invokestatic 108, 3) := by decide +kernel
theorem dX11_goesOver_43 : decode cX11_goesOver 43 = .ok (.ireturn, 1) := by decide +kernel
theorem dX11_mayAgainst_0 : decode cX11_mayAgainst 0 = .ok (.aload_n 0, 1) := by decide +kernel
theorem dX11_mayAgainst_1 : decode cX11_mayAgainst 1 = .ok (.iload_n 1, 1) := by decide +kernel
theorem dX11_mayAgainst_2 : decode cX11_mayAgainst 2 = .ok (.invokevirtual 222, 3) := by decide +kernel
theorem dX11_mayAgainst_5 : decode cX11_mayAgainst 5 = .ok (.istore 4, 2) := by decide +kernel
theorem dX11_mayAgainst_7 : decode cX11_mayAgainst 7 = .ok (.aload_n 0, 1) := by decide +kernel
theorem dX11_mayAgainst_8 : decode cX11_mayAgainst 8 = .ok (.getfield 38, 3) := by decide +kernel
theorem dX11_mayAgainst_11 : decode cX11_mayAgainst 11 = .ok (.iload_n 2, 1) := by decide +kernel
theorem dX11_mayAgainst_12 : decode cX11_mayAgainst 12 = .ok (.iaload, 1) := by decide +kernel
theorem dX11_mayAgainst_13 : decode cX11_mayAgainst 13 = .ok (.aload_n 0, 1) := by decide +kernel
theorem dX11_mayAgainst_14 : decode cX11_mayAgainst 14 = .ok (.getfield 38, 3) := by decide +kernel
theorem dX11_mayAgainst_17 : decode cX11_mayAgainst 17 = .ok (.iload_n 1, 1) := by decide +kernel
theorem dX11_mayAgainst_18 : decode cX11_mayAgainst 18 = .ok (.iaload, 1) := by decide +kernel
theorem dX11_mayAgainst_19 : decode cX11_mayAgainst 19 = .ok (.if_icmp .eq 57, 3) := by decide +kernel
theorem dX11_mayAgainst_22 : decode cX11_mayAgainst 22 = .ok (.aload_n 0, 1) := by decide +kernel
theorem dX11_mayAgainst_23 : decode cX11_mayAgainst 23 = .ok (.getfield 32, 3) := by decide +kernel
theorem dX11_mayAgainst_26 : decode cX11_mayAgainst 26 = .ok (.iload_n 2, 1) := by decide +kernel
theorem dX11_mayAgainst_27 : decode cX11_mayAgainst 27 = .ok (.iaload, 1) := by decide +kernel
theorem dX11_mayAgainst_28 : decode cX11_mayAgainst 28 = .ok (.iconst 3, 1) := by decide +kernel
theorem dX11_mayAgainst_29 : decode cX11_mayAgainst 29 = .ok (.if_icmp .eq 47, 3) := by decide +kernel
theorem dX11_mayAgainst_32 : decode cX11_mayAgainst 32 = .ok (.aload_n 0, 1) := by decide +kernel
theorem dX11_mayAgainst_33 : decode cX11_mayAgainst 33 = .ok (.iload_n 2, 1) := by decide +kernel
theorem dX11_mayAgainst_34 : decode cX11_mayAgainst 34 = .ok (.iload 4, 2) := by decide +kernel
theorem dX11_mayAgainst_36 : decode cX11_mayAgainst 36 = .ok (.invokevirtual 225, 3) := by decide +kernel
theorem dX11_mayAgainst_39 : decode cX11_mayAgainst 39 = .ok (.ifCond .eq 37, 3) := by decide +kernel
theorem dX11_mayAgainst_42 : decode cX11_mayAgainst 42 = .ok (.aload_n 0, 1) := by decide +kernel
theorem dX11_mayAgainst_43 : decode cX11_mayAgainst 43 = .ok (.getfield 68, 3) := by decide +kernel
theorem dX11_mayAgainst_46 : decode cX11_mayAgainst 46 = .ok (.bipush 7, 2) := by decide +kernel
theorem dX11_mayAgainst_48 : decode cX11_mayAgainst 48 = .ok (.iload_n 2, 1) := by decide +kernel
theorem dX11_mayAgainst_49 : decode cX11_mayAgainst 49 = .ok (.imul, 1) := by decide +kernel
theorem dX11_mayAgainst_50 : decode cX11_mayAgainst 50 = .ok (.aload_n 0, 1) := by decide +kernel
theorem dX11_mayAgainst_51 : decode cX11_mayAgainst 51 = .ok (.getfield 35, 3) := by decide +kernel
theorem dX11_mayAgainst_54 : decode cX11_mayAgainst 54 = .ok (.iload_n 1, 1) := by decide +kernel
theorem dX11_mayAgainst_55 : decode cX11_mayAgainst 55 = .ok (.iaload, 1) := by decide +kernel
theorem dX11_mayAgainst_56 : decode cX11_mayAgainst 56 = .ok (.iadd, 1) := by decide +kernel
theorem dX11_mayAgainst_57 : decode cX11_mayAgainst 57 = .ok (.baload, 1) := by decide +kernel
theorem dX11_mayAgainst_58 : decode cX11_mayAgainst 58 = .ok (.ifCond .ne 18, 3) := by decide +kernel
theorem dX11_mayAgainst_61 : decode cX11_mayAgainst 61 = .ok (.aload_n 0, 1) := by decide +kernel
theorem dX11_mayAgainst_62 : decode cX11_mayAgainst 62 = .ok (.iload_n 2, 1) := by decide +kernel
theorem dX11_mayAgainst_63 : decode cX11_mayAgainst 63 = .ok (.aload_n 0, 1) := by decide +kernel
theorem dX11_mayAgainst_64 : decode cX11_mayAgainst 64 = .ok (.getfield 38, 3) := by decide +kernel
theorem dX11_mayAgainst_67 : decode cX11_mayAgainst 67 = .ok (.iload_n 2, 1) := by decide +kernel
theorem dX11_mayAgainst_68 : decode cX11_mayAgainst 68 = .ok (.iaload, 1) := by decide +kernel
theorem dX11_mayAgainst_69 : decode cX11_mayAgainst 69 = .ok (.iload_n 1, 1) := by decide +kernel
theorem dX11_mayAgainst_70 : decode cX11_mayAgainst 70 = .ok (.invokevirtual 159, 3) := by decide +kernel
theorem dX11_mayAgainst_73 : decode cX11_mayAgainst 73 = .ok (.ifCond .ne 5, 3) := by decide +kernel
theorem dX11_mayAgainst_76 : decode cX11_mayAgainst 76 = .ok (.iconst 1, 1) := by decide +kernel
theorem dX11_mayAgainst_77 : decode cX11_mayAgainst 77 = .ok (.ireturn, 1) := by decide +kernel
theorem dX11_mayAgainst_78 : decode cX11_mayAgainst 78 = .ok (.iconst 0, 1) := by decide +kernel
theorem dX11_mayAgainst_79 : decode cX11_mayAgainst 79 = .ok (.istore 5, 2) := by decide +kernel
theorem dX11_mayAgainst_81 : decode cX11_mayAgainst 81 = .ok (.iload 5, 2) := by decide +kernel
theorem dX11_mayAgainst_83 : decode cX11_mayAgainst 83 = .ok (.aload_n 0, 1) := by decide +kernel
theorem dX11_mayAgainst_84 : decode cX11_mayAgainst 84 = .ok (.getfield 7, 3) := by decide +kernel
theorem dX11_mayAgainst_87 : decode cX11_mayAgainst 87 = .ok (.bipush 40, 2) := by decide +kernel
theorem dX11_mayAgainst_89 : decode cX11_mayAgainst 89 = .ok (.iaload, 1) := by decide +kernel
theorem dX11_mayAgainst_90 : decode cX11_mayAgainst 90 = .ok (.if_icmp .ge 36, 3) := by decide +kernel
theorem dX11_mayAgainst_93 : decode cX11_mayAgainst 93 = .ok (.aload_n 0, 1) := by decide +kernel
theorem dX11_mayAgainst_94 : decode cX11_mayAgainst 94 = .ok (.iload 5, 2) := by decide +kernel
theorem dX11_mayAgainst_96 : decode cX11_mayAgainst 96 = .ok (.iload_n 1, 1) := by decide +kernel
theorem dX11_mayAgainst_97 : decode cX11_mayAgainst 97 = .ok (.iload_n 2, 1) := by decide +kernel
theorem dX11_mayAgainst_98 : decode cX11_mayAgainst 98 = .ok (.invokevirtual 213, 3) := by decide +kernel
theorem dX11_mayAgainst_101 : decode cX11_mayAgainst 101 = .ok (.ifCond .eq 19, 3) := by decide +kernel
theorem dX11_mayAgainst_104 : decode cX11_mayAgainst 104 = .ok (.aload_n 0, 1) := by decide +kernel
theorem dX11_mayAgainst_105 : decode cX11_mayAgainst 105 = .ok (.iload_n 1, 1) := by decide +kernel
theorem dX11_mayAgainst_106 : decode cX11_mayAgainst 106 = .ok (.aload_n 0, 1) := by decide +kernel
theorem dX11_mayAgainst_107 : decode cX11_mayAgainst 107 = .ok (.iload 5, 2) := by decide +kernel
theorem dX11_mayAgainst_109 : decode cX11_mayAgainst 109 = .ok (.invokevirtual 120, 3) := by decide +kernel
theorem dX11_mayAgainst_112 : decode cX11_mayAgainst 112 = .ok (.invokevirtual 228, 3) := by decide +kernel
theorem dX11_mayAgainst_115 : decode cX11_mayAgainst 115 = .ok (.ifCond .eq 5, 3) := by decide +kernel
theorem dX11_mayAgainst_118 : decode cX11_mayAgainst 118 = .ok (.iconst 1, 1) := by decide +kernel
theorem dX11_mayAgainst_119 : decode cX11_mayAgainst 119 = .ok (.ireturn, 1) := by decide +kernel
theorem dX11_mayAgainst_120 : decode cX11_mayAgainst 120 = .ok (.iinc 5 1, 3) := by decide +kernel
theorem dX11_mayAgainst_123 : decode cX11_mayAgainst 123 = .ok (.goto (-42), 3) := by decide +kernel
theorem dX11_mayAgainst_126 : decode cX11_mayAgainst 126 = .ok (.aload_n 0, 1) := by decide +kernel
theorem dX11_mayAgainst_127 : decode cX11_mayAgainst 127 = .ok (.iload_n 1, 1) := by decide +kernel
theorem dX11_mayAgainst_128 : decode cX11_mayAgainst 128 = .ok (.iload_n 2, 1) := by decide +kernel
theorem dX11_mayAgainst_129 : decode cX11_mayAgainst 129 = .ok (.invokevirtual 216, 3) := by decide +kernel
theorem dX11_mayAgainst_132 : decode cX11_mayAgainst 132 = .ok (.ifCond .eq 17, 3) := by decide +kernel
theorem dX11_mayAgainst_135 : decode cX11_mayAgainst 135 = .ok (.aload_n 0, 1) := by decide +kernel
theorem dX11_mayAgainst_136 : decode cX11_mayAgainst 136 = .ok (.iload_n 1, 1) := by decide +kernel
theorem dX11_mayAgainst_137 : decode cX11_mayAgainst 137 = .ok (.aload_n 0, 1) := by decide +kernel
theorem dX11_mayAgainst_138 : decode cX11_mayAgainst 138 = .ok (.getfield 219, 3) := by decide +kernel
theorem dX11_mayAgainst_141 : decode cX11_mayAgainst 141 = .ok (.invokevirtual 228, 3) := by decide +kernel
theorem dX11_mayAgainst_144 : decode cX11_mayAgainst 144 = .ok (.ifCond .eq 5, 3) := by decide +kernel
theorem dX11_mayAgainst_147 : decode cX11_mayAgainst 147 = .ok (.iconst 1, 1) := by decide +kernel
theorem dX11_mayAgainst_148 : decode cX11_mayAgainst 148 = .ok (.ireturn, 1) := by decide +kernel
theorem dX11_mayAgainst_149 : decode cX11_mayAgainst 149 = .ok (.aload_n 0, 1) := by decide +kernel
theorem dX11_mayAgainst_150 : decode cX11_mayAgainst 150 = .ok (.getfield 38, 3) := by decide +kernel
theorem dX11_mayAgainst_153 : decode cX11_mayAgainst 153 = .ok (.iload_n 1, 1) := by decide +kernel
theorem dX11_mayAgainst_154 : decode cX11_mayAgainst 154 = .ok (.iaload, 1) := by decide +kernel
theorem dX11_mayAgainst_155 : decode cX11_mayAgainst 155 = .ok (.ifCond .ne 14, 3) := by decide +kernel
theorem dX11_mayAgainst_158 : decode cX11_mayAgainst 158 = .ok (.aload_n 0, 1) := by decide +kernel
theorem dX11_mayAgainst_159 : decode cX11_mayAgainst 159 = .ok (.getfield 35, 3) := by decide +kernel
theorem dX11_mayAgainst_162 : decode cX11_mayAgainst 162 = .ok (.iload_n 1, 1) := by decide +kernel
theorem dX11_mayAgainst_163 : decode cX11_mayAgainst 163 = .ok (.iaload, 1) := by decide +kernel
theorem dX11_mayAgainst_164 : decode cX11_mayAgainst 164 = .ok (.iconst 1, 1) := by decide +kernel
theorem dX11_mayAgainst_165 : decode cX11_mayAgainst 165 = .ok (.iadd, 1) := by decide +kernel
theorem dX11_mayAgainst_166 : decode cX11_mayAgainst 166 = .ok (.goto 11, 3) := by decide +kernel
theorem dX11_mayAgainst_169 : decode cX11_mayAgainst 169 = .ok (.aload_n 0, 1) := by decide +kernel
theorem dX11_mayAgainst_170 : decode cX11_mayAgainst 170 = .ok (.getfield 35, 3) := by decide +kernel
theorem dX11_mayAgainst_173 : decode cX11_mayAgainst 173 = .ok (.iload_n 1, 1) := by decide +kernel
theorem dX11_mayAgainst_174 : decode cX11_mayAgainst 174 = .ok (.iaload, 1) := by decide +kernel
theorem dX11_mayAgainst_175 : decode cX11_mayAgainst 175 = .ok (.iconst 1, 1) := by decide +kernel
theorem dX11_mayAgainst_176 : decode cX11_mayAgainst 176 = .ok (.isub, 1) := by decide +kernel
theorem dX11_mayAgainst_177 : decode cX11_mayAgainst 177 = .ok (.istore 5, 2) := by decide +kernel
theorem dX11_mayAgainst_179 : decode cX11_mayAgainst 179 = .ok (.aload_n 0, 1) := by decide +kernel
theorem dX11_mayAgainst_180 : decode cX11_mayAgainst 180 = .ok (.iload_n 2, 1) := by decide +kernel
theorem dX11_mayAgainst_181 : decode cX11_mayAgainst 181 = .ok (.invokevirtual 136, 3) := by decide +kernel
theorem dX11_mayAgainst_184 : decode cX11_mayAgainst 184 = .ok (.iconst 1, 1) := by decide +kernel
theorem dX11_mayAgainst_185 : decode cX11_mayAgainst 185 = .ok (.if_icmp .eq 12, 3) := by decide +kernel
theorem dX11_mayAgainst_188 : decode cX11_mayAgainst 188 = .ok (.aload_n 0, 1) := by decide +kernel
theorem dX11_mayAgainst_189 : decode cX11_mayAgainst 189 = .ok (.iload_n 2, 1) := by decide +kernel
theorem dX11_mayAgainst_190 : decode cX11_mayAgainst 190 = .ok (.invokevirtual 136, 3) := by decide +kernel
theorem dX11_mayAgainst_193 : decode cX11_mayAgainst 193 = .ok (.iconst 2, 1) := by decide +kernel
theorem dX11_mayAgainst_194 : decode cX11_mayAgainst 194 = .ok (.if_icmp .ne 37, 3) := by decide +kernel
theorem dX11_mayAgainst_197 : decode cX11_mayAgainst 197 = .ok (.iload_n 3, 1) := by decide +kernel
theorem dX11_mayAgainst_198 : decode cX11_mayAgainst 198 = .ok (.aload_n 0, 1) := by decide +kernel
theorem dX11_mayAgainst_199 : decode cX11_mayAgainst 199 = .ok (.getfield 7, 3) := by decide +kernel
theorem dX11_mayAgainst_202 : decode cX11_mayAgainst 202 = .ok (.bipush 8, 2) := by decide +kernel
theorem dX11_mayAgainst_204 : decode cX11_mayAgainst 204 = .ok (.iload 4, 2) := by decide +kernel
theorem dX11_mayAgainst_206 : decode cX11_mayAgainst 206 = .ok (.iadd, 1) := by decide +kernel
theorem dX11_mayAgainst_207 : decode cX11_mayAgainst 207 = .ok (.iaload, 1) := by decide +kernel
theorem dX11_mayAgainst_208 : decode cX11_mayAgainst 208 = .ok (.iadd, 1) := by decide +kernel
theorem dX11_mayAgainst_209 : decode cX11_mayAgainst 209 = .ok (.iconst 5, 1) := by decide +kernel
theorem dX11_mayAgainst_210 : decode cX11_mayAgainst 210 = .ok (.iadd, 1) := by decide +kernel
theorem dX11_mayAgainst_211 : decode cX11_mayAgainst 211 = .ok (.aload_n 0, 1) := by decide +kernel
theorem dX11_mayAgainst_212 : decode cX11_mayAgainst 212 = .ok (.iload_n 2, 1) := by decide +kernel
theorem dX11_mayAgainst_213 : decode cX11_mayAgainst 213 = .ok (.iload 5, 2) := by decide +kernel
theorem dX11_mayAgainst_215 : decode cX11_mayAgainst 215 = .ok (.invokevirtual 153, 3) := by decide +kernel
theorem dX11_mayAgainst_218 : decode cX11_mayAgainst 218 = .ok (.aload_n 0, 1) := by decide +kernel
theorem dX11_mayAgainst_219 : decode cX11_mayAgainst 219 = .ok (.iload_n 2, 1) := by decide +kernel
theorem dX11_mayAgainst_220 : decode cX11_mayAgainst 220 = .ok (.invokevirtual 207, 3) := by decide +kernel
theorem dX11_mayAgainst_223 : decode cX11_mayAgainst 223 = .ok (.iadd, 1) := by decide +kernel
theorem dX11_mayAgainst_224 : decode cX11_mayAgainst 224 = .ok (.if_icmp .gt 7, 3) := by decide +kernel
theorem dX11_mayAgainst_227 : decode cX11_mayAgainst 227 = .ok (.iconst 1, 1) := by decide +kernel
theorem dX11_mayAgainst_228 : decode cX11_mayAgainst 228 = .ok (.goto 4, 3) := by decide +kernel
theorem dX11_mayAgainst_231 : decode cX11_mayAgainst 231 = .ok (.iconst 0, 1) := by decide +kernel
theorem dX11_mayAgainst_232 : decode cX11_mayAgainst 232 = .ok (.ireturn, 1) := by decide +kernel
theorem dX11_whyNot_0 : decode cX11_whyNot 0 = .ok (.aload_n 0, 1) := by decide +kernel
theorem dX11_whyNot_1 : decode cX11_whyNot 1 = .ok (.iload_n 1, 1) := by decide +kernel
theorem dX11_whyNot_2 : decode cX11_whyNot 2 = .ok (.iload_n 2, 1) := by decide +kernel
theorem dX11_whyNot_3 : decode cX11_whyNot 3 = .ok (.invokevirtual 178, 3) := by decide +kernel
theorem dX11_whyNot_6 : decode cX11_whyNot 6 = .ok (.aload_n 0, 1) := by decide +kernel
theorem dX11_whyNot_7 : decode cX11_whyNot 7 = .ok (.iload_n 1, 1) := by decide +kernel
theorem dX11_whyNot_8 : decode cX11_whyNot 8 = .ok (.iload_n 2, 1) := by decide +kernel
theorem dX11_whyNot_9 : decode cX11_whyNot 9 = .ok (.invokevirtual 231, 3) := by decide +kernel
theorem dX11_whyNot_12 : decode cX11_whyNot 12 = .ok (.ifCond .ne 5, 3) := by decide +kernel
theorem dX11_whyNot_15 : decode cX11_whyNot 15 = .ok (.iconst 1, 1) := by decide +kernel
theorem dX11_whyNot_16 : decode cX11_whyNot 16 = .ok (.ireturn, 1) := by decide +kernel
theorem dX11_whyNot_17 : decode cX11_whyNot 17 = .ok (.aload_n 0, 1) := by decide +kernel
theorem dX11_whyNot_18 : decode cX11_whyNot 18 = .ok (.iload_n 1, 1) := by decide +kernel
theorem dX11_whyNot_19 : decode cX11_whyNot 19 = .ok (.iload_n 2, 1) := by decide +kernel
theorem dX11_whyNot_20 : decode cX11_whyNot 20 = .ok (.invokevirtual 234, 3) := by decide +kernel
theorem dX11_whyNot_23 : decode cX11_whyNot 23 = .ok (.ifCond .ne 5, 3) := by decide +kernel
theorem dX11_whyNot_26 : decode cX11_whyNot 26 = .ok (.iconst 2, 1) := by decide +kernel
theorem dX11_whyNot_27 : decode cX11_whyNot 27 = .ok (.ireturn, 1) := by decide +kernel
theorem dX11_whyNot_28 : decode cX11_whyNot 28 = .ok (.aload_n 0, 1) := by decide +kernel
theorem dX11_whyNot_29 : decode cX11_whyNot 29 = .ok (.iload_n 1, 1) := by decide +kernel
theorem dX11_whyNot_30 : decode cX11_whyNot 30 = .ok (.invokevirtual 237, 3) := by decide +kernel
theorem dX11_whyNot_33 : decode cX11_whyNot 33 = .ok (.ifCond .ne 5, 3) := by decide +kernel
theorem dX11_whyNot_36 : decode cX11_whyNot 36 = .ok (.iconst 3, 1) := by decide +kernel
theorem dX11_whyNot_37 : decode cX11_whyNot 37 = .ok (.ireturn, 1) := by decide +kernel
theorem dX11_whyNot_38 : decode cX11_whyNot 38 = .ok (.iconst 0, 1) := by decide +kernel
theorem dX11_whyNot_39 : decode cX11_whyNot 39 = .ok (.istore_n 3, 1) := by decide +kernel
theorem dX11_whyNot_40 : decode cX11_whyNot 40 = .ok (.iload_n 3, 1) := by decide +kernel
theorem dX11_whyNot_41 : decode cX11_whyNot 41 = .ok (.aload_n 0, 1) := by decide +kernel
theorem dX11_whyNot_42 : decode cX11_whyNot 42 = .ok (.getfield 7, 3) := by decide +kernel
theorem dX11_whyNot_45 : decode cX11_whyNot 45 = .ok (.bipush 14, 2) := by decide +kernel
theorem dX11_whyNot_47 : decode cX11_whyNot 47 = .ok (.iaload, 1) := by decide +kernel
theorem dX11_whyNot_48 : decode cX11_whyNot 48 = .ok (.if_icmp .ge 26, 3) := by decide +kernel
theorem dX11_whyNot_51 : decode cX11_whyNot 51 = .ok (.iload_n 3, 1) := by decide +kernel
theorem dX11_whyNot_52 : decode cX11_whyNot 52 = .ok (.iload_n 1, 1) := by decide +kernel
theorem dX11_whyNot_53 : decode cX11_whyNot 53 = .ok (.if_icmp .eq 15, 3) := by decide +kernel
theorem dX11_whyNot_56 : decode cX11_whyNot 56 = .ok (.aload_n 0, 1) := by decide +kernel
theorem dX11_whyNot_57 : decode cX11_whyNot 57 = .ok (.iload_n 1, 1) := by decide +kernel
theorem dX11_whyNot_58 : decode cX11_whyNot 58 = .ok (.iload_n 3, 1) := by decide +kernel
theorem dX11_whyNot_59 : decode cX11_whyNot 59 = .ok (.iload_n 2, 1) := by decide +kernel
theorem dX11_whyNot_60 : decode cX11_whyNot 60 = .ok (.invokevirtual 240, 3) := by decide +kernel
theorem dX11_whyNot_63 : decode cX11_whyNot 63 = .ok (.ifCond .ne 5, 3) := by decide +kernel
theorem dX11_whyNot_66 : decode cX11_whyNot 66 = .ok (.iconst 4, 1) := by decide +kernel
theorem dX11_whyNot_67 : decode cX11_whyNot 67 = .ok (.ireturn, 1) := by decide +kernel
theorem dX11_whyNot_68 : decode cX11_whyNot 68 = .ok (.iinc 3 1, 3) := by decide +kernel
theorem dX11_whyNot_71 : decode cX11_whyNot 71 = .ok (.goto (-31), 3) := by decide +kernel
theorem dX11_whyNot_74 : decode cX11_whyNot 74 = .ok (.iload_n 2, 1) := by decide +kernel
theorem dX11_whyNot_75 : decode cX11_whyNot 75 = .ok (.aload_n 0, 1) := by decide +kernel
theorem dX11_whyNot_76 : decode cX11_whyNot 76 = .ok (.getfield 53, 3) := by decide +kernel
theorem dX11_whyNot_79 : decode cX11_whyNot 79 = .ok (.bipush 7, 2) := by decide +kernel
theorem dX11_whyNot_81 : decode cX11_whyNot 81 = .ok (.aload_n 0, 1) := by decide +kernel
theorem dX11_whyNot_82 : decode cX11_whyNot 82 = .ok (.getfield 38, 3) := by decide +kernel
theorem dX11_whyNot_85 : decode cX11_whyNot 85 = .ok (.iload_n 1, 1) := by decide +kernel
theorem dX11_whyNot_86 : decode cX11_whyNot 86 = .ok (.iaload, 1) := by decide +kernel
theorem dX11_whyNot_87 : decode cX11_whyNot 87 = .ok (.imul, 1) := by decide +kernel
theorem dX11_whyNot_88 : decode cX11_whyNot 88 = .ok (.aload_n 0, 1) := by decide +kernel
theorem dX11_whyNot_89 : decode cX11_whyNot 89 = .ok (.getfield 35, 3) := by decide +kernel
theorem dX11_whyNot_92 : decode cX11_whyNot 92 = .ok (.iload_n 1, 1) := by decide +kernel
theorem dX11_whyNot_93 : decode cX11_whyNot 93 = .ok (.iaload, 1) := by decide +kernel
theorem dX11_whyNot_94 : decode cX11_whyNot 94 = .ok (.iadd, 1) := by decide +kernel
theorem dX11_whyNot_95 : decode cX11_whyNot 95 = .ok (.iaload, 1) := by decide +kernel
theorem dX11_whyNot_96 : decode cX11_whyNot 96 = .ok (.isub, 1) := by decide +kernel
theorem dX11_whyNot_97 : decode cX11_whyNot 97 = .ok (.bipush 10, 2) := by decide +kernel
theorem dX11_whyNot_99 : decode cX11_whyNot 99 = .ok (.if_icmp .ge 7, 3) := by decide +kernel
theorem dX11_whyNot_102 : decode cX11_whyNot 102 = .ok (.iconst 5, 1) := by decide +kernel
theorem dX11_whyNot_103 : decode cX11_whyNot 103 = .ok (.goto 4, 3) := by decide +kernel
theorem dX11_whyNot_106 : decode cX11_whyNot 106 = .ok (.iconst 0, 1) := by decide +kernel
theorem dX11_whyNot_107 : decode cX11_whyNot 107 = .ok (.ireturn, 1) := by decide +kernel
theorem dX11_goes_0 : decode cX11_goes 0 = .ok (.aload_n 0, 1) := by decide +kernel
theorem dX11_goes_1 : decode cX11_goes 1 = .ok (.getfield 53, 3) := by decide +kernel
theorem dX11_goes_4 : decode cX11_goes 4 = .ok (.bipush 7, 2) := by decide +kernel
theorem dX11_goes_6 : decode cX11_goes 6 = .ok (.aload_n 0, 1) := by decide +kernel
theorem dX11_goes_7 : decode cX11_goes 7 = .ok (.getfield 38, 3) := by decide +kernel
theorem dX11_goes_10 : decode cX11_goes 10 = .ok (.iload_n 1, 1) := by decide +kernel
theorem dX11_goes_11 : decode cX11_goes 11 = .ok (.iaload, 1) := by decide +kernel
theorem dX11_goes_12 : decode cX11_goes 12 = .ok (.imul, 1) := by decide +kernel
theorem dX11_goes_13 : decode cX11_goes 13 = .ok (.aload_n 0, 1) := by decide +kernel
theorem dX11_goes_14 : decode cX11_goes 14 = .ok (.getfield 35, 3) := by decide +kernel
theorem dX11_goes_17 : decode cX11_goes 17 = .ok (.iload_n 1, 1) := by decide +kernel
theorem dX11_goes_18 : decode cX11_goes 18 = .ok (.iaload, 1) := by decide +kernel
theorem dX11_goes_19 : decode cX11_goes 19 = .ok (.iadd, 1) := by decide +kernel
theorem dX11_goes_20 : decode cX11_goes 20 = .ok (.iload_n 2, 1) := by decide +kernel
theorem dX11_goes_21 : decode cX11_goes 21 = .ok (.iastore, 1) := by decide +kernel
theorem dX11_goes_22 : decode cX11_goes 22 = .ok (.aload_n 0, 1) := by decide +kernel
theorem dX11_goes_23 : decode cX11_goes 23 = .ok (.getfield 50, 3) := by decide +kernel
theorem dX11_goes_26 : decode cX11_goes 26 = .ok (.bipush 7, 2) := by decide +kernel
theorem dX11_goes_28 : decode cX11_goes 28 = .ok (.iload_n 1, 1) := by decide +kernel
theorem dX11_goes_29 : decode cX11_goes 29 = .ok (.imul, 1) := by decide +kernel
theorem dX11_goes_30 : decode cX11_goes 30 = .ok (.aload_n 0, 1) := by decide +kernel
theorem dX11_goes_31 : decode cX11_goes 31 = .ok (.getfield 35, 3) := by decide +kernel
theorem dX11_goes_34 : decode cX11_goes 34 = .ok (.iload_n 1, 1) := by decide +kernel
theorem dX11_goes_35 : decode cX11_goes 35 = .ok (.iaload, 1) := by decide +kernel
theorem dX11_goes_36 : decode cX11_goes 36 = .ok (.iadd, 1) := by decide +kernel
theorem dX11_goes_37 : decode cX11_goes 37 = .ok (.iaload, 1) := by decide +kernel
theorem dX11_goes_38 : decode cX11_goes 38 = .ok (.ifCond .ge 20, 3) := by decide +kernel
theorem dX11_goes_41 : decode cX11_goes 41 = .ok (.aload_n 0, 1) := by decide +kernel
theorem dX11_goes_42 : decode cX11_goes 42 = .ok (.getfield 50, 3) := by decide +kernel
theorem dX11_goes_45 : decode cX11_goes 45 = .ok (.bipush 7, 2) := by decide +kernel
theorem dX11_goes_47 : decode cX11_goes 47 = .ok (.iload_n 1, 1) := by decide +kernel
theorem dX11_goes_48 : decode cX11_goes 48 = .ok (.imul, 1) := by decide +kernel
theorem dX11_goes_49 : decode cX11_goes 49 = .ok (.aload_n 0, 1) := by decide +kernel
theorem dX11_goes_50 : decode cX11_goes 50 = .ok (.getfield 35, 3) := by decide +kernel
theorem dX11_goes_53 : decode cX11_goes 53 = .ok (.iload_n 1, 1) := by decide +kernel
theorem dX11_goes_54 : decode cX11_goes 54 = .ok (.iaload, 1) := by decide +kernel
theorem dX11_goes_55 : decode cX11_goes 55 = .ok (.iadd, 1) := by decide +kernel
theorem dX11_goes_56 : decode cX11_goes 56 = .ok (.iload_n 2, 1) := by decide +kernel
theorem dX11_goes_57 : decode cX11_goes 57 = .ok (.iastore, 1) := by decide +kernel
theorem dX11_goes_58 : decode cX11_goes 58 = .ok (.aload_n 0, 1) := by decide +kernel
theorem dX11_goes_59 : decode cX11_goes 59 = .ok (.getfield 35, 3) := by decide +kernel
theorem dX11_goes_62 : decode cX11_goes 62 = .ok (.iload_n 1, 1) := by decide +kernel
theorem dX11_goes_63 : decode cX11_goes 63 = .ok (.aload_n 0, 1) := by decide +kernel
theorem dX11_goes_64 : decode cX11_goes 64 = .ok (.iload_n 1, 1) := by decide +kernel
theorem dX11_goes_65 : decode cX11_goes 65 = .ok (.invokevirtual 222, 3) := by decide +kernel
theorem dX11_goes_68 : decode cX11_goes 68 = .ok (.iastore, 1) := by decide +kernel
theorem dX11_goes_69 : decode cX11_goes 69 = .ok (.aload_n 0, 1) := by decide +kernel
theorem dX11_goes_70 : decode cX11_goes 70 = .ok (.getfield 32, 3) := by decide +kernel
theorem dX11_goes_73 : decode cX11_goes 73 = .ok (.iload_n 1, 1) := by decide +kernel
theorem dX11_goes_74 : decode cX11_goes 74 = .ok (.iconst 2, 1) := by decide +kernel
theorem dX11_goes_75 : decode cX11_goes 75 = .ok (.iastore, 1) := by decide +kernel
theorem dX11_goes_76 : decode cX11_goes 76 = .ok (.aload_n 0, 1) := by decide +kernel
theorem dX11_goes_77 : decode cX11_goes 77 = .ok (.getfield 41, 3) := by decide +kernel
theorem dX11_goes_80 : decode cX11_goes 80 = .ok (.iload_n 1, 1) := by decide +kernel
theorem dX11_goes_81 : decode cX11_goes 81 = .ok (.iload_n 2, 1) := by decide +kernel
theorem dX11_goes_82 : decode cX11_goes 82 = .ok (.iastore, 1) := by decide +kernel
theorem dX11_goes_83 : decode cX11_goes 83 = .ok (.return_, 1) := by decide +kernel
theorem dX11_looksAtHeads_0 : decode cX11_looksAtHeads 0 = .ok (.iconst 0, 1) := by decide +kernel
theorem dX11_looksAtHeads_1 : decode cX11_looksAtHeads 1 = .ok (.istore_n 2, 1) := by decide +kernel
theorem dX11_looksAtHeads_2 : decode cX11_looksAtHeads 2 = .ok (.iload_n 2, 1) := by decide +kernel
theorem dX11_looksAtHeads_3 : decode cX11_looksAtHeads 3 = .ok (.aload_n 0, 1) := by decide +kernel
theorem dX11_looksAtHeads_4 : decode cX11_looksAtHeads 4 = .ok (.getfield 7, 3) := by decide +kernel
theorem dX11_looksAtHeads_7 : decode cX11_looksAtHeads 7 = .ok (.bipush 14, 2) := by decide +kernel
theorem dX11_looksAtHeads_9 : decode cX11_looksAtHeads 9 = .ok (.iaload, 1) := by decide +kernel
theorem dX11_looksAtHeads_10 : decode cX11_looksAtHeads 10 = .ok (.if_icmp .ge 183, 3) := by decide +kernel
theorem dX11_looksAtHeads_13 : decode cX11_looksAtHeads 13 = .ok (.iload_n 2, 1) := by decide +kernel
theorem dX11_looksAtHeads_14 : decode cX11_looksAtHeads 14 = .ok (.iconst 1, 1) := by decide +kernel
theorem dX11_looksAtHeads_15 : decode cX11_looksAtHeads 15 = .ok (.iadd, 1) := by decide +kernel
theorem dX11_looksAtHeads_16 : decode cX11_looksAtHeads 16 = .ok (.istore_n 3, 1) := by decide +kernel
theorem dX11_looksAtHeads_17 : decode cX11_looksAtHeads 17 = .ok (.iload_n 3, 1) := by decide +kernel
theorem dX11_looksAtHeads_18 : decode cX11_looksAtHeads 18 = .ok (.aload_n 0, 1) := by decide +kernel
theorem dX11_looksAtHeads_19 : decode cX11_looksAtHeads 19 = .ok (.getfield 7, 3) := by decide +kernel
theorem dX11_looksAtHeads_22 : decode cX11_looksAtHeads 22 = .ok (.bipush 14, 2) := by decide +kernel
theorem dX11_looksAtHeads_24 : decode cX11_looksAtHeads 24 = .ok (.iaload, 1) := by decide +kernel
theorem dX11_looksAtHeads_25 : decode cX11_looksAtHeads 25 = .ok (.if_icmp .ge 162, 3) := by decide +kernel
theorem dX11_looksAtHeads_28 : decode cX11_looksAtHeads 28 = .ok (.aload_n 0, 1) := by decide +kernel
theorem dX11_looksAtHeads_29 : decode cX11_looksAtHeads 29 = .ok (.getfield 32, 3) := by decide +kernel
theorem dX11_looksAtHeads_32 : decode cX11_looksAtHeads 32 = .ok (.iload_n 2, 1) := by decide +kernel
theorem dX11_looksAtHeads_33 : decode cX11_looksAtHeads 33 = .ok (.iaload, 1) := by decide +kernel
theorem dX11_looksAtHeads_34 : decode cX11_looksAtHeads 34 = .ok (.iconst 2, 1) := by decide +kernel
theorem dX11_looksAtHeads_35 : decode cX11_looksAtHeads 35 = .ok (.if_icmp .ne 146, 3) := by decide +kernel
theorem dX11_looksAtHeads_38 : decode cX11_looksAtHeads 38 = .ok (.aload_n 0, 1) := by decide +kernel
theorem dX11_looksAtHeads_39 : decode cX11_looksAtHeads 39 = .ok (.getfield 32, 3) := by decide +kernel
theorem dX11_looksAtHeads_42 : decode cX11_looksAtHeads 42 = .ok (.iload_n 3, 1) := by decide +kernel
theorem dX11_looksAtHeads_43 : decode cX11_looksAtHeads 43 = .ok (.iaload, 1) := by decide +kernel
theorem dX11_looksAtHeads_44 : decode cX11_looksAtHeads 44 = .ok (.iconst 2, 1) := by decide +kernel
theorem dX11_looksAtHeads_45 : decode cX11_looksAtHeads 45 = .ok (.if_icmp .ne 136, 3) := by decide +kernel
theorem dX11_looksAtHeads_48 : decode cX11_looksAtHeads 48 = .ok (.aload_n 0, 1) := by decide +kernel
theorem dX11_looksAtHeads_49 : decode cX11_looksAtHeads 49 = .ok (.getfield 35, 3) := by decide +kernel
theorem dX11_looksAtHeads_52 : decode cX11_looksAtHeads 52 = .ok (.iload_n 2, 1) := by decide +kernel
theorem dX11_looksAtHeads_53 : decode cX11_looksAtHeads 53 = .ok (.iaload, 1) := by decide +kernel
theorem dX11_looksAtHeads_54 : decode cX11_looksAtHeads 54 = .ok (.aload_n 0, 1) := by decide +kernel
theorem dX11_looksAtHeads_55 : decode cX11_looksAtHeads 55 = .ok (.getfield 35, 3) := by decide +kernel
theorem dX11_looksAtHeads_58 : decode cX11_looksAtHeads 58 = .ok (.iload_n 3, 1) := by decide +kernel
theorem dX11_looksAtHeads_59 : decode cX11_looksAtHeads 59 = .ok (.iaload, 1) := by decide +kernel
theorem dX11_looksAtHeads_60 : decode cX11_looksAtHeads 60 = .ok (.if_icmp .ne 121, 3) := by decide +kernel
theorem dX11_looksAtHeads_63 : decode cX11_looksAtHeads 63 = .ok (.aload_n 0, 1) := by decide +kernel
theorem dX11_looksAtHeads_64 : decode cX11_looksAtHeads 64 = .ok (.getfield 38, 3) := by decide +kernel
theorem dX11_looksAtHeads_67 : decode cX11_looksAtHeads 67 = .ok (.iload_n 2, 1) := by decide +kernel
theorem dX11_looksAtHeads_68 : decode cX11_looksAtHeads 68 = .ok (.iaload, 1) := by decide +kernel
theorem dX11_looksAtHeads_69 : decode cX11_looksAtHeads 69 = .ok (.aload_n 0, 1) := by decide +kernel
theorem dX11_looksAtHeads_70 : decode cX11_looksAtHeads 70 = .ok (.getfield 38, 3) := by decide +kernel
theorem dX11_looksAtHeads_73 : decode cX11_looksAtHeads 73 = .ok (.iload_n 3, 1) := by decide +kernel
theorem dX11_looksAtHeads_74 : decode cX11_looksAtHeads 74 = .ok (.iaload, 1) := by decide +kernel
theorem dX11_looksAtHeads_75 : decode cX11_looksAtHeads 75 = .ok (.if_icmp .eq 106, 3) := by decide +kernel
theorem dX11_looksAtHeads_78 : decode cX11_looksAtHeads 78 = .ok (.aload_n 0, 1) := by decide +kernel
theorem dX11_looksAtHeads_79 : decode cX11_looksAtHeads 79 = .ok (.getfield 71, 3) := by decide +kernel
theorem dX11_looksAtHeads_82 : decode cX11_looksAtHeads 82 = .ok (.iconst 5, 1) := by decide +kernel
theorem dX11_looksAtHeads_83 : decode cX11_looksAtHeads 83 = .ok (.iload_n 2, 1) := by decide +kernel
theorem dX11_looksAtHeads_84 : decode cX11_looksAtHeads 84 = .ok (.imul, 1) := by decide +kernel
theorem dX11_looksAtHeads_85 : decode cX11_looksAtHeads 85 = .ok (.iload_n 3, 1) := by decide +kernel
theorem dX11_looksAtHeads_86 : decode cX11_looksAtHeads 86 = .ok (.iadd, 1) := by decide +kernel
theorem dX11_looksAtHeads_87 : decode cX11_looksAtHeads 87 = .ok (.baload, 1) := by decide +kernel
theorem dX11_looksAtHeads_88 : decode cX11_looksAtHeads 88 = .ok (.ifCond .eq 6, 3) := by decide +kernel
theorem dX11_looksAtHeads_91 : decode cX11_looksAtHeads 91 = .ok (.goto 90, 3) := by decide +kernel
theorem dX11_looksAtHeads_94 : decode cX11_looksAtHeads 94 = .ok (.aload_n 0, 1) := by decide +kernel
theorem dX11_looksAtHeads_95 : decode cX11_looksAtHeads 95 = .ok (.getfield 71, 3) := by decide +kernel
theorem dX11_looksAtHeads_98 : decode cX11_looksAtHeads 98 = .ok (.iconst 5, 1) := by decide +kernel
theorem dX11_looksAtHeads_99 : decode cX11_looksAtHeads 99 = .ok (.iload_n 2, 1) := by decide +kernel
theorem dX11_looksAtHeads_100 : decode cX11_looksAtHeads 100 = .ok (.imul, 1) := by decide +kernel
theorem dX11_looksAtHeads_101 : decode cX11_looksAtHeads 101 = .ok (.iload_n 3, 1) := by decide +kernel
theorem dX11_looksAtHeads_102 : decode cX11_looksAtHeads 102 = .ok (.iadd, 1) := by decide +kernel
theorem dX11_looksAtHeads_103 : decode cX11_looksAtHeads 103 = .ok (.iconst 1, 1) := by decide +kernel
theorem dX11_looksAtHeads_104 : decode cX11_looksAtHeads 104 = .ok (.bastore, 1) := by decide +kernel
theorem dX11_looksAtHeads_105 : decode cX11_looksAtHeads 105 = .ok (.aload_n 0, 1) := by decide +kernel
theorem dX11_looksAtHeads_106 : decode cX11_looksAtHeads 106 = .ok (.getfield 182, 3) := by decide +kernel
theorem dX11_looksAtHeads_109 : decode cX11_looksAtHeads 109 = .ok (.ifCond .ne 62, 3) := by decide +kernel
theorem dX11_looksAtHeads_112 : decode cX11_looksAtHeads 112 = .ok (.aload_n 0, 1) := by decide +kernel
theorem dX11_looksAtHeads_113 : decode cX11_looksAtHeads 113 = .ok (.iload_n 1, 1) := by decide +kernel
theorem dX11_looksAtHeads_114 : decode cX11_looksAtHeads 114 = .ok (.putfield 243, 3) := by decide +kernel
theorem dX11_looksAtHeads_117 : decode cX11_looksAtHeads 117 = .ok (.aload_n 0, 1) := by decide +kernel
theorem dX11_looksAtHeads_118 : decode cX11_looksAtHeads 118 = .ok (.aload_n 0, 1) := by decide +kernel
theorem dX11_looksAtHeads_119 : decode cX11_looksAtHeads 119 = .ok (.getfield 35, 3) := by decide +kernel
theorem dX11_looksAtHeads_122 : decode cX11_looksAtHeads 122 = .ok (.iload_n 2, 1) := by decide +kernel
theorem dX11_looksAtHeads_123 : decode cX11_looksAtHeads 123 = .ok (.iaload, 1) := by decide +kernel
theorem dX11_looksAtHeads_124 : decode cX11_looksAtHeads 124 = .ok (.putfield 246, 3) := by decide +kernel
theorem dX11_looksAtHeads_127 : decode cX11_looksAtHeads 127 = .ok (.aload_n 0, 1) := by decide +kernel
theorem dX11_looksAtHeads_128 : decode cX11_looksAtHeads 128 = .ok (.iload_n 2, 1) := by decide +kernel
theorem dX11_looksAtHeads_129 : decode cX11_looksAtHeads 129 = .ok (.putfield 249, 3) := by decide +kernel
theorem dX11_looksAtHeads_132 : decode cX11_looksAtHeads 132 = .ok (.aload_n 0, 1) := by decide +kernel
theorem dX11_looksAtHeads_133 : decode cX11_looksAtHeads 133 = .ok (.iload_n 3, 1) := by decide +kernel
theorem dX11_looksAtHeads_134 : decode cX11_looksAtHeads 134 = .ok (.putfield 252, 3) := by decide +kernel
theorem dX11_looksAtHeads_137 : decode cX11_looksAtHeads 137 = .ok (.aload_n 0, 1) := by decide +kernel
theorem dX11_looksAtHeads_138 : decode cX11_looksAtHeads 138 = .ok (.aload_n 0, 1) := by decide +kernel
theorem dX11_looksAtHeads_139 : decode cX11_looksAtHeads 139 = .ok (.getfield 41, 3) := by decide +kernel
theorem dX11_looksAtHeads_142 : decode cX11_looksAtHeads 142 = .ok (.iload_n 2, 1) := by decide +kernel
theorem dX11_looksAtHeads_143 : decode cX11_looksAtHeads 143 = .ok (.iaload, 1) := by decide +kernel
theorem dX11_looksAtHeads_144 : decode cX11_looksAtHeads 144 = .ok (.aload_n 0, 1) := by decide +kernel
theorem dX11_looksAtHeads_145 : decode cX11_looksAtHeads 145 = .ok (.getfield 41, 3) := by decide +kernel
theorem dX11_looksAtHeads_148 : decode cX11_looksAtHeads 148 = .ok (.iload_n 3, 1) := by decide +kernel
theorem dX11_looksAtHeads_149 : decode cX11_looksAtHeads 149 = .ok (.iaload, 1) := by decide +kernel
theorem dX11_looksAtHeads_150 : decode cX11_looksAtHeads 150 = .ok (.if_icmp .le 12, 3) := by decide +kernel
theorem dX11_looksAtHeads_153 : decode cX11_looksAtHeads 153 = .ok (.aload_n 0, 1) := by decide +kernel
theorem dX11_looksAtHeads_154 : decode cX11_looksAtHeads 154 = .ok (.getfield 41, 3) := by decide +kernel
theorem dX11_looksAtHeads_157 : decode cX11_looksAtHeads 157 = .ok (.iload_n 2, 1) := by decide +kernel
theorem dX11_looksAtHeads_158 : decode cX11_looksAtHeads 158 = .ok (.iaload, 1) := by decide +kernel
theorem dX11_looksAtHeads_159 : decode cX11_looksAtHeads 159 = .ok (.goto 9, 3) := by decide +kernel
theorem dX11_looksAtHeads_162 : decode cX11_looksAtHeads 162 = .ok (.aload_n 0, 1) := by decide +kernel
theorem dX11_looksAtHeads_163 : decode cX11_looksAtHeads 163 = .ok (.getfield 41, 3) := by decide +kernel
theorem dX11_looksAtHeads_166 : decode cX11_looksAtHeads 166 = .ok (.iload_n 3, 1) := by decide +kernel
theorem dX11_looksAtHeads_167 : decode cX11_looksAtHeads 167 = .ok (.iaload, 1) := by decide +kernel
theorem dX11_looksAtHeads_168 : decode cX11_looksAtHeads 168 = .ok (.putfield 255, 3) := by decide +kernel
theorem dX11_looksAtHeads_171 : decode cX11_looksAtHeads 171 = .ok (.aload_n 0, 1) := by decide +kernel
theorem dX11_looksAtHeads_172 : decode cX11_looksAtHeads 172 = .ok (.dup, 1) := by decide +kernel
theorem dX11_looksAtHeads_173 : decode cX11_looksAtHeads 173 = .ok (.getfield 182, 3) := by decide +kernel
theorem dX11_looksAtHeads_176 : decode cX11_looksAtHeads 176 = .ok (.iconst 1, 1) := by decide +kernel
theorem dX11_looksAtHeads_177 : decode cX11_looksAtHeads 177 = .ok (.iadd, 1) := by decide +kernel
theorem dX11_looksAtHeads_178 : decode cX11_looksAtHeads 178 = .ok (.putfield 182, 3) := by decide +kernel
theorem dX11_looksAtHeads_181 : decode cX11_looksAtHeads 181 = .ok (.iinc 3 1, 3) := by decide +kernel
theorem dX11_looksAtHeads_184 : decode cX11_looksAtHeads 184 = .ok (.goto (-167), 3) := by decide +kernel
theorem dX11_looksAtHeads_187 : decode cX11_looksAtHeads 187 = .ok (.iinc 2 1, 3) := by decide +kernel
theorem dX11_looksAtHeads_190 : decode cX11_looksAtHeads 190 = .ok (.goto (-188), 3) := by decide +kernel
theorem dX11_looksAtHeads_193 : decode cX11_looksAtHeads 193 = .ok (.return_, 1) := by decide +kernel
theorem dX11_runs_0 : decode cX11_runs 0 = .ok (.aload_n 0, 1) := by decide +kernel
theorem dX11_runs_1 : decode cX11_runs 1 = .ok (.invokevirtual 258, 3) := by decide +kernel
theorem dX11_runs_4 : decode cX11_runs 4 = .ok (.iconst 0, 1) := by decide +kernel
theorem dX11_runs_5 : decode cX11_runs 5 = .ok (.istore_n 1, 1) := by decide +kernel
theorem dX11_runs_6 : decode cX11_runs 6 = .ok (.iload_n 1, 1) := by decide +kernel
theorem dX11_runs_7 : decode cX11_runs 7 = .ok (.sipush 500, 3) := by decide +kernel
theorem dX11_runs_10 : decode cX11_runs 10 = .ok (.if_icmp .gt 300, 3) := by decide +kernel
theorem dX11_runs_13 : decode cX11_runs 13 = .ok (.iconst 0, 1) := by decide +kernel
theorem dX11_runs_14 : decode cX11_runs 14 = .ok (.istore_n 2, 1) := by decide +kernel
theorem dX11_runs_15 : decode cX11_runs 15 = .ok (.iload_n 2, 1) := by decide +kernel
theorem dX11_runs_16 : decode cX11_runs 16 = .ok (.aload_n 0, 1) := by decide +kernel
theorem dX11_runs_17 : decode cX11_runs 17 = .ok (.getfield 7, 3) := by decide +kernel
theorem dX11_runs_20 : decode cX11_runs 20 = .ok (.bipush 14, 2) := by decide +kernel
theorem dX11_runs_22 : decode cX11_runs 22 = .ok (.iaload, 1) := by decide +kernel
theorem dX11_runs_23 : decode cX11_runs 23 = .ok (.if_icmp .ge 50, 3) := by decide +kernel
theorem dX11_runs_26 : decode cX11_runs 26 = .ok (.aload_n 0, 1) := by decide +kernel
theorem dX11_runs_27 : decode cX11_runs 27 = .ok (.getfield 32, 3) := by decide +kernel
theorem dX11_runs_30 : decode cX11_runs 30 = .ok (.iload_n 2, 1) := by decide +kernel
theorem dX11_runs_31 : decode cX11_runs 31 = .ok (.iaload, 1) := by decide +kernel
theorem dX11_runs_32 : decode cX11_runs 32 = .ok (.iconst 2, 1) := by decide +kernel
theorem dX11_runs_33 : decode cX11_runs 33 = .ok (.if_icmp .ne 34, 3) := by decide +kernel
theorem dX11_runs_36 : decode cX11_runs 36 = .ok (.iload_n 1, 1) := by decide +kernel
theorem dX11_runs_37 : decode cX11_runs 37 = .ok (.aload_n 0, 1) := by decide +kernel
theorem dX11_runs_38 : decode cX11_runs 38 = .ok (.getfield 41, 3) := by decide +kernel
theorem dX11_runs_41 : decode cX11_runs 41 = .ok (.iload_n 2, 1) := by decide +kernel
theorem dX11_runs_42 : decode cX11_runs 42 = .ok (.iaload, 1) := by decide +kernel
theorem dX11_runs_43 : decode cX11_runs 43 = .ok (.aload_n 0, 1) := by decide +kernel
theorem dX11_runs_44 : decode cX11_runs 44 = .ok (.getfield 7, 3) := by decide +kernel
theorem dX11_runs_47 : decode cX11_runs 47 = .ok (.bipush 8, 2) := by decide +kernel
theorem dX11_runs_49 : decode cX11_runs 49 = .ok (.aload_n 0, 1) := by decide +kernel
theorem dX11_runs_50 : decode cX11_runs 50 = .ok (.getfield 35, 3) := by decide +kernel
theorem dX11_runs_53 : decode cX11_runs 53 = .ok (.iload_n 2, 1) := by decide +kernel
theorem dX11_runs_54 : decode cX11_runs 54 = .ok (.iaload, 1) := by decide +kernel
theorem dX11_runs_55 : decode cX11_runs 55 = .ok (.iadd, 1) := by decide +kernel
theorem dX11_runs_56 : decode cX11_runs 56 = .ok (.iaload, 1) := by decide +kernel
theorem dX11_runs_57 : decode cX11_runs 57 = .ok (.iadd, 1) := by decide +kernel
theorem dX11_runs_58 : decode cX11_runs 58 = .ok (.if_icmp .ne 9, 3) := by decide +kernel
theorem dX11_runs_61 : decode cX11_runs 61 = .ok (.aload_n 0, 1) := by decide +kernel
theorem dX11_runs_62 : decode cX11_runs 62 = .ok (.iload_n 2, 1) := by decide +kernel
theorem dX11_runs_63 : decode cX11_runs 63 = .ok (.iload_n 1, 1) := by decide +kernel
theorem dX11_runs_64 : decode cX11_runs 64 = .ok (.invokevirtual 261, 3) := by decide +kernel
theorem dX11_runs_67 : decode cX11_runs 67 = .ok (.iinc 2 1, 3) := by decide +kernel
theorem dX11_runs_70 : decode cX11_runs 70 = .ok (.goto (-55), 3) := by decide +kernel
theorem dX11_runs_73 : decode cX11_runs 73 = .ok (.iconst 0, 1) := by decide +kernel
theorem dX11_runs_74 : decode cX11_runs 74 = .ok (.istore_n 2, 1) := by decide +kernel
theorem dX11_runs_75 : decode cX11_runs 75 = .ok (.iload_n 2, 1) := by decide +kernel
theorem dX11_runs_76 : decode cX11_runs 76 = .ok (.aload_n 0, 1) := by decide +kernel
theorem dX11_runs_77 : decode cX11_runs 77 = .ok (.getfield 7, 3) := by decide +kernel
theorem dX11_runs_80 : decode cX11_runs 80 = .ok (.bipush 14, 2) := by decide +kernel
theorem dX11_runs_82 : decode cX11_runs 82 = .ok (.iaload, 1) := by decide +kernel
theorem dX11_runs_83 : decode cX11_runs 83 = .ok (.if_icmp .ge 38, 3) := by decide +kernel
theorem dX11_runs_86 : decode cX11_runs 86 = .ok (.aload_n 0, 1) := by decide +kernel
theorem dX11_runs_87 : decode cX11_runs 87 = .ok (.getfield 32, 3) := by decide +kernel
theorem dX11_runs_90 : decode cX11_runs 90 = .ok (.iload_n 2, 1) := by decide +kernel
theorem dX11_runs_91 : decode cX11_runs 91 = .ok (.iaload, 1) := by decide +kernel
theorem dX11_runs_92 : decode cX11_runs 92 = .ok (.ifCond .ne 23, 3) := by decide +kernel
theorem dX11_runs_95 : decode cX11_runs 95 = .ok (.iload_n 1, 1) := by decide +kernel
theorem dX11_runs_96 : decode cX11_runs 96 = .ok (.aload_n 0, 1) := by decide +kernel
theorem dX11_runs_97 : decode cX11_runs 97 = .ok (.iload_n 2, 1) := by decide +kernel
theorem dX11_runs_98 : decode cX11_runs 98 = .ok (.invokevirtual 143, 3) := by decide +kernel
theorem dX11_runs_101 : decode cX11_runs 101 = .ok (.if_icmp .ne 14, 3) := by decide +kernel
theorem dX11_runs_104 : decode cX11_runs 104 = .ok (.aload_n 0, 1) := by decide +kernel
theorem dX11_runs_105 : decode cX11_runs 105 = .ok (.iload_n 2, 1) := by decide +kernel
theorem dX11_runs_106 : decode cX11_runs 106 = .ok (.aload_n 0, 1) := by decide +kernel
theorem dX11_runs_107 : decode cX11_runs 107 = .ok (.iload_n 2, 1) := by decide +kernel
theorem dX11_runs_108 : decode cX11_runs 108 = .ok (.invokevirtual 115, 3) := by decide +kernel
theorem dX11_runs_111 : decode cX11_runs 111 = .ok (.iload_n 1, 1) := by decide +kernel
theorem dX11_runs_112 : decode cX11_runs 112 = .ok (.invokevirtual 188, 3) := by decide +kernel
theorem dX11_runs_115 : decode cX11_runs 115 = .ok (.iinc 2 1, 3) := by decide +kernel
theorem dX11_runs_118 : decode cX11_runs 118 = .ok (.goto (-43), 3) := by decide +kernel
theorem dX11_runs_121 : decode cX11_runs 121 = .ok (.iconst 0, 1) := by decide +kernel
theorem dX11_runs_122 : decode cX11_runs 122 = .ok (.istore_n 2, 1) := by decide +kernel
theorem dX11_runs_123 : decode cX11_runs 123 = .ok (.iload_n 2, 1) := by decide +kernel
theorem dX11_runs_124 : decode cX11_runs 124 = .ok (.aload_n 0, 1) := by decide +kernel
theorem dX11_runs_125 : decode cX11_runs 125 = .ok (.getfield 7, 3) := by decide +kernel
theorem dX11_runs_128 : decode cX11_runs 128 = .ok (.bipush 14, 2) := by decide +kernel
theorem dX11_runs_130 : decode cX11_runs 130 = .ok (.iaload, 1) := by decide +kernel
theorem dX11_runs_131 : decode cX11_runs 131 = .ok (.if_icmp .ge 78, 3) := by decide +kernel
theorem dX11_runs_134 : decode cX11_runs 134 = .ok (.sipush 501, 3) := by decide +kernel
theorem dX11_runs_137 : decode cX11_runs 137 = .ok (.iload_n 2, 1) := by decide +kernel
theorem dX11_runs_138 : decode cX11_runs 138 = .ok (.imul, 1) := by decide +kernel
theorem dX11_runs_139 : decode cX11_runs 139 = .ok (.iload_n 1, 1) := by decide +kernel
theorem dX11_runs_140 : decode cX11_runs 140 = .ok (.iadd, 1) := by decide +kernel
theorem dX11_runs_141 : decode cX11_runs 141 = .ok (.istore_n 3, 1) := by decide +kernel
theorem dX11_runs_142 : decode cX11_runs 142 = .ok (.aload_n 0, 1) := by decide +kernel
theorem dX11_runs_143 : decode cX11_runs 143 = .ok (.getfield 59, 3) := by decide +kernel
theorem dX11_runs_146 : decode cX11_runs 146 = .ok (.iload_n 3, 1) := by decide +kernel
theorem dX11_runs_147 : decode cX11_runs 147 = .ok (.ldc 100, 2) := by decide +kernel
theorem dX11_runs_149 : decode cX11_runs 149 = .ok (.iastore, 1) := by decide +kernel
theorem dX11_runs_150 : decode cX11_runs 150 = .ok (.aload_n 0, 1) := by decide +kernel
theorem dX11_runs_151 : decode cX11_runs 151 = .ok (.getfield 32, 3) := by decide +kernel
theorem dX11_runs_154 : decode cX11_runs 154 = .ok (.iload_n 2, 1) := by decide +kernel
theorem dX11_runs_155 : decode cX11_runs 155 = .ok (.iaload, 1) := by decide +kernel
theorem dX11_runs_156 : decode cX11_runs 156 = .ok (.iconst 1, 1) := by decide +kernel
theorem dX11_runs_157 : decode cX11_runs 157 = .ok (.if_icmp .eq 6, 3) := by decide +kernel
theorem dX11_runs_160 : decode cX11_runs 160 = .ok (.goto 43, 3) := by decide +kernel
theorem dX11_runs_163 : decode cX11_runs 163 = .ok (.aload_n 0, 1) := by decide +kernel
theorem dX11_runs_164 : decode cX11_runs 164 = .ok (.getfield 59, 3) := by decide +kernel
theorem dX11_runs_167 : decode cX11_runs 167 = .ok (.iload_n 3, 1) := by decide +kernel
theorem dX11_runs_168 : decode cX11_runs 168 = .ok (.aload_n 0, 1) := by decide +kernel
theorem dX11_runs_169 : decode cX11_runs 169 = .ok (.iload_n 2, 1) := by decide +kernel
theorem dX11_runs_170 : decode cX11_runs 170 = .ok (.iload_n 1, 1) := by decide +kernel
theorem dX11_runs_171 : decode cX11_runs 171 = .ok (.invokevirtual 264, 3) := by decide +kernel
theorem dX11_runs_174 : decode cX11_runs 174 = .ok (.ifCond .eq 7, 3) := by decide +kernel
theorem dX11_runs_177 : decode cX11_runs 177 = .ok (.iconst 0, 1) := by decide +kernel
theorem dX11_runs_178 : decode cX11_runs 178 = .ok (.goto 9, 3) := by decide +kernel
theorem dX11_runs_181 : decode cX11_runs 181 = .ok (.aload_n 0, 1) := by decide +kernel
theorem dX11_runs_182 : decode cX11_runs 182 = .ok (.iload_n 2, 1) := by decide +kernel
theorem dX11_runs_183 : decode cX11_runs 183 = .ok (.iload_n 1, 1) := by decide +kernel
theorem dX11_runs_184 : decode cX11_runs 184 = .ok (.invokevirtual 267, 3) := by decide +kernel
theorem dX11_runs_187 : decode cX11_runs 187 = .ok (.iastore, 1) := by decide +kernel
theorem dX11_runs_188 : decode cX11_runs 188 = .ok (.aload_n 0, 1) := by decide +kernel
theorem dX11_runs_189 : decode cX11_runs 189 = .ok (.getfield 59, 3) := by decide +kernel
theorem dX11_runs_192 : decode cX11_runs 192 = .ok (.iload_n 3, 1) := by decide +kernel
theorem dX11_runs_193 : decode cX11_runs 193 = .ok (.iaload, 1) := by decide +kernel
theorem dX11_runs_194 : decode cX11_runs 194 = .ok (.ifCond .ne 9, 3) := by decide +kernel
theorem dX11_runs_197 : decode cX11_runs 197 = .ok (.aload_n 0, 1) := by decide +kernel
theorem dX11_runs_198 : decode cX11_runs 198 = .ok (.iload_n 2, 1) := by decide +kernel
theorem dX11_runs_199 : decode cX11_runs 199 = .ok (.iload_n 1, 1) := by decide +kernel
theorem dX11_runs_200 : decode cX11_runs 200 = .ok (.invokevirtual 270, 3) := by decide +kernel
theorem dX11_runs_203 : decode cX11_runs 203 = .ok (.iinc 2 1, 3) := by decide +kernel
theorem dX11_runs_206 : decode cX11_runs 206 = .ok (.goto (-83), 3) := by decide +kernel
theorem dX11_runs_209 : decode cX11_runs 209 = .ok (.aload_n 0, 1) := by decide +kernel
theorem dX11_runs_210 : decode cX11_runs 210 = .ok (.iload_n 1, 1) := by decide +kernel
theorem dX11_runs_211 : decode cX11_runs 211 = .ok (.invokevirtual 273, 3) := by decide +kernel
theorem dX11_runs_214 : decode cX11_runs 214 = .ok (.iconst 0, 1) := by decide +kernel
theorem dX11_runs_215 : decode cX11_runs 215 = .ok (.istore_n 2, 1) := by decide +kernel
theorem dX11_runs_216 : decode cX11_runs 216 = .ok (.iload_n 2, 1) := by decide +kernel
theorem dX11_runs_217 : decode cX11_runs 217 = .ok (.aload_n 0, 1) := by decide +kernel
theorem dX11_runs_218 : decode cX11_runs 218 = .ok (.getfield 7, 3) := by decide +kernel
theorem dX11_runs_221 : decode cX11_runs 221 = .ok (.bipush 14, 2) := by decide +kernel
theorem dX11_runs_223 : decode cX11_runs 223 = .ok (.iaload, 1) := by decide +kernel
theorem dX11_runs_224 : decode cX11_runs 224 = .ok (.if_icmp .ge 80, 3) := by decide +kernel
theorem dX11_runs_227 : decode cX11_runs 227 = .ok (.aload_n 0, 1) := by decide +kernel
theorem dX11_runs_228 : decode cX11_runs 228 = .ok (.getfield 56, 3) := by decide +kernel
theorem dX11_runs_231 : decode cX11_runs 231 = .ok (.sipush 501, 3) := by decide +kernel
theorem dX11_runs_234 : decode cX11_runs 234 = .ok (.iload_n 2, 1) := by decide +kernel
theorem dX11_runs_235 : decode cX11_runs 235 = .ok (.imul, 1) := by decide +kernel
theorem dX11_runs_236 : decode cX11_runs 236 = .ok (.iload_n 1, 1) := by decide +kernel
theorem dX11_runs_237 : decode cX11_runs 237 = .ok (.iadd, 1) := by decide +kernel
theorem dX11_runs_238 : decode cX11_runs 238 = .ok (.aload_n 0, 1) := by decide +kernel
theorem dX11_runs_239 : decode cX11_runs 239 = .ok (.getfield 32, 3) := by decide +kernel
theorem dX11_runs_242 : decode cX11_runs 242 = .ok (.iload_n 2, 1) := by decide +kernel
theorem dX11_runs_243 : decode cX11_runs 243 = .ok (.iaload, 1) := by decide +kernel
theorem dX11_runs_244 : decode cX11_runs 244 = .ok (.ifCond .ne 9, 3) := by decide +kernel
theorem dX11_runs_247 : decode cX11_runs 247 = .ok (.sipush 200, 3) := by decide +kernel
theorem dX11_runs_250 : decode cX11_runs 250 = .ok (.goto 47, 3) := by decide +kernel
theorem dX11_runs_253 : decode cX11_runs 253 = .ok (.aload_n 0, 1) := by decide +kernel
theorem dX11_runs_254 : decode cX11_runs 254 = .ok (.getfield 32, 3) := by decide +kernel
theorem dX11_runs_257 : decode cX11_runs 257 = .ok (.iload_n 2, 1) := by decide +kernel
theorem dX11_runs_258 : decode cX11_runs 258 = .ok (.iaload, 1) := by decide +kernel
theorem dX11_runs_259 : decode cX11_runs 259 = .ok (.iconst 3, 1) := by decide +kernel
theorem dX11_runs_260 : decode cX11_runs 260 = .ok (.if_icmp .ne 9, 3) := by decide +kernel
theorem dX11_runs_263 : decode cX11_runs 263 = .ok (.sipush 300, 3) := by decide +kernel
theorem dX11_runs_266 : decode cX11_runs 266 = .ok (.goto 31, 3) := by decide +kernel
theorem dX11_runs_269 : decode cX11_runs 269 = .ok (.aload_n 0, 1) := by decide +kernel
theorem dX11_runs_270 : decode cX11_runs 270 = .ok (.getfield 32, 3) := by decide +kernel
theorem dX11_runs_273 : decode cX11_runs 273 = .ok (.iload_n 2, 1) := by decide +kernel
theorem dX11_runs_274 : decode cX11_runs 274 = .ok (.iaload, 1) := by decide +kernel
theorem dX11_runs_275 : decode cX11_runs 275 = .ok (.iconst 2, 1) := by decide +kernel
theorem dX11_runs_276 : decode cX11_runs 276 = .ok (.if_icmp .ne 15, 3) := by decide +kernel
theorem dX11_runs_279 : decode cX11_runs 279 = .ok (.bipush 100, 2) := by decide +kernel
theorem dX11_runs_281 : decode cX11_runs 281 = .ok (.aload_n 0, 1) := by decide +kernel
theorem dX11_runs_282 : decode cX11_runs 282 = .ok (.getfield 35, 3) := by decide +kernel
theorem dX11_runs_285 : decode cX11_runs 285 = .ok (.iload_n 2, 1) := by decide +kernel
theorem dX11_runs_286 : decode cX11_runs 286 = .ok (.iaload, 1) := by decide +kernel
theorem dX11_runs_287 : decode cX11_runs 287 = .ok (.iadd, 1) := by decide +kernel
theorem dX11_runs_288 : decode cX11_runs 288 = .ok (.goto 9, 3) := by decide +kernel
theorem dX11_runs_291 : decode cX11_runs 291 = .ok (.aload_n 0, 1) := by decide +kernel
theorem dX11_runs_292 : decode cX11_runs 292 = .ok (.getfield 35, 3) := by decide +kernel
theorem dX11_runs_295 : decode cX11_runs 295 = .ok (.iload_n 2, 1) := by decide +kernel
theorem dX11_runs_296 : decode cX11_runs 296 = .ok (.iaload, 1) := by decide +kernel
theorem dX11_runs_297 : decode cX11_runs 297 = .ok (.iastore, 1) := by decide +kernel
theorem dX11_runs_298 : decode cX11_runs 298 = .ok (.iinc 2 1, 3) := by decide +kernel
theorem dX11_runs_301 : decode cX11_runs 301 = .ok (.goto (-85), 3) := by decide +kernel
theorem dX11_runs_304 : decode cX11_runs 304 = .ok (.iinc 1 1, 3) := by decide +kernel
theorem dX11_runs_307 : decode cX11_runs 307 = .ok (.goto (-301), 3) := by decide +kernel
theorem dX11_runs_310 : decode cX11_runs 310 = .ok (.return_, 1) := by decide +kernel
theorem dX11_runsAsItIs_0 : decode cX11_runsAsItIs 0 = .ok (.aload_n 0, 1) := by decide +kernel
theorem dX11_runsAsItIs_1 : decode cX11_runsAsItIs 1 = .ok (.getfield 90, 3) := by decide +kernel
theorem dX11_runsAsItIs_4 : decode cX11_runsAsItIs 4 = .ok (.ifCond .eq 4, 3) := by decide +kernel
theorem dX11_runsAsItIs_7 : decode cX11_runsAsItIs 7 = .ok (.return_, 1) := by decide +kernel
theorem dX11_runsAsItIs_8 : decode cX11_runsAsItIs 8 = .ok (.aload_n 0, 1) := by decide +kernel
theorem dX11_runsAsItIs_9 : decode cX11_runsAsItIs 9 = .ok (.iconst (-1), 1) := by decide +kernel
theorem dX11_runsAsItIs_10 : decode cX11_runsAsItIs 10 = .ok (.putfield 201, 3) := by decide +kernel
theorem dX11_runsAsItIs_13 : decode cX11_runsAsItIs 13 = .ok (.aload_n 0, 1) := by decide +kernel
theorem dX11_runsAsItIs_14 : decode cX11_runsAsItIs 14 = .ok (.iconst (-1), 1) := by decide +kernel
theorem dX11_runsAsItIs_15 : decode cX11_runsAsItIs 15 = .ok (.putfield 204, 3) := by decide +kernel
theorem dX11_runsAsItIs_18 : decode cX11_runsAsItIs 18 = .ok (.aload_n 0, 1) := by decide +kernel
theorem dX11_runsAsItIs_19 : decode cX11_runsAsItIs 19 = .ok (.iconst (-1), 1) := by decide +kernel
theorem dX11_runsAsItIs_20 : decode cX11_runsAsItIs 20 = .ok (.putfield 219, 3) := by decide +kernel
theorem dX11_runsAsItIs_23 : decode cX11_runsAsItIs 23 = .ok (.aload_n 0, 1) := by decide +kernel
theorem dX11_runsAsItIs_24 : decode cX11_runsAsItIs 24 = .ok (.invokevirtual 277, 3) := by decide +kernel
theorem dX11_runsAsItIs_27 : decode cX11_runsAsItIs 27 = .ok (.aload_n 0, 1) := by decide +kernel
theorem dX11_runsAsItIs_28 : decode cX11_runsAsItIs 28 = .ok (.iconst 1, 1) := by decide +kernel
theorem dX11_runsAsItIs_29 : decode cX11_runsAsItIs 29 = .ok (.putfield 90, 3) := by decide +kernel
theorem dX11_runsAsItIs_32 : decode cX11_runsAsItIs 32 = .ok (.return_, 1) := by decide +kernel
theorem dX11_where_0 : decode cX11_where 0 = .ok (.aload_n 0, 1) := by decide +kernel
theorem dX11_where_1 : decode cX11_where 1 = .ok (.iload_n 1, 1) := by decide +kernel
theorem dX11_where_2 : decode cX11_where 2 = .ok (.invokevirtual 133, 3) := by decide +kernel
theorem dX11_where_5 : decode cX11_where 5 = .ok (.ifCond .eq 10, 3) := by decide +kernel
theorem dX11_where_8 : decode cX11_where 8 = .ok (.iload_n 2, 1) := by decide +kernel
theorem dX11_where_9 : decode cX11_where 9 = .ok (.invokestatic 175, 3) := by decide +kernel
theorem dX11_where_12 : decode cX11_where 12 = .ok (.ifCond .ne 10, 3) := by decide +kernel
theorem dX11_where_15 : decode cX11_where 15 = .ok (.aload_n 0, 1) := by decide +kernel
theorem dX11_where_16 : decode cX11_where 16 = .ok (.ldc 118, 2) := by decide +kernel
theorem dX11_where_18 : decode cX11_where 18 = .ok (.invokevirtual 101, 3) := by decide +kernel
theorem dX11_where_21 : decode cX11_where 21 = .ok (.ireturn, 1) := by decide +kernel
theorem dX11_where_22 : decode cX11_where 22 = .ok (.aload_n 0, 1) := by decide +kernel
theorem dX11_where_23 : decode cX11_where 23 = .ok (.invokevirtual 280, 3) := by decide +kernel
theorem dX11_where_26 : decode cX11_where 26 = .ok (.aload_n 0, 1) := by decide +kernel
theorem dX11_where_27 : decode cX11_where 27 = .ok (.getfield 56, 3) := by decide +kernel
theorem dX11_where_30 : decode cX11_where 30 = .ok (.sipush 501, 3) := by decide +kernel
theorem dX11_where_33 : decode cX11_where 33 = .ok (.iload_n 1, 1) := by decide +kernel
theorem dX11_where_34 : decode cX11_where 34 = .ok (.imul, 1) := by decide +kernel
theorem dX11_where_35 : decode cX11_where 35 = .ok (.iload_n 2, 1) := by decide +kernel
theorem dX11_where_36 : decode cX11_where 36 = .ok (.iadd, 1) := by decide +kernel
theorem dX11_where_37 : decode cX11_where 37 = .ok (.iaload, 1) := by decide +kernel
theorem dX11_where_38 : decode cX11_where 38 = .ok (.ireturn, 1) := by decide +kernel
theorem dX11_came_0 : decode cX11_came 0 = .ok (.aload_n 0, 1) := by decide +kernel
theorem dX11_came_1 : decode cX11_came 1 = .ok (.iload_n 1, 1) := by decide +kernel
theorem dX11_came_2 : decode cX11_came 2 = .ok (.invokevirtual 133, 3) := by decide +kernel
theorem dX11_came_5 : decode cX11_came 5 = .ok (.ifCond .eq 11, 3) := by decide +kernel
theorem dX11_came_8 : decode cX11_came 8 = .ok (.aload_n 0, 1) := by decide +kernel
theorem dX11_came_9 : decode cX11_came 9 = .ok (.iload_n 2, 1) := by decide +kernel
theorem dX11_came_10 : decode cX11_came 10 = .ok (.invokevirtual 127, 3) := by decide +kernel
theorem dX11_came_13 : decode cX11_came 13 = .ok (.ifCond .ne 10, 3) := by decide +kernel
theorem dX11_came_16 : decode cX11_came 16 = .ok (.aload_n 0, 1) := by decide +kernel
theorem dX11_came_17 : decode cX11_came 17 = .ok (.ldc 118, 2) := by decide +kernel
theorem dX11_came_19 : decode cX11_came 19 = .ok (.invokevirtual 101, 3) := by decide +kernel
theorem dX11_came_22 : decode cX11_came 22 = .ok (.ireturn, 1) := by decide +kernel
theorem dX11_came_23 : decode cX11_came 23 = .ok (.aload_n 0, 1) := by decide +kernel
theorem dX11_came_24 : decode cX11_came 24 = .ok (.invokevirtual 280, 3) := by decide +kernel
theorem dX11_came_27 : decode cX11_came 27 = .ok (.aload_n 0, 1) := by decide +kernel
theorem dX11_came_28 : decode cX11_came 28 = .ok (.getfield 47, 3) := by decide +kernel
theorem dX11_came_31 : decode cX11_came 31 = .ok (.bipush 7, 2) := by decide +kernel
theorem dX11_came_33 : decode cX11_came 33 = .ok (.iload_n 1, 1) := by decide +kernel
theorem dX11_came_34 : decode cX11_came 34 = .ok (.imul, 1) := by decide +kernel
theorem dX11_came_35 : decode cX11_came 35 = .ok (.iload_n 2, 1) := by decide +kernel
theorem dX11_came_36 : decode cX11_came 36 = .ok (.iadd, 1) := by decide +kernel
theorem dX11_came_37 : decode cX11_came 37 = .ok (.iaload, 1) := by decide +kernel
theorem dX11_came_38 : decode cX11_came 38 = .ok (.ifCond .ge 12, 3) := by decide +kernel
theorem dX11_came_41 : decode cX11_came 41 = .ok (.aload_n 0, 1) := by decide +kernel
theorem dX11_came_42 : decode cX11_came 42 = .ok (.ldc 100, 2) := by decide +kernel
theorem dX11_came_44 : decode cX11_came 44 = .ok (.invokevirtual 101, 3) := by decide +kernel
theorem dX11_came_47 : decode cX11_came 47 = .ok (.goto 14, 3) := by decide +kernel
theorem dX11_came_50 : decode cX11_came 50 = .ok (.aload_n 0, 1) := by decide +kernel
theorem dX11_came_51 : decode cX11_came 51 = .ok (.getfield 47, 3) := by decide +kernel
theorem dX11_came_54 : decode cX11_came 54 = .ok (.bipush 7, 2) := by decide +kernel
theorem dX11_came_56 : decode cX11_came 56 = .ok (.iload_n 1, 1) := by decide +kernel
theorem dX11_came_57 : decode cX11_came 57 = .ok (.imul, 1) := by decide +kernel
theorem dX11_came_58 : decode cX11_came 58 = .ok (.iload_n 2, 1) := by decide +kernel
theorem dX11_came_59 : decode cX11_came 59 = .ok (.iadd, 1) := by decide +kernel
theorem dX11_came_60 : decode cX11_came 60 = .ok (.iaload, 1) := by decide +kernel
theorem dX11_came_61 : decode cX11_came 61 = .ok (.ireturn, 1) := by decide +kernel
theorem dX11_left_0 : decode cX11_left 0 = .ok (.aload_n 0, 1) := by decide +kernel
theorem dX11_left_1 : decode cX11_left 1 = .ok (.iload_n 1, 1) := by decide +kernel
theorem dX11_left_2 : decode cX11_left 2 = .ok (.invokevirtual 133, 3) := by decide +kernel
theorem dX11_left_5 : decode cX11_left 5 = .ok (.ifCond .eq 11, 3) := by decide +kernel
theorem dX11_left_8 : decode cX11_left 8 = .ok (.aload_n 0, 1) := by decide +kernel
theorem dX11_left_9 : decode cX11_left 9 = .ok (.iload_n 2, 1) := by decide +kernel
theorem dX11_left_10 : decode cX11_left 10 = .ok (.invokevirtual 127, 3) := by decide +kernel
theorem dX11_left_13 : decode cX11_left 13 = .ok (.ifCond .ne 10, 3) := by decide +kernel
theorem dX11_left_16 : decode cX11_left 16 = .ok (.aload_n 0, 1) := by decide +kernel
theorem dX11_left_17 : decode cX11_left 17 = .ok (.ldc 118, 2) := by decide +kernel
theorem dX11_left_19 : decode cX11_left 19 = .ok (.invokevirtual 101, 3) := by decide +kernel
theorem dX11_left_22 : decode cX11_left 22 = .ok (.ireturn, 1) := by decide +kernel
theorem dX11_left_23 : decode cX11_left 23 = .ok (.aload_n 0, 1) := by decide +kernel
theorem dX11_left_24 : decode cX11_left 24 = .ok (.invokevirtual 280, 3) := by decide +kernel
theorem dX11_left_27 : decode cX11_left 27 = .ok (.aload_n 0, 1) := by decide +kernel
theorem dX11_left_28 : decode cX11_left 28 = .ok (.getfield 50, 3) := by decide +kernel
theorem dX11_left_31 : decode cX11_left 31 = .ok (.bipush 7, 2) := by decide +kernel
theorem dX11_left_33 : decode cX11_left 33 = .ok (.iload_n 1, 1) := by decide +kernel
theorem dX11_left_34 : decode cX11_left 34 = .ok (.imul, 1) := by decide +kernel
theorem dX11_left_35 : decode cX11_left 35 = .ok (.iload_n 2, 1) := by decide +kernel
theorem dX11_left_36 : decode cX11_left 36 = .ok (.iadd, 1) := by decide +kernel
theorem dX11_left_37 : decode cX11_left 37 = .ok (.iaload, 1) := by decide +kernel
theorem dX11_left_38 : decode cX11_left 38 = .ok (.ifCond .ge 12, 3) := by decide +kernel
theorem dX11_left_41 : decode cX11_left 41 = .ok (.aload_n 0, 1) := by decide +kernel
theorem dX11_left_42 : decode cX11_left 42 = .ok (.ldc 100, 2) := by decide +kernel
theorem dX11_left_44 : decode cX11_left 44 = .ok (.invokevirtual 101, 3) := by decide +kernel
theorem dX11_left_47 : decode cX11_left 47 = .ok (.goto 14, 3) := by decide +kernel
theorem dX11_left_50 : decode cX11_left 50 = .ok (.aload_n 0, 1) := by decide +kernel
theorem dX11_left_51 : decode cX11_left 51 = .ok (.getfield 50, 3) := by decide +kernel
theorem dX11_left_54 : decode cX11_left 54 = .ok (.bipush 7, 2) := by decide +kernel
theorem dX11_left_56 : decode cX11_left 56 = .ok (.iload_n 1, 1) := by decide +kernel
theorem dX11_left_57 : decode cX11_left 57 = .ok (.imul, 1) := by decide +kernel
theorem dX11_left_58 : decode cX11_left 58 = .ok (.iload_n 2, 1) := by decide +kernel
theorem dX11_left_59 : decode cX11_left 59 = .ok (.iadd, 1) := by decide +kernel
theorem dX11_left_60 : decode cX11_left 60 = .ok (.iaload, 1) := by decide +kernel
theorem dX11_left_61 : decode cX11_left 61 = .ok (.ireturn, 1) := by decide +kernel
theorem dX11_why_0 : decode cX11_why 0 = .ok (.aload_n 0, 1) := by decide +kernel
theorem dX11_why_1 : decode cX11_why 1 = .ok (.iload_n 1, 1) := by decide +kernel
theorem dX11_why_2 : decode cX11_why 2 = .ok (.invokevirtual 133, 3) := by decide +kernel
theorem dX11_why_5 : decode cX11_why 5 = .ok (.ifCond .eq 10, 3) := by decide +kernel
theorem dX11_why_8 : decode cX11_why 8 = .ok (.iload_n 2, 1) := by decide +kernel
theorem dX11_why_9 : decode cX11_why 9 = .ok (.invokestatic 175, 3) := by decide +kernel
theorem dX11_why_12 : decode cX11_why 12 = .ok (.ifCond .ne 10, 3) := by decide +kernel
theorem dX11_why_15 : decode cX11_why 15 = .ok (.aload_n 0, 1) := by decide +kernel
theorem dX11_why_16 : decode cX11_why 16 = .ok (.ldc 118, 2) := by decide +kernel
theorem dX11_why_18 : decode cX11_why 18 = .ok (.invokevirtual 101, 3) := by decide +kernel
theorem dX11_why_21 : decode cX11_why 21 = .ok (.ireturn, 1) := by decide +kernel
theorem dX11_why_22 : decode cX11_why 22 = .ok (.aload_n 0, 1) := by decide +kernel
theorem dX11_why_23 : decode cX11_why 23 = .ok (.invokevirtual 280, 3) := by decide +kernel
theorem dX11_why_26 : decode cX11_why 26 = .ok (.aload_n 0, 1) := by decide +kernel
theorem dX11_why_27 : decode cX11_why 27 = .ok (.getfield 59, 3) := by decide +kernel
theorem dX11_why_30 : decode cX11_why 30 = .ok (.sipush 501, 3) := by decide +kernel
theorem dX11_why_33 : decode cX11_why 33 = .ok (.iload_n 1, 1) := by decide +kernel
theorem dX11_why_34 : decode cX11_why 34 = .ok (.imul, 1) := by decide +kernel
theorem dX11_why_35 : decode cX11_why 35 = .ok (.iload_n 2, 1) := by decide +kernel
theorem dX11_why_36 : decode cX11_why 36 = .ok (.iadd, 1) := by decide +kernel
theorem dX11_why_37 : decode cX11_why 37 = .ok (.iaload, 1) := by decide +kernel
theorem dX11_why_38 : decode cX11_why 38 = .ok (.istore_n 3, 1) := by decide +kernel
theorem dX11_why_39 : decode cX11_why 39 = .ok (.iload_n 3, 1) := by decide +kernel
theorem dX11_why_40 : decode cX11_why 40 = .ok (.ldc 100, 2) := by decide +kernel
theorem dX11_why_42 : decode cX11_why 42 = .ok (.if_icmp .ne 12, 3) := by decide +kernel
theorem dX11_why_45 : decode cX11_why 45 = .ok (.aload_n 0, 1) := by decide +kernel
theorem dX11_why_46 : decode cX11_why 46 = .ok (.ldc 100, 2) := by decide +kernel
theorem dX11_why_48 : decode cX11_why 48 = .ok (.invokevirtual 101, 3) := by decide +kernel
theorem dX11_why_51 : decode cX11_why 51 = .ok (.goto 4, 3) := by decide +kernel
theorem dX11_why_54 : decode cX11_why 54 = .ok (.iload_n 3, 1) := by decide +kernel
theorem dX11_why_55 : decode cX11_why 55 = .ok (.ireturn, 1) := by decide +kernel
theorem dX11_heads_0 : decode cX11_heads 0 = .ok (.aload_n 0, 1) := by decide +kernel
theorem dX11_heads_1 : decode cX11_heads 1 = .ok (.invokevirtual 280, 3) := by decide +kernel
theorem dX11_heads_4 : decode cX11_heads 4 = .ok (.aload_n 0, 1) := by decide +kernel
theorem dX11_heads_5 : decode cX11_heads 5 = .ok (.getfield 182, 3) := by decide +kernel
theorem dX11_heads_8 : decode cX11_heads 8 = .ok (.ireturn, 1) := by decide +kernel
theorem dX11_head_0 : decode cX11_head 0 = .ok (.aload_n 0, 1) := by decide +kernel
theorem dX11_head_1 : decode cX11_head 1 = .ok (.invokevirtual 280, 3) := by decide +kernel
theorem dX11_head_4 : decode cX11_head 4 = .ok (.aload_n 0, 1) := by decide +kernel
theorem dX11_head_5 : decode cX11_head 5 = .ok (.getfield 182, 3) := by decide +kernel
theorem dX11_head_8 : decode cX11_head 8 = .ok (.ifCond .ne 10, 3) := by decide +kernel
theorem dX11_head_11 : decode cX11_head 11 = .ok (.aload_n 0, 1) := by decide +kernel
theorem dX11_head_12 : decode cX11_head 12 = .ok (.ldc 100, 2) := by decide +kernel
theorem dX11_head_14 : decode cX11_head 14 = .ok (.invokevirtual 101, 3) := by decide +kernel
theorem dX11_head_17 : decode cX11_head 17 = .ok (.ireturn, 1) := by decide +kernel
theorem dX11_head_18 : decode cX11_head 18 = .ok (.iload_n 1, 1) := by decide +kernel
theorem dX11_head_19 : decode cX11_head 19 = .ok (.tableswitch 49 0 3 #[29, 34, 39, 44], 29) := by decide +kernel
theorem dX11_head_48 : decode cX11_head 48 = .ok (.aload_n 0, 1) := by decide +kernel
theorem dX11_head_49 : decode cX11_head 49 = .ok (.getfield 243, 3) := by decide +kernel
theorem dX11_head_52 : decode cX11_head 52 = .ok (.ireturn, 1) := by decide +kernel
theorem dX11_head_53 : decode cX11_head 53 = .ok (.aload_n 0, 1) := by decide +kernel
theorem dX11_head_54 : decode cX11_head 54 = .ok (.getfield 246, 3) := by decide +kernel
theorem dX11_head_57 : decode cX11_head 57 = .ok (.ireturn, 1) := by decide +kernel
theorem dX11_head_58 : decode cX11_head 58 = .ok (.aload_n 0, 1) := by decide +kernel
theorem dX11_head_59 : decode cX11_head 59 = .ok (.getfield 249, 3) := by decide +kernel
theorem dX11_head_62 : decode cX11_head 62 = .ok (.ireturn, 1) := by decide +kernel
theorem dX11_head_63 : decode cX11_head 63 = .ok (.aload_n 0, 1) := by decide +kernel
theorem dX11_head_64 : decode cX11_head 64 = .ok (.getfield 252, 3) := by decide +kernel
theorem dX11_head_67 : decode cX11_head 67 = .ok (.ireturn, 1) := by decide +kernel
theorem dX11_head_68 : decode cX11_head 68 = .ok (.aload_n 0, 1) := by decide +kernel
theorem dX11_head_69 : decode cX11_head 69 = .ok (.ldc 118, 2) := by decide +kernel
theorem dX11_head_71 : decode cX11_head 71 = .ok (.invokevirtual 101, 3) := by decide +kernel
theorem dX11_head_74 : decode cX11_head 74 = .ok (.ireturn, 1) := by decide +kernel
theorem dX11_bears_0 : decode cX11_bears 0 = .ok (.aload_n 0, 1) := by decide +kernel
theorem dX11_bears_1 : decode cX11_bears 1 = .ok (.iload_n 1, 1) := by decide +kernel
theorem dX11_bears_2 : decode cX11_bears 2 = .ok (.invokevirtual 172, 3) := by decide +kernel
theorem dX11_bears_5 : decode cX11_bears 5 = .ok (.aload_n 0, 1) := by decide +kernel
theorem dX11_bears_6 : decode cX11_bears 6 = .ok (.getfield 249, 3) := by decide +kernel
theorem dX11_bears_9 : decode cX11_bears 9 = .ok (.if_icmp .ne 7, 3) := by decide +kernel
theorem dX11_bears_12 : decode cX11_bears 12 = .ok (.iconst 1, 1) := by decide +kernel
theorem dX11_bears_13 : decode cX11_bears 13 = .ok (.goto 4, 3) := by decide +kernel
theorem dX11_bears_16 : decode cX11_bears 16 = .ok (.iconst 0, 1) := by decide +kernel
theorem dX11_bears_17 : decode cX11_bears 17 = .ok (.istore_n 2, 1) := by decide +kernel
theorem dX11_bears_18 : decode cX11_bears 18 = .ok (.aload_n 0, 1) := by decide +kernel
theorem dX11_bears_19 : decode cX11_bears 19 = .ok (.iload_n 1, 1) := by decide +kernel
theorem dX11_bears_20 : decode cX11_bears 20 = .ok (.invokevirtual 172, 3) := by decide +kernel
theorem dX11_bears_23 : decode cX11_bears 23 = .ok (.aload_n 0, 1) := by decide +kernel
theorem dX11_bears_24 : decode cX11_bears 24 = .ok (.getfield 252, 3) := by decide +kernel
theorem dX11_bears_27 : decode cX11_bears 27 = .ok (.if_icmp .ne 7, 3) := by decide +kernel
theorem dX11_bears_30 : decode cX11_bears 30 = .ok (.iconst 1, 1) := by decide +kernel
theorem dX11_bears_31 : decode cX11_bears 31 = .ok (.goto 4, 3) := by decide +kernel
theorem dX11_bears_34 : decode cX11_bears 34 = .ok (.iconst 0, 1) := by decide +kernel
theorem dX11_bears_35 : decode cX11_bears 35 = .ok (.istore_n 3, 1) := by decide +kernel
theorem dX11_bears_36 : decode cX11_bears 36 = .ok (.aload_n 0, 1) := by decide +kernel
theorem dX11_bears_37 : decode cX11_bears 37 = .ok (.iload_n 1, 1) := by decide +kernel
theorem dX11_bears_38 : decode cX11_bears 38 = .ok (.invokevirtual 169, 3) := by decide +kernel
theorem dX11_bears_41 : decode cX11_bears 41 = .ok (.iconst 4, 1) := by decide +kernel
theorem dX11_bears_42 : decode cX11_bears 42 = .ok (.if_icmp .ne 5, 3) := by decide +kernel
theorem dX11_bears_45 : decode cX11_bears 45 = .ok (.iconst 0, 1) := by decide +kernel
theorem dX11_bears_46 : decode cX11_bears 46 = .ok (.ireturn, 1) := by decide +kernel
theorem dX11_bears_47 : decode cX11_bears 47 = .ok (.aload_n 0, 1) := by decide +kernel
theorem dX11_bears_48 : decode cX11_bears 48 = .ok (.iload_n 1, 1) := by decide +kernel
theorem dX11_bears_49 : decode cX11_bears 49 = .ok (.invokevirtual 169, 3) := by decide +kernel
theorem dX11_bears_52 : decode cX11_bears 52 = .ok (.ifCond .ne 41, 3) := by decide +kernel
theorem dX11_bears_55 : decode cX11_bears 55 = .ok (.iload_n 2, 1) := by decide +kernel
theorem dX11_bears_56 : decode cX11_bears 56 = .ok (.ifCond .eq 15, 3) := by decide +kernel
theorem dX11_bears_59 : decode cX11_bears 59 = .ok (.aload_n 0, 1) := by decide +kernel
theorem dX11_bears_60 : decode cX11_bears 60 = .ok (.iload_n 1, 1) := by decide +kernel
theorem dX11_bears_61 : decode cX11_bears 61 = .ok (.invokevirtual 198, 3) := by decide +kernel
theorem dX11_bears_64 : decode cX11_bears 64 = .ok (.aload_n 0, 1) := by decide +kernel
theorem dX11_bears_65 : decode cX11_bears 65 = .ok (.getfield 252, 3) := by decide +kernel
theorem dX11_bears_68 : decode cX11_bears 68 = .ok (.if_icmp .eq 19, 3) := by decide +kernel
theorem dX11_bears_71 : decode cX11_bears 71 = .ok (.iload_n 3, 1) := by decide +kernel
theorem dX11_bears_72 : decode cX11_bears 72 = .ok (.ifCond .eq 19, 3) := by decide +kernel
theorem dX11_bears_75 : decode cX11_bears 75 = .ok (.aload_n 0, 1) := by decide +kernel
theorem dX11_bears_76 : decode cX11_bears 76 = .ok (.iload_n 1, 1) := by decide +kernel
theorem dX11_bears_77 : decode cX11_bears 77 = .ok (.invokevirtual 198, 3) := by decide +kernel
theorem dX11_bears_80 : decode cX11_bears 80 = .ok (.aload_n 0, 1) := by decide +kernel
theorem dX11_bears_81 : decode cX11_bears 81 = .ok (.getfield 249, 3) := by decide +kernel
theorem dX11_bears_84 : decode cX11_bears 84 = .ok (.if_icmp .ne 7, 3) := by decide +kernel
theorem dX11_bears_87 : decode cX11_bears 87 = .ok (.iconst 1, 1) := by decide +kernel
theorem dX11_bears_88 : decode cX11_bears 88 = .ok (.goto 4, 3) := by decide +kernel
theorem dX11_bears_91 : decode cX11_bears 91 = .ok (.iconst 0, 1) := by decide +kernel
theorem dX11_bears_92 : decode cX11_bears 92 = .ok (.ireturn, 1) := by decide +kernel
theorem dX11_bears_93 : decode cX11_bears 93 = .ok (.iload_n 2, 1) := by decide +kernel
theorem dX11_bears_94 : decode cX11_bears 94 = .ok (.ifCond .ne 7, 3) := by decide +kernel
theorem dX11_bears_97 : decode cX11_bears 97 = .ok (.iload_n 3, 1) := by decide +kernel
theorem dX11_bears_98 : decode cX11_bears 98 = .ok (.ifCond .eq 7, 3) := by decide +kernel
theorem dX11_bears_101 : decode cX11_bears 101 = .ok (.iconst 1, 1) := by decide +kernel
theorem dX11_bears_102 : decode cX11_bears 102 = .ok (.goto 4, 3) := by decide +kernel
theorem dX11_bears_105 : decode cX11_bears 105 = .ok (.iconst 0, 1) := by decide +kernel
theorem dX11_bears_106 : decode cX11_bears 106 = .ok (.ireturn, 1) := by decide +kernel
theorem dX11_cause_0 : decode cX11_cause 0 = .ok (.aload_n 0, 1) := by decide +kernel
theorem dX11_cause_1 : decode cX11_cause 1 = .ok (.invokevirtual 280, 3) := by decide +kernel
theorem dX11_cause_4 : decode cX11_cause 4 = .ok (.aload_n 0, 1) := by decide +kernel
theorem dX11_cause_5 : decode cX11_cause 5 = .ok (.getfield 182, 3) := by decide +kernel
theorem dX11_cause_8 : decode cX11_cause 8 = .ok (.ifCond .ne 10, 3) := by decide +kernel
theorem dX11_cause_11 : decode cX11_cause 11 = .ok (.aload_n 0, 1) := by decide +kernel
theorem dX11_cause_12 : decode cX11_cause 12 = .ok (.ldc 100, 2) := by decide +kernel
theorem dX11_cause_14 : decode cX11_cause 14 = .ok (.invokevirtual 101, 3) := by decide +kernel
theorem dX11_cause_17 : decode cX11_cause 17 = .ok (.ireturn, 1) := by decide +kernel
theorem dX11_cause_18 : decode cX11_cause 18 = .ok (.iconst 0, 1) := by decide +kernel
theorem dX11_cause_19 : decode cX11_cause 19 = .ok (.istore_n 1, 1) := by decide +kernel
theorem dX11_cause_20 : decode cX11_cause 20 = .ok (.aload_n 0, 1) := by decide +kernel
theorem dX11_cause_21 : decode cX11_cause 21 = .ok (.aload_n 0, 1) := by decide +kernel
theorem dX11_cause_22 : decode cX11_cause 22 = .ok (.getfield 249, 3) := by decide +kernel
theorem dX11_cause_25 : decode cX11_cause 25 = .ok (.aload_n 0, 1) := by decide +kernel
theorem dX11_cause_26 : decode cX11_cause 26 = .ok (.getfield 255, 3) := by decide +kernel
theorem dX11_cause_29 : decode cX11_cause 29 = .ok (.invokevirtual 178, 3) := by decide +kernel
theorem dX11_cause_32 : decode cX11_cause 32 = .ok (.iconst 0, 1) := by decide +kernel
theorem dX11_cause_33 : decode cX11_cause 33 = .ok (.istore_n 2, 1) := by decide +kernel
theorem dX11_cause_34 : decode cX11_cause 34 = .ok (.iload_n 2, 1) := by decide +kernel
theorem dX11_cause_35 : decode cX11_cause 35 = .ok (.aload_n 0, 1) := by decide +kernel
theorem dX11_cause_36 : decode cX11_cause 36 = .ok (.getfield 7, 3) := by decide +kernel
theorem dX11_cause_39 : decode cX11_cause 39 = .ok (.bipush 40, 2) := by decide +kernel
theorem dX11_cause_41 : decode cX11_cause 41 = .ok (.iaload, 1) := by decide +kernel
theorem dX11_cause_42 : decode cX11_cause 42 = .ok (.if_icmp .ge 28, 3) := by decide +kernel
theorem dX11_cause_45 : decode cX11_cause 45 = .ok (.iload_n 1, 1) := by decide +kernel
theorem dX11_cause_46 : decode cX11_cause 46 = .ok (.aload_n 0, 1) := by decide +kernel
theorem dX11_cause_47 : decode cX11_cause 47 = .ok (.getfield 28, 3) := by decide +kernel
theorem dX11_cause_50 : decode cX11_cause 50 = .ok (.iload_n 2, 1) := by decide +kernel
theorem dX11_cause_51 : decode cX11_cause 51 = .ok (.baload, 1) := by decide +kernel
theorem dX11_cause_52 : decode cX11_cause 52 = .ok (.ifCond .eq 9, 3) := by decide +kernel
theorem dX11_cause_55 : decode cX11_cause 55 = .ok (.iconst 1, 1) := by decide +kernel
theorem dX11_cause_56 : decode cX11_cause 56 = .ok (.iload_n 2, 1) := by decide +kernel
theorem dX11_cause_57 : decode cX11_cause 57 = .ok (.ishl, 1) := by decide +kernel
theorem dX11_cause_58 : decode cX11_cause 58 = .ok (.goto 4, 3) := by decide +kernel
theorem dX11_cause_61 : decode cX11_cause 61 = .ok (.iconst 0, 1) := by decide +kernel
theorem dX11_cause_62 : decode cX11_cause 62 = .ok (.ior, 1) := by decide +kernel
theorem dX11_cause_63 : decode cX11_cause 63 = .ok (.istore_n 1, 1) := by decide +kernel
theorem dX11_cause_64 : decode cX11_cause 64 = .ok (.iinc 2 1, 3) := by decide +kernel
theorem dX11_cause_67 : decode cX11_cause 67 = .ok (.goto (-33), 3) := by decide +kernel
theorem dX11_cause_70 : decode cX11_cause 70 = .ok (.aload_n 0, 1) := by decide +kernel
theorem dX11_cause_71 : decode cX11_cause 71 = .ok (.aload_n 0, 1) := by decide +kernel
theorem dX11_cause_72 : decode cX11_cause 72 = .ok (.getfield 252, 3) := by decide +kernel
theorem dX11_cause_75 : decode cX11_cause 75 = .ok (.aload_n 0, 1) := by decide +kernel
theorem dX11_cause_76 : decode cX11_cause 76 = .ok (.getfield 255, 3) := by decide +kernel
theorem dX11_cause_79 : decode cX11_cause 79 = .ok (.invokevirtual 178, 3) := by decide +kernel
theorem dX11_cause_82 : decode cX11_cause 82 = .ok (.iconst 0, 1) := by decide +kernel
theorem dX11_cause_83 : decode cX11_cause 83 = .ok (.istore_n 2, 1) := by decide +kernel
theorem dX11_cause_84 : decode cX11_cause 84 = .ok (.iload_n 2, 1) := by decide +kernel
theorem dX11_cause_85 : decode cX11_cause 85 = .ok (.aload_n 0, 1) := by decide +kernel
theorem dX11_cause_86 : decode cX11_cause 86 = .ok (.getfield 7, 3) := by decide +kernel
theorem dX11_cause_89 : decode cX11_cause 89 = .ok (.bipush 40, 2) := by decide +kernel
theorem dX11_cause_91 : decode cX11_cause 91 = .ok (.iaload, 1) := by decide +kernel
theorem dX11_cause_92 : decode cX11_cause 92 = .ok (.if_icmp .ge 42, 3) := by decide +kernel
theorem dX11_cause_95 : decode cX11_cause 95 = .ok (.aload_n 0, 1) := by decide +kernel
theorem dX11_cause_96 : decode cX11_cause 96 = .ok (.iload_n 2, 1) := by decide +kernel
theorem dX11_cause_97 : decode cX11_cause 97 = .ok (.invokevirtual 283, 3) := by decide +kernel
theorem dX11_cause_100 : decode cX11_cause 100 = .ok (.ifCond .eq 28, 3) := by decide +kernel
theorem dX11_cause_103 : decode cX11_cause 103 = .ok (.aload_n 0, 1) := by decide +kernel
theorem dX11_cause_104 : decode cX11_cause 104 = .ok (.getfield 28, 3) := by decide +kernel
theorem dX11_cause_107 : decode cX11_cause 107 = .ok (.iload_n 2, 1) := by decide +kernel
theorem dX11_cause_108 : decode cX11_cause 108 = .ok (.baload, 1) := by decide +kernel
theorem dX11_cause_109 : decode cX11_cause 109 = .ok (.iload_n 1, 1) := by decide +kernel
theorem dX11_cause_110 : decode cX11_cause 110 = .ok (.iload_n 2, 1) := by decide +kernel
theorem dX11_cause_111 : decode cX11_cause 111 = .ok (.ishr, 1) := by decide +kernel
theorem dX11_cause_112 : decode cX11_cause 112 = .ok (.iconst 1, 1) := by decide +kernel
theorem dX11_cause_113 : decode cX11_cause 113 = .ok (.iand, 1) := by decide +kernel
theorem dX11_cause_114 : decode cX11_cause 114 = .ok (.iconst 1, 1) := by decide +kernel
theorem dX11_cause_115 : decode cX11_cause 115 = .ok (.if_icmp .ne 7, 3) := by decide +kernel
theorem dX11_cause_118 : decode cX11_cause 118 = .ok (.iconst 1, 1) := by decide +kernel
theorem dX11_cause_119 : decode cX11_cause 119 = .ok (.goto 4, 3) := by decide +kernel
theorem dX11_cause_122 : decode cX11_cause 122 = .ok (.iconst 0, 1) := by decide +kernel
theorem dX11_cause_123 : decode cX11_cause 123 = .ok (.if_icmp .eq 5, 3) := by decide +kernel
theorem dX11_cause_126 : decode cX11_cause 126 = .ok (.iload_n 2, 1) := by decide +kernel
theorem dX11_cause_127 : decode cX11_cause 127 = .ok (.ireturn, 1) := by decide +kernel
theorem dX11_cause_128 : decode cX11_cause 128 = .ok (.iinc 2 1, 3) := by decide +kernel
theorem dX11_cause_131 : decode cX11_cause 131 = .ok (.goto (-47), 3) := by decide +kernel
theorem dX11_cause_134 : decode cX11_cause 134 = .ok (.aload_n 0, 1) := by decide +kernel
theorem dX11_cause_135 : decode cX11_cause 135 = .ok (.ldc 100, 2) := by decide +kernel
theorem dX11_cause_137 : decode cX11_cause 137 = .ok (.invokevirtual 101, 3) := by decide +kernel
theorem dX11_cause_140 : decode cX11_cause 140 = .ok (.ireturn, 1) := by decide +kernel
theorem dX11_fouls_0 : decode cX11_fouls 0 = .ok (.aload_n 0, 1) := by decide +kernel
theorem dX11_fouls_1 : decode cX11_fouls 1 = .ok (.invokevirtual 280, 3) := by decide +kernel
theorem dX11_fouls_4 : decode cX11_fouls 4 = .ok (.aload_n 0, 1) := by decide +kernel
theorem dX11_fouls_5 : decode cX11_fouls 5 = .ok (.getfield 185, 3) := by decide +kernel
theorem dX11_fouls_8 : decode cX11_fouls 8 = .ok (.ireturn, 1) := by decide +kernel
theorem dX11_delays_0 : decode cX11_delays 0 = .ok (.iconst 0, 1) := by decide +kernel
theorem dX11_delays_1 : decode cX11_delays 1 = .ok (.istore_n 1, 1) := by decide +kernel
theorem dX11_delays_2 : decode cX11_delays 2 = .ok (.iconst 0, 1) := by decide +kernel
theorem dX11_delays_3 : decode cX11_delays 3 = .ok (.istore_n 2, 1) := by decide +kernel
theorem dX11_delays_4 : decode cX11_delays 4 = .ok (.iload_n 2, 1) := by decide +kernel
theorem dX11_delays_5 : decode cX11_delays 5 = .ok (.aload_n 0, 1) := by decide +kernel
theorem dX11_delays_6 : decode cX11_delays 6 = .ok (.getfield 7, 3) := by decide +kernel
theorem dX11_delays_9 : decode cX11_delays 9 = .ok (.bipush 14, 2) := by decide +kernel
theorem dX11_delays_11 : decode cX11_delays 11 = .ok (.iaload, 1) := by decide +kernel
theorem dX11_delays_12 : decode cX11_delays 12 = .ok (.if_icmp .ge 71, 3) := by decide +kernel
theorem dX11_delays_15 : decode cX11_delays 15 = .ok (.aload_n 0, 1) := by decide +kernel
theorem dX11_delays_16 : decode cX11_delays 16 = .ok (.aload_n 0, 1) := by decide +kernel
theorem dX11_delays_17 : decode cX11_delays 17 = .ok (.iload_n 2, 1) := by decide +kernel
theorem dX11_delays_18 : decode cX11_delays 18 = .ok (.invokevirtual 115, 3) := by decide +kernel
theorem dX11_delays_21 : decode cX11_delays 21 = .ok (.aload_n 0, 1) := by decide +kernel
theorem dX11_delays_22 : decode cX11_delays 22 = .ok (.iload_n 2, 1) := by decide +kernel
theorem dX11_delays_23 : decode cX11_delays 23 = .ok (.invokevirtual 112, 3) := by decide +kernel
theorem dX11_delays_26 : decode cX11_delays 26 = .ok (.invokevirtual 146, 3) := by decide +kernel
theorem dX11_delays_29 : decode cX11_delays 29 = .ok (.istore_n 3, 1) := by decide +kernel
theorem dX11_delays_30 : decode cX11_delays 30 = .ok (.iload_n 1, 1) := by decide +kernel
theorem dX11_delays_31 : decode cX11_delays 31 = .ok (.aload_n 0, 1) := by decide +kernel
theorem dX11_delays_32 : decode cX11_delays 32 = .ok (.getfield 44, 3) := by decide +kernel
theorem dX11_delays_35 : decode cX11_delays 35 = .ok (.iload_n 2, 1) := by decide +kernel
theorem dX11_delays_36 : decode cX11_delays 36 = .ok (.iaload, 1) := by decide +kernel
theorem dX11_delays_37 : decode cX11_delays 37 = .ok (.ifCond .ge 9, 3) := by decide +kernel
theorem dX11_delays_40 : decode cX11_delays 40 = .ok (.sipush 1000, 3) := by decide +kernel
theorem dX11_delays_43 : decode cX11_delays 43 = .ok (.goto 32, 3) := by decide +kernel
theorem dX11_delays_46 : decode cX11_delays 46 = .ok (.aload_n 0, 1) := by decide +kernel
theorem dX11_delays_47 : decode cX11_delays 47 = .ok (.getfield 44, 3) := by decide +kernel
theorem dX11_delays_50 : decode cX11_delays 50 = .ok (.iload_n 2, 1) := by decide +kernel
theorem dX11_delays_51 : decode cX11_delays 51 = .ok (.iaload, 1) := by decide +kernel
theorem dX11_delays_52 : decode cX11_delays 52 = .ok (.aload_n 0, 1) := by decide +kernel
theorem dX11_delays_53 : decode cX11_delays 53 = .ok (.iload_n 2, 1) := by decide +kernel
theorem dX11_delays_54 : decode cX11_delays 54 = .ok (.invokevirtual 143, 3) := by decide +kernel
theorem dX11_delays_57 : decode cX11_delays 57 = .ok (.isub, 1) := by decide +kernel
theorem dX11_delays_58 : decode cX11_delays 58 = .ok (.aload_n 0, 1) := by decide +kernel
theorem dX11_delays_59 : decode cX11_delays 59 = .ok (.iload_n 2, 1) := by decide +kernel
theorem dX11_delays_60 : decode cX11_delays 60 = .ok (.invokevirtual 136, 3) := by decide +kernel
theorem dX11_delays_63 : decode cX11_delays 63 = .ok (.iconst 3, 1) := by decide +kernel
theorem dX11_delays_64 : decode cX11_delays 64 = .ok (.if_icmp .ne 9, 3) := by decide +kernel
theorem dX11_delays_67 : decode cX11_delays 67 = .ok (.iconst 2, 1) := by decide +kernel
theorem dX11_delays_68 : decode cX11_delays 68 = .ok (.iload_n 3, 1) := by decide +kernel
theorem dX11_delays_69 : decode cX11_delays 69 = .ok (.imul, 1) := by decide +kernel
theorem dX11_delays_70 : decode cX11_delays 70 = .ok (.goto 4, 3) := by decide +kernel
theorem dX11_delays_73 : decode cX11_delays 73 = .ok (.iload_n 3, 1) := by decide +kernel
theorem dX11_delays_74 : decode cX11_delays 74 = .ok (.isub, 1) := by decide +kernel
theorem dX11_delays_75 : decode cX11_delays 75 = .ok (.iadd, 1) := by decide +kernel
theorem dX11_delays_76 : decode cX11_delays 76 = .ok (.istore_n 1, 1) := by decide +kernel
theorem dX11_delays_77 : decode cX11_delays 77 = .ok (.iinc 2 1, 3) := by decide +kernel
theorem dX11_delays_80 : decode cX11_delays 80 = .ok (.goto (-76), 3) := by decide +kernel
theorem dX11_delays_83 : decode cX11_delays 83 = .ok (.iload_n 1, 1) := by decide +kernel
theorem dX11_delays_84 : decode cX11_delays 84 = .ok (.ireturn, 1) := by decide +kernel
theorem dX11_delay_0 : decode cX11_delay 0 = .ok (.aload_n 0, 1) := by decide +kernel
theorem dX11_delay_1 : decode cX11_delay 1 = .ok (.invokevirtual 280, 3) := by decide +kernel
theorem dX11_delay_4 : decode cX11_delay 4 = .ok (.aload_n 0, 1) := by decide +kernel
theorem dX11_delay_5 : decode cX11_delay 5 = .ok (.invokevirtual 286, 3) := by decide +kernel
theorem dX11_delay_8 : decode cX11_delay 8 = .ok (.ireturn, 1) := by decide +kernel
theorem dX11_priceOf_0 : decode cX11_priceOf 0 = .ok (.aload_n 0, 1) := by decide +kernel
theorem dX11_priceOf_1 : decode cX11_priceOf 1 = .ok (.iload_n 1, 1) := by decide +kernel
theorem dX11_priceOf_2 : decode cX11_priceOf 2 = .ok (.putfield 201, 3) := by decide +kernel
theorem dX11_priceOf_5 : decode cX11_priceOf 5 = .ok (.aload_n 0, 1) := by decide +kernel
theorem dX11_priceOf_6 : decode cX11_priceOf 6 = .ok (.iload_n 2, 1) := by decide +kernel
theorem dX11_priceOf_7 : decode cX11_priceOf 7 = .ok (.putfield 204, 3) := by decide +kernel
theorem dX11_priceOf_10 : decode cX11_priceOf 10 = .ok (.aload_n 0, 1) := by decide +kernel
theorem dX11_priceOf_11 : decode cX11_priceOf 11 = .ok (.iload_n 3, 1) := by decide +kernel
theorem dX11_priceOf_12 : decode cX11_priceOf 12 = .ok (.putfield 219, 3) := by decide +kernel
theorem dX11_priceOf_15 : decode cX11_priceOf 15 = .ok (.aload_n 0, 1) := by decide +kernel
theorem dX11_priceOf_16 : decode cX11_priceOf 16 = .ok (.iconst 0, 1) := by decide +kernel
theorem dX11_priceOf_17 : decode cX11_priceOf 17 = .ok (.putfield 90, 3) := by decide +kernel
theorem dX11_priceOf_20 : decode cX11_priceOf 20 = .ok (.aload_n 0, 1) := by decide +kernel
theorem dX11_priceOf_21 : decode cX11_priceOf 21 = .ok (.invokevirtual 277, 3) := by decide +kernel
theorem dX11_priceOf_24 : decode cX11_priceOf 24 = .ok (.ldc_w 290, 3) := by decide +kernel
theorem dX11_priceOf_27 : decode cX11_priceOf 27 = .ok (.aload_n 0, 1) := by decide +kernel
theorem dX11_priceOf_28 : decode cX11_priceOf 28 = .ok (.getfield 182, 3) := by decide +kernel
theorem dX11_priceOf_31 : decode cX11_priceOf 31 = .ok (.imul, 1) := by decide +kernel
theorem dX11_priceOf_32 : decode cX11_priceOf 32 = .ok (.aload_n 0, 1) := by decide +kernel
theorem dX11_priceOf_33 : decode cX11_priceOf 33 = .ok (.invokevirtual 286, 3) := by decide +kernel
theorem dX11_priceOf_36 : decode cX11_priceOf 36 = .ok (.iadd, 1) := by decide +kernel
theorem dX11_priceOf_37 : decode cX11_priceOf 37 = .ok (.ireturn, 1) := by decide +kernel
theorem dX11_findMeets_0 : decode cX11_findMeets 0 = .ok (.aload_n 0, 1) := by decide +kernel
theorem dX11_findMeets_1 : decode cX11_findMeets 1 = .ok (.iconst 0, 1) := by decide +kernel
theorem dX11_findMeets_2 : decode cX11_findMeets 2 = .ok (.putfield 291, 3) := by decide +kernel
theorem dX11_findMeets_5 : decode cX11_findMeets 5 = .ok (.aload_n 0, 1) := by decide +kernel
theorem dX11_findMeets_6 : decode cX11_findMeets 6 = .ok (.iconst 0, 1) := by decide +kernel
theorem dX11_findMeets_7 : decode cX11_findMeets 7 = .ok (.putfield 294, 3) := by decide +kernel
theorem dX11_findMeets_10 : decode cX11_findMeets 10 = .ok (.iconst 0, 1) := by decide +kernel
theorem dX11_findMeets_11 : decode cX11_findMeets 11 = .ok (.istore_n 1, 1) := by decide +kernel
theorem dX11_findMeets_12 : decode cX11_findMeets 12 = .ok (.iload_n 1, 1) := by decide +kernel
theorem dX11_findMeets_13 : decode cX11_findMeets 13 = .ok (.aload_n 0, 1) := by decide +kernel
theorem dX11_findMeets_14 : decode cX11_findMeets 14 = .ok (.getfield 7, 3) := by decide +kernel
theorem dX11_findMeets_17 : decode cX11_findMeets 17 = .ok (.bipush 14, 2) := by decide +kernel
theorem dX11_findMeets_19 : decode cX11_findMeets 19 = .ok (.iaload, 1) := by decide +kernel
theorem dX11_findMeets_20 : decode cX11_findMeets 20 = .ok (.if_icmp .ge 153, 3) := by decide +kernel
theorem dX11_findMeets_23 : decode cX11_findMeets 23 = .ok (.iload_n 1, 1) := by decide +kernel
theorem dX11_findMeets_24 : decode cX11_findMeets 24 = .ok (.iconst 1, 1) := by decide +kernel
theorem dX11_findMeets_25 : decode cX11_findMeets 25 = .ok (.iadd, 1) := by decide +kernel
theorem dX11_findMeets_26 : decode cX11_findMeets 26 = .ok (.istore_n 2, 1) := by decide +kernel
theorem dX11_findMeets_27 : decode cX11_findMeets 27 = .ok (.iload_n 2, 1) := by decide +kernel
theorem dX11_findMeets_28 : decode cX11_findMeets 28 = .ok (.aload_n 0, 1) := by decide +kernel
theorem dX11_findMeets_29 : decode cX11_findMeets 29 = .ok (.getfield 7, 3) := by decide +kernel
theorem dX11_findMeets_32 : decode cX11_findMeets 32 = .ok (.bipush 14, 2) := by decide +kernel
theorem dX11_findMeets_34 : decode cX11_findMeets 34 = .ok (.iaload, 1) := by decide +kernel
theorem dX11_findMeets_35 : decode cX11_findMeets 35 = .ok (.if_icmp .ge 132, 3) := by decide +kernel
theorem dX11_findMeets_38 : decode cX11_findMeets 38 = .ok (.iconst 0, 1) := by decide +kernel
theorem dX11_findMeets_39 : decode cX11_findMeets 39 = .ok (.istore_n 3, 1) := by decide +kernel
theorem dX11_findMeets_40 : decode cX11_findMeets 40 = .ok (.iload_n 3, 1) := by decide +kernel
theorem dX11_findMeets_41 : decode cX11_findMeets 41 = .ok (.aload_n 0, 1) := by decide +kernel
theorem dX11_findMeets_42 : decode cX11_findMeets 42 = .ok (.getfield 7, 3) := by decide +kernel
theorem dX11_findMeets_45 : decode cX11_findMeets 45 = .ok (.iconst 0, 1) := by decide +kernel
theorem dX11_findMeets_46 : decode cX11_findMeets 46 = .ok (.iaload, 1) := by decide +kernel
theorem dX11_findMeets_47 : decode cX11_findMeets 47 = .ok (.if_icmp .ge 114, 3) := by decide +kernel
theorem dX11_findMeets_50 : decode cX11_findMeets 50 = .ok (.aload_n 0, 1) := by decide +kernel
theorem dX11_findMeets_51 : decode cX11_findMeets 51 = .ok (.iload_n 1, 1) := by decide +kernel
theorem dX11_findMeets_52 : decode cX11_findMeets 52 = .ok (.invokevirtual 140, 3) := by decide +kernel
theorem dX11_findMeets_55 : decode cX11_findMeets 55 = .ok (.aload_n 0, 1) := by decide +kernel
theorem dX11_findMeets_56 : decode cX11_findMeets 56 = .ok (.iload_n 2, 1) := by decide +kernel
theorem dX11_findMeets_57 : decode cX11_findMeets 57 = .ok (.invokevirtual 140, 3) := by decide +kernel
theorem dX11_findMeets_60 : decode cX11_findMeets 60 = .ok (.if_icmp .eq 101, 3) := by decide +kernel
theorem dX11_findMeets_63 : decode cX11_findMeets 63 = .ok (.aload_n 0, 1) := by decide +kernel
theorem dX11_findMeets_64 : decode cX11_findMeets 64 = .ok (.getfield 74, 3) := by decide +kernel
theorem dX11_findMeets_67 : decode cX11_findMeets 67 = .ok (.aload_n 0, 1) := by decide +kernel
theorem dX11_findMeets_68 : decode cX11_findMeets 68 = .ok (.getfield 291, 3) := by decide +kernel
theorem dX11_findMeets_71 : decode cX11_findMeets 71 = .ok (.iload_n 1, 1) := by decide +kernel
theorem dX11_findMeets_72 : decode cX11_findMeets 72 = .ok (.iastore, 1) := by decide +kernel
theorem dX11_findMeets_73 : decode cX11_findMeets 73 = .ok (.aload_n 0, 1) := by decide +kernel
theorem dX11_findMeets_74 : decode cX11_findMeets 74 = .ok (.getfield 77, 3) := by decide +kernel
theorem dX11_findMeets_77 : decode cX11_findMeets 77 = .ok (.aload_n 0, 1) := by decide +kernel
theorem dX11_findMeets_78 : decode cX11_findMeets 78 = .ok (.getfield 291, 3) := by decide +kernel
theorem dX11_findMeets_81 : decode cX11_findMeets 81 = .ok (.iload_n 2, 1) := by decide +kernel
theorem dX11_findMeets_82 : decode cX11_findMeets 82 = .ok (.iastore, 1) := by decide +kernel
theorem dX11_findMeets_83 : decode cX11_findMeets 83 = .ok (.aload_n 0, 1) := by decide +kernel
theorem dX11_findMeets_84 : decode cX11_findMeets 84 = .ok (.getfield 80, 3) := by decide +kernel
theorem dX11_findMeets_87 : decode cX11_findMeets 87 = .ok (.aload_n 0, 1) := by decide +kernel
theorem dX11_findMeets_88 : decode cX11_findMeets 88 = .ok (.getfield 291, 3) := by decide +kernel
theorem dX11_findMeets_91 : decode cX11_findMeets 91 = .ok (.iload_n 3, 1) := by decide +kernel
theorem dX11_findMeets_92 : decode cX11_findMeets 92 = .ok (.iastore, 1) := by decide +kernel
theorem dX11_findMeets_93 : decode cX11_findMeets 93 = .ok (.aload_n 0, 1) := by decide +kernel
theorem dX11_findMeets_94 : decode cX11_findMeets 94 = .ok (.getfield 83, 3) := by decide +kernel
theorem dX11_findMeets_97 : decode cX11_findMeets 97 = .ok (.aload_n 0, 1) := by decide +kernel
theorem dX11_findMeets_98 : decode cX11_findMeets 98 = .ok (.getfield 291, 3) := by decide +kernel
theorem dX11_findMeets_101 : decode cX11_findMeets 101 = .ok (.aload_n 0, 1) := by decide +kernel
theorem dX11_findMeets_102 : decode cX11_findMeets 102 = .ok (.iload_n 1, 1) := by decide +kernel
theorem dX11_findMeets_103 : decode cX11_findMeets 103 = .ok (.iload_n 2, 1) := by decide +kernel
theorem dX11_findMeets_104 : decode cX11_findMeets 104 = .ok (.iload_n 3, 1) := by decide +kernel
theorem dX11_findMeets_105 : decode cX11_findMeets 105 = .ok (.invokevirtual 297, 3) := by decide +kernel
theorem dX11_findMeets_108 : decode cX11_findMeets 108 = .ok (.iastore, 1) := by decide +kernel
theorem dX11_findMeets_109 : decode cX11_findMeets 109 = .ok (.aload_n 0, 1) := by decide +kernel
theorem dX11_findMeets_110 : decode cX11_findMeets 110 = .ok (.aload_n 0, 1) := by decide +kernel
theorem dX11_findMeets_111 : decode cX11_findMeets 111 = .ok (.getfield 83, 3) := by decide +kernel
theorem dX11_findMeets_114 : decode cX11_findMeets 114 = .ok (.aload_n 0, 1) := by decide +kernel
theorem dX11_findMeets_115 : decode cX11_findMeets 115 = .ok (.getfield 291, 3) := by decide +kernel
theorem dX11_findMeets_118 : decode cX11_findMeets 118 = .ok (.iaload, 1) := by decide +kernel
theorem dX11_findMeets_119 : decode cX11_findMeets 119 = .ok (.aload_n 0, 1) := by decide +kernel
theorem dX11_findMeets_120 : decode cX11_findMeets 120 = .ok (.getfield 83, 3) := by decide +kernel
theorem dX11_findMeets_123 : decode cX11_findMeets 123 = .ok (.aload_n 0, 1) := by decide +kernel
theorem dX11_findMeets_124 : decode cX11_findMeets 124 = .ok (.getfield 294, 3) := by decide +kernel
theorem dX11_findMeets_127 : decode cX11_findMeets 127 = .ok (.iaload, 1) := by decide +kernel
theorem dX11_findMeets_128 : decode cX11_findMeets 128 = .ok (.if_icmp .ge 10, 3) := by decide +kernel
theorem dX11_findMeets_131 : decode cX11_findMeets 131 = .ok (.aload_n 0, 1) := by decide +kernel
theorem dX11_findMeets_132 : decode cX11_findMeets 132 = .ok (.getfield 291, 3) := by decide +kernel
theorem dX11_findMeets_135 : decode cX11_findMeets 135 = .ok (.goto 7, 3) := by decide +kernel
theorem dX11_findMeets_138 : decode cX11_findMeets 138 = .ok (.aload_n 0, 1) := by decide +kernel
theorem dX11_findMeets_139 : decode cX11_findMeets 139 = .ok (.getfield 294, 3) := by decide +kernel
theorem dX11_findMeets_142 : decode cX11_findMeets 142 = .ok (.putfield 294, 3) := by decide +kernel
theorem dX11_findMeets_145 : decode cX11_findMeets 145 = .ok (.aload_n 0, 1) := by decide +kernel
theorem dX11_findMeets_146 : decode cX11_findMeets 146 = .ok (.dup, 1) := by decide +kernel
theorem dX11_findMeets_147 : decode cX11_findMeets 147 = .ok (.getfield 291, 3) := by decide +kernel
theorem dX11_findMeets_150 : decode cX11_findMeets 150 = .ok (.iconst 1, 1) := by decide +kernel
theorem dX11_findMeets_151 : decode cX11_findMeets 151 = .ok (.iadd, 1) := by decide +kernel
theorem dX11_findMeets_152 : decode cX11_findMeets 152 = .ok (.putfield 291, 3) := by decide +kernel
theorem dX11_findMeets_155 : decode cX11_findMeets 155 = .ok (.iinc 3 1, 3) := by decide +kernel
theorem dX11_findMeets_158 : decode cX11_findMeets 158 = .ok (.goto (-118), 3) := by decide +kernel
theorem dX11_findMeets_161 : decode cX11_findMeets 161 = .ok (.iinc 2 1, 3) := by decide +kernel
theorem dX11_findMeets_164 : decode cX11_findMeets 164 = .ok (.goto (-137), 3) := by decide +kernel
theorem dX11_findMeets_167 : decode cX11_findMeets 167 = .ok (.iinc 1 1, 3) := by decide +kernel
theorem dX11_findMeets_170 : decode cX11_findMeets 170 = .ok (.goto (-158), 3) := by decide +kernel
theorem dX11_findMeets_173 : decode cX11_findMeets 173 = .ok (.return_, 1) := by decide +kernel
theorem dX11_best_0 : decode cX11_best 0 = .ok (.aload_n 0, 1) := by decide +kernel
theorem dX11_best_1 : decode cX11_best 1 = .ok (.invokevirtual 301, 3) := by decide +kernel
theorem dX11_best_4 : decode cX11_best 4 = .ok (.aload_n 0, 1) := by decide +kernel
theorem dX11_best_5 : decode cX11_best 5 = .ok (.getfield 291, 3) := by decide +kernel
theorem dX11_best_8 : decode cX11_best 8 = .ok (.ifCond .ne 10, 3) := by decide +kernel
theorem dX11_best_11 : decode cX11_best 11 = .ok (.aload_n 0, 1) := by decide +kernel
theorem dX11_best_12 : decode cX11_best 12 = .ok (.ldc 100, 2) := by decide +kernel
theorem dX11_best_14 : decode cX11_best 14 = .ok (.invokevirtual 101, 3) := by decide +kernel
theorem dX11_best_17 : decode cX11_best 17 = .ok (.ireturn, 1) := by decide +kernel
theorem dX11_best_18 : decode cX11_best 18 = .ok (.iload_n 1, 1) := by decide +kernel
theorem dX11_best_19 : decode cX11_best 19 = .ok (.tableswitch 69 0 3 #[29, 39, 49, 59], 29) := by decide +kernel
theorem dX11_best_48 : decode cX11_best 48 = .ok (.aload_n 0, 1) := by decide +kernel
theorem dX11_best_49 : decode cX11_best 49 = .ok (.getfield 74, 3) := by decide +kernel
theorem dX11_best_52 : decode cX11_best 52 = .ok (.aload_n 0, 1) := by decide +kernel
theorem dX11_best_53 : decode cX11_best 53 = .ok (.getfield 294, 3) := by decide +kernel
theorem dX11_best_56 : decode cX11_best 56 = .ok (.iaload, 1) := by decide +kernel
theorem dX11_best_57 : decode cX11_best 57 = .ok (.ireturn, 1) := by decide +kernel
theorem dX11_best_58 : decode cX11_best 58 = .ok (.aload_n 0, 1) := by decide +kernel
theorem dX11_best_59 : decode cX11_best 59 = .ok (.getfield 77, 3) := by decide +kernel
theorem dX11_best_62 : decode cX11_best 62 = .ok (.aload_n 0, 1) := by decide +kernel
theorem dX11_best_63 : decode cX11_best 63 = .ok (.getfield 294, 3) := by decide +kernel
theorem dX11_best_66 : decode cX11_best 66 = .ok (.iaload, 1) := by decide +kernel
theorem dX11_best_67 : decode cX11_best 67 = .ok (.ireturn, 1) := by decide +kernel
theorem dX11_best_68 : decode cX11_best 68 = .ok (.aload_n 0, 1) := by decide +kernel
theorem dX11_best_69 : decode cX11_best 69 = .ok (.getfield 80, 3) := by decide +kernel
theorem dX11_best_72 : decode cX11_best 72 = .ok (.aload_n 0, 1) := by decide +kernel
theorem dX11_best_73 : decode cX11_best 73 = .ok (.getfield 294, 3) := by decide +kernel
theorem dX11_best_76 : decode cX11_best 76 = .ok (.iaload, 1) := by decide +kernel
theorem dX11_best_77 : decode cX11_best 77 = .ok (.ireturn, 1) := by decide +kernel
theorem dX11_best_78 : decode cX11_best 78 = .ok (.aload_n 0, 1) := by decide +kernel
theorem dX11_best_79 : decode cX11_best 79 = .ok (.getfield 83, 3) := by decide +kernel
theorem dX11_best_82 : decode cX11_best 82 = .ok (.aload_n 0, 1) := by decide +kernel
theorem dX11_best_83 : decode cX11_best 83 = .ok (.getfield 294, 3) := by decide +kernel
theorem dX11_best_86 : decode cX11_best 86 = .ok (.iaload, 1) := by decide +kernel
theorem dX11_best_87 : decode cX11_best 87 = .ok (.ireturn, 1) := by decide +kernel
theorem dX11_best_88 : decode cX11_best 88 = .ok (.aload_n 0, 1) := by decide +kernel
theorem dX11_best_89 : decode cX11_best 89 = .ok (.ldc 118, 2) := by decide +kernel
theorem dX11_best_91 : decode cX11_best 91 = .ok (.invokevirtual 101, 3) := by decide +kernel
theorem dX11_best_94 : decode cX11_best 94 = .ok (.ireturn, 1) := by decide +kernel
theorem dX11_price_0 : decode cX11_price 0 = .ok (.aload_n 0, 1) := by decide +kernel
theorem dX11_price_1 : decode cX11_price 1 = .ok (.iload_n 1, 1) := by decide +kernel
theorem dX11_price_2 : decode cX11_price 2 = .ok (.invokevirtual 133, 3) := by decide +kernel
theorem dX11_price_5 : decode cX11_price 5 = .ok (.ifCond .eq 19, 3) := by decide +kernel
theorem dX11_price_8 : decode cX11_price 8 = .ok (.aload_n 0, 1) := by decide +kernel
theorem dX11_price_9 : decode cX11_price 9 = .ok (.iload_n 2, 1) := by decide +kernel
theorem dX11_price_10 : decode cX11_price 10 = .ok (.invokevirtual 133, 3) := by decide +kernel
theorem dX11_price_13 : decode cX11_price 13 = .ok (.ifCond .eq 11, 3) := by decide +kernel
theorem dX11_price_16 : decode cX11_price 16 = .ok (.aload_n 0, 1) := by decide +kernel
theorem dX11_price_17 : decode cX11_price 17 = .ok (.iload_n 3, 1) := by decide +kernel
theorem dX11_price_18 : decode cX11_price 18 = .ok (.invokevirtual 127, 3) := by decide +kernel
theorem dX11_price_21 : decode cX11_price 21 = .ok (.ifCond .ne 10, 3) := by decide +kernel
theorem dX11_price_24 : decode cX11_price 24 = .ok (.aload_n 0, 1) := by decide +kernel
theorem dX11_price_25 : decode cX11_price 25 = .ok (.ldc 118, 2) := by decide +kernel
theorem dX11_price_27 : decode cX11_price 27 = .ok (.invokevirtual 101, 3) := by decide +kernel
theorem dX11_price_30 : decode cX11_price 30 = .ok (.ireturn, 1) := by decide +kernel
theorem dX11_price_31 : decode cX11_price 31 = .ok (.aload_n 0, 1) := by decide +kernel
theorem dX11_price_32 : decode cX11_price 32 = .ok (.iload_n 1, 1) := by decide +kernel
theorem dX11_price_33 : decode cX11_price 33 = .ok (.invokevirtual 140, 3) := by decide +kernel
theorem dX11_price_36 : decode cX11_price 36 = .ok (.aload_n 0, 1) := by decide +kernel
theorem dX11_price_37 : decode cX11_price 37 = .ok (.iload_n 2, 1) := by decide +kernel
theorem dX11_price_38 : decode cX11_price 38 = .ok (.invokevirtual 140, 3) := by decide +kernel
theorem dX11_price_41 : decode cX11_price 41 = .ok (.if_icmp .ne 12, 3) := by decide +kernel
theorem dX11_price_44 : decode cX11_price 44 = .ok (.aload_n 0, 1) := by decide +kernel
theorem dX11_price_45 : decode cX11_price 45 = .ok (.ldc 131, 2) := by decide +kernel
theorem dX11_price_47 : decode cX11_price 47 = .ok (.invokevirtual 101, 3) := by decide +kernel
theorem dX11_price_50 : decode cX11_price 50 = .ok (.goto 10, 3) := by decide +kernel
theorem dX11_price_53 : decode cX11_price 53 = .ok (.aload_n 0, 1) := by decide +kernel
theorem dX11_price_54 : decode cX11_price 54 = .ok (.iload_n 1, 1) := by decide +kernel
theorem dX11_price_55 : decode cX11_price 55 = .ok (.iload_n 2, 1) := by decide +kernel
theorem dX11_price_56 : decode cX11_price 56 = .ok (.iload_n 3, 1) := by decide +kernel
theorem dX11_price_57 : decode cX11_price 57 = .ok (.invokevirtual 297, 3) := by decide +kernel
theorem dX11_price_60 : decode cX11_price 60 = .ok (.ireturn, 1) := by decide +kernel
theorem dX11_narrowed_0 : decode cX11_narrowed 0 = .ok (.iload_n 0, 1) := by decide +kernel
theorem dX11_narrowed_1 : decode cX11_narrowed 1 = .ok (.bipush 8, 2) := by decide +kernel
theorem dX11_narrowed_3 : decode cX11_narrowed 3 = .ok (.if_icmp .ne 8, 3) := by decide +kernel
theorem dX11_narrowed_6 : decode cX11_narrowed 6 = .ok (.iload_n 1, 1) := by decide +kernel
theorem dX11_narrowed_7 : decode cX11_narrowed 7 = .ok (.i2b, 1) := by decide +kernel
theorem dX11_narrowed_8 : decode cX11_narrowed 8 = .ok (.goto 15, 3) := by decide +kernel
theorem dX11_narrowed_11 : decode cX11_narrowed 11 = .ok (.iload_n 0, 1) := by decide +kernel
theorem dX11_narrowed_12 : decode cX11_narrowed 12 = .ok (.bipush 16, 2) := by decide +kernel
theorem dX11_narrowed_14 : decode cX11_narrowed 14 = .ok (.if_icmp .ne 8, 3) := by decide +kernel
theorem dX11_narrowed_17 : decode cX11_narrowed 17 = .ok (.iload_n 1, 1) := by decide +kernel
theorem dX11_narrowed_18 : decode cX11_narrowed 18 = .ok (.i2s, 1) := by decide +kernel
theorem dX11_narrowed_19 : decode cX11_narrowed 19 = .ok (.goto 4, 3) := by decide +kernel
theorem dX11_narrowed_22 : decode cX11_narrowed 22 = .ok (.iload_n 1, 1) := by decide +kernel
theorem dX11_narrowed_23 : decode cX11_narrowed 23 = .ok (.ireturn, 1) := by decide +kernel
theorem dX11_proves_0 : decode cX11_proves 0 = .ok (.aload_n 0, 1) := by decide +kernel
theorem dX11_proves_1 : decode cX11_proves 1 = .ok (.iload_n 1, 1) := by decide +kernel
theorem dX11_proves_2 : decode cX11_proves 2 = .ok (.invokevirtual 133, 3) := by decide +kernel
theorem dX11_proves_5 : decode cX11_proves 5 = .ok (.ifCond .eq 27, 3) := by decide +kernel
theorem dX11_proves_8 : decode cX11_proves 8 = .ok (.aload_n 0, 1) := by decide +kernel
theorem dX11_proves_9 : decode cX11_proves 9 = .ok (.iload_n 2, 1) := by decide +kernel
theorem dX11_proves_10 : decode cX11_proves 10 = .ok (.invokevirtual 133, 3) := by decide +kernel
theorem dX11_proves_13 : decode cX11_proves 13 = .ok (.ifCond .eq 19, 3) := by decide +kernel
theorem dX11_proves_16 : decode cX11_proves 16 = .ok (.aload_n 0, 1) := by decide +kernel
theorem dX11_proves_17 : decode cX11_proves 17 = .ok (.iload_n 3, 1) := by decide +kernel
theorem dX11_proves_18 : decode cX11_proves 18 = .ok (.invokevirtual 127, 3) := by decide +kernel
theorem dX11_proves_21 : decode cX11_proves 21 = .ok (.ifCond .eq 11, 3) := by decide +kernel
theorem dX11_proves_24 : decode cX11_proves 24 = .ok (.iload 4, 2) := by decide +kernel
theorem dX11_proves_26 : decode cX11_proves 26 = .ok (.invokestatic 304, 3) := by decide +kernel
theorem dX11_proves_29 : decode cX11_proves 29 = .ok (.ifCond .ne 10, 3) := by decide +kernel
theorem dX11_proves_32 : decode cX11_proves 32 = .ok (.aload_n 0, 1) := by decide +kernel
theorem dX11_proves_33 : decode cX11_proves 33 = .ok (.ldc 118, 2) := by decide +kernel
theorem dX11_proves_35 : decode cX11_proves 35 = .ok (.invokevirtual 101, 3) := by decide +kernel
theorem dX11_proves_38 : decode cX11_proves 38 = .ok (.ireturn, 1) := by decide +kernel
theorem dX11_proves_39 : decode cX11_proves 39 = .ok (.aload_n 0, 1) := by decide +kernel
theorem dX11_proves_40 : decode cX11_proves 40 = .ok (.iload_n 1, 1) := by decide +kernel
theorem dX11_proves_41 : decode cX11_proves 41 = .ok (.invokevirtual 140, 3) := by decide +kernel
theorem dX11_proves_44 : decode cX11_proves 44 = .ok (.aload_n 0, 1) := by decide +kernel
theorem dX11_proves_45 : decode cX11_proves 45 = .ok (.iload_n 2, 1) := by decide +kernel
theorem dX11_proves_46 : decode cX11_proves 46 = .ok (.invokevirtual 140, 3) := by decide +kernel
theorem dX11_proves_49 : decode cX11_proves 49 = .ok (.if_icmp .ne 10, 3) := by decide +kernel
theorem dX11_proves_52 : decode cX11_proves 52 = .ok (.aload_n 0, 1) := by decide +kernel
theorem dX11_proves_53 : decode cX11_proves 53 = .ok (.ldc 131, 2) := by decide +kernel
theorem dX11_proves_55 : decode cX11_proves 55 = .ok (.invokevirtual 101, 3) := by decide +kernel
theorem dX11_proves_58 : decode cX11_proves 58 = .ok (.ireturn, 1) := by decide +kernel
theorem dX11_proves_59 : decode cX11_proves 59 = .ok (.aload_n 0, 1) := by decide +kernel
theorem dX11_proves_60 : decode cX11_proves 60 = .ok (.getfield 16, 3) := by decide +kernel
theorem dX11_proves_63 : decode cX11_proves 63 = .ok (.iload 4, 2) := by decide +kernel
theorem dX11_proves_65 : decode cX11_proves 65 = .ok (.iaload, 1) := by decide +kernel
theorem dX11_proves_66 : decode cX11_proves 66 = .ok (.ifCond .ne 11, 3) := by decide +kernel
theorem dX11_proves_69 : decode cX11_proves 69 = .ok (.aload_n 0, 1) := by decide +kernel
theorem dX11_proves_70 : decode cX11_proves 70 = .ok (.ldc_w 307, 3) := by decide +kernel
theorem dX11_proves_73 : decode cX11_proves 73 = .ok (.invokevirtual 101, 3) := by decide +kernel
theorem dX11_proves_76 : decode cX11_proves 76 = .ok (.ireturn, 1) := by decide +kernel
theorem dX11_proves_77 : decode cX11_proves 77 = .ok (.aload_n 0, 1) := by decide +kernel
theorem dX11_proves_78 : decode cX11_proves 78 = .ok (.invokevirtual 301, 3) := by decide +kernel
theorem dX11_proves_81 : decode cX11_proves 81 = .ok (.iload_n 1, 1) := by decide +kernel
theorem dX11_proves_82 : decode cX11_proves 82 = .ok (.iload_n 2, 1) := by decide +kernel
theorem dX11_proves_83 : decode cX11_proves 83 = .ok (.if_icmp .ge 7, 3) := by decide +kernel
theorem dX11_proves_86 : decode cX11_proves 86 = .ok (.iload_n 1, 1) := by decide +kernel
theorem dX11_proves_87 : decode cX11_proves 87 = .ok (.goto 4, 3) := by decide +kernel
theorem dX11_proves_90 : decode cX11_proves 90 = .ok (.iload_n 2, 1) := by decide +kernel
theorem dX11_proves_91 : decode cX11_proves 91 = .ok (.istore 5, 2) := by decide +kernel
theorem dX11_proves_93 : decode cX11_proves 93 = .ok (.iload_n 1, 1) := by decide +kernel
theorem dX11_proves_94 : decode cX11_proves 94 = .ok (.iload_n 2, 1) := by decide +kernel
theorem dX11_proves_95 : decode cX11_proves 95 = .ok (.if_icmp .ge 7, 3) := by decide +kernel
theorem dX11_proves_98 : decode cX11_proves 98 = .ok (.iload_n 2, 1) := by decide +kernel
theorem dX11_proves_99 : decode cX11_proves 99 = .ok (.goto 4, 3) := by decide +kernel
theorem dX11_proves_102 : decode cX11_proves 102 = .ok (.iload_n 1, 1) := by decide +kernel
theorem dX11_proves_103 : decode cX11_proves 103 = .ok (.istore 6, 2) := by decide +kernel
theorem dX11_proves_105 : decode cX11_proves 105 = .ok (.aload_n 0, 1) := by decide +kernel
theorem dX11_proves_106 : decode cX11_proves 106 = .ok (.getfield 74, 3) := by decide +kernel
theorem dX11_proves_109 : decode cX11_proves 109 = .ok (.aload_n 0, 1) := by decide +kernel
theorem dX11_proves_110 : decode cX11_proves 110 = .ok (.getfield 294, 3) := by decide +kernel
theorem dX11_proves_113 : decode cX11_proves 113 = .ok (.iaload, 1) := by decide +kernel
theorem dX11_proves_114 : decode cX11_proves 114 = .ok (.iload 5, 2) := by decide +kernel
theorem dX11_proves_116 : decode cX11_proves 116 = .ok (.if_icmp .ne 30, 3) := by decide +kernel
theorem dX11_proves_119 : decode cX11_proves 119 = .ok (.aload_n 0, 1) := by decide +kernel
theorem dX11_proves_120 : decode cX11_proves 120 = .ok (.getfield 77, 3) := by decide +kernel
theorem dX11_proves_123 : decode cX11_proves 123 = .ok (.aload_n 0, 1) := by decide +kernel
theorem dX11_proves_124 : decode cX11_proves 124 = .ok (.getfield 294, 3) := by decide +kernel
theorem dX11_proves_127 : decode cX11_proves 127 = .ok (.iaload, 1) := by decide +kernel
theorem dX11_proves_128 : decode cX11_proves 128 = .ok (.iload 6, 2) := by decide +kernel
theorem dX11_proves_130 : decode cX11_proves 130 = .ok (.if_icmp .ne 16, 3) := by decide +kernel
theorem dX11_proves_133 : decode cX11_proves 133 = .ok (.aload_n 0, 1) := by decide +kernel
theorem dX11_proves_134 : decode cX11_proves 134 = .ok (.getfield 80, 3) := by decide +kernel
theorem dX11_proves_137 : decode cX11_proves 137 = .ok (.aload_n 0, 1) := by decide +kernel
theorem dX11_proves_138 : decode cX11_proves 138 = .ok (.getfield 294, 3) := by decide +kernel
theorem dX11_proves_141 : decode cX11_proves 141 = .ok (.iaload, 1) := by decide +kernel
theorem dX11_proves_142 : decode cX11_proves 142 = .ok (.iload_n 3, 1) := by decide +kernel
theorem dX11_proves_143 : decode cX11_proves 143 = .ok (.if_icmp .eq 10, 3) := by decide +kernel
theorem dX11_proves_146 : decode cX11_proves 146 = .ok (.aload_n 0, 1) := by decide +kernel
theorem dX11_proves_147 : decode cX11_proves 147 = .ok (.ldc 139, 2) := by decide +kernel
theorem dX11_proves_149 : decode cX11_proves 149 = .ok (.invokevirtual 101, 3) := by decide +kernel
theorem dX11_proves_152 : decode cX11_proves 152 = .ok (.ireturn, 1) := by decide +kernel
theorem dX11_proves_153 : decode cX11_proves 153 = .ok (.aload_n 0, 1) := by decide +kernel
theorem dX11_proves_154 : decode cX11_proves 154 = .ok (.getfield 19, 3) := by decide +kernel
theorem dX11_proves_157 : decode cX11_proves 157 = .ok (.iload 4, 2) := by decide +kernel
theorem dX11_proves_159 : decode cX11_proves 159 = .ok (.iaload, 1) := by decide +kernel
theorem dX11_proves_160 : decode cX11_proves 160 = .ok (.aload_n 0, 1) := by decide +kernel
theorem dX11_proves_161 : decode cX11_proves 161 = .ok (.getfield 291, 3) := by decide +kernel
theorem dX11_proves_164 : decode cX11_proves 164 = .ok (.if_icmp .eq 8, 3) := by decide +kernel
theorem dX11_proves_167 : decode cX11_proves 167 = .ok (.aload_n 0, 1) := by decide +kernel
theorem dX11_proves_168 : decode cX11_proves 168 = .ok (.getfield 291, 3) := by decide +kernel
theorem dX11_proves_171 : decode cX11_proves 171 = .ok (.ireturn, 1) := by decide +kernel
theorem dX11_proves_172 : decode cX11_proves 172 = .ok (.iconst 0, 1) := by decide +kernel
theorem dX11_proves_173 : decode cX11_proves 173 = .ok (.istore 7, 2) := by decide +kernel
theorem dX11_proves_175 : decode cX11_proves 175 = .ok (.iload 7, 2) := by decide +kernel
theorem dX11_proves_177 : decode cX11_proves 177 = .ok (.aload_n 0, 1) := by decide +kernel
theorem dX11_proves_178 : decode cX11_proves 178 = .ok (.getfield 291, 3) := by decide +kernel
theorem dX11_proves_181 : decode cX11_proves 181 = .ok (.if_icmp .ge 45, 3) := by decide +kernel
theorem dX11_proves_184 : decode cX11_proves 184 = .ok (.aload_n 0, 1) := by decide +kernel
theorem dX11_proves_185 : decode cX11_proves 185 = .ok (.getfield 22, 3) := by decide +kernel
theorem dX11_proves_188 : decode cX11_proves 188 = .ok (.bipush 60, 2) := by decide +kernel
theorem dX11_proves_190 : decode cX11_proves 190 = .ok (.iload 4, 2) := by decide +kernel
theorem dX11_proves_192 : decode cX11_proves 192 = .ok (.imul, 1) := by decide +kernel
theorem dX11_proves_193 : decode cX11_proves 193 = .ok (.iload 7, 2) := by decide +kernel
theorem dX11_proves_195 : decode cX11_proves 195 = .ok (.iadd, 1) := by decide +kernel

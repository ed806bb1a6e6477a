theorem dX0_init_0 : decode cX0_init 0 = .ok (.aload_n 0, 1) := by decide +kernel
theorem dX0_init_1 : decode cX0_init 1 = .ok (.invokespecial 3, 3) := by decide +kernel
theorem dX0_init_4 : decode cX0_init 4 = .ok (.aload_n 0, 1) := by decide +kernel
theorem dX0_init_5 : decode cX0_init 5 = .ok (.new 9, 3) := by decide +kernel
theorem dX0_init_8 : decode cX0_init 8 = .ok (.dup, 1) := by decide +kernel
theorem dX0_init_9 : decode cX0_init 9 = .ok (.invokespecial 11, 3) := by decide +kernel
theorem dX0_init_12 : decode cX0_init 12 = .ok (.putfield 12, 3) := by decide +kernel
theorem dX0_init_15 : decode cX0_init 15 = .ok (.aload_n 0, 1) := by decide +kernel
theorem dX0_init_16 : decode cX0_init 16 = .ok (.new 18, 3) := by decide +kernel
theorem dX0_init_19 : decode cX0_init 19 = .ok (.dup, 1) := by decide +kernel
theorem dX0_init_20 : decode cX0_init 20 = .ok (.invokespecial 20, 3) := by decide +kernel
theorem dX0_init_23 : decode cX0_init 23 = .ok (.putfield 21, 3) := by decide +kernel
theorem dX0_init_26 : decode cX0_init 26 = .ok (.aload_n 0, 1) := by decide +kernel
theorem dX0_init_27 : decode cX0_init 27 = .ok (.iconst 0, 1) := by decide +kernel
theorem dX0_init_28 : decode cX0_init 28 = .ok (.putfield 25, 3) := by decide +kernel
theorem dX0_init_31 : decode cX0_init 31 = .ok (.aload_n 0, 1) := by decide +kernel
theorem dX0_init_32 : decode cX0_init 32 = .ok (.iconst 5, 1) := by decide +kernel
theorem dX0_init_33 : decode cX0_init 33 = .ok (.anewarray 29, 3) := by decide +kernel
theorem dX0_init_36 : decode cX0_init 36 = .ok (.putfield 31, 3) := by decide +kernel
theorem dX0_init_39 : decode cX0_init 39 = .ok (.aload_n 0, 1) := by decide +kernel
theorem dX0_init_40 : decode cX0_init 40 = .ok (.bipush 35, 2) := by decide +kernel
theorem dX0_init_42 : decode cX0_init 42 = .ok (.newarray .int, 2) := by decide +kernel
theorem dX0_init_44 : decode cX0_init 44 = .ok (.putfield 35, 3) := by decide +kernel
theorem dX0_init_47 : decode cX0_init 47 = .ok (.aload_n 0, 1) := by decide +kernel
theorem dX0_init_48 : decode cX0_init 48 = .ok (.iconst 5, 1) := by decide +kernel
theorem dX0_init_49 : decode cX0_init 49 = .ok (.newarray .int, 2) := by decide +kernel
theorem dX0_init_51 : decode cX0_init 51 = .ok (.putfield 39, 3) := by decide +kernel
theorem dX0_init_54 : decode cX0_init 54 = .ok (.aload_n 0, 1) := by decide +kernel
theorem dX0_init_55 : decode cX0_init 55 = .ok (.iconst 5, 1) := by decide +kernel
theorem dX0_init_56 : decode cX0_init 56 = .ok (.newarray .int, 2) := by decide +kernel
theorem dX0_init_58 : decode cX0_init 58 = .ok (.putfield 42, 3) := by decide +kernel
theorem dX0_init_61 : decode cX0_init 61 = .ok (.aload_n 0, 1) := by decide +kernel
theorem dX0_init_62 : decode cX0_init 62 = .ok (.iconst 5, 1) := by decide +kernel
theorem dX0_init_63 : decode cX0_init 63 = .ok (.newarray .int, 2) := by decide +kernel
theorem dX0_init_65 : decode cX0_init 65 = .ok (.putfield 45, 3) := by decide +kernel
theorem dX0_init_68 : decode cX0_init 68 = .ok (.aload_n 0, 1) := by decide +kernel
theorem dX0_init_69 : decode cX0_init 69 = .ok (.iconst 5, 1) := by decide +kernel
theorem dX0_init_70 : decode cX0_init 70 = .ok (.newarray .int, 2) := by decide +kernel
theorem dX0_init_72 : decode cX0_init 72 = .ok (.putfield 48, 3) := by decide +kernel
theorem dX0_init_75 : decode cX0_init 75 = .ok (.aload_n 0, 1) := by decide +kernel
theorem dX0_init_76 : decode cX0_init 76 = .ok (.iconst 5, 1) := by decide +kernel
theorem dX0_init_77 : decode cX0_init 77 = .ok (.newarray .int, 2) := by decide +kernel
theorem dX0_init_79 : decode cX0_init 79 = .ok (.putfield 51, 3) := by decide +kernel
theorem dX0_init_82 : decode cX0_init 82 = .ok (.aload_n 0, 1) := by decide +kernel
theorem dX0_init_83 : decode cX0_init 83 = .ok (.iconst 5, 1) := by decide +kernel
theorem dX0_init_84 : decode cX0_init 84 = .ok (.newarray .int, 2) := by decide +kernel
theorem dX0_init_86 : decode cX0_init 86 = .ok (.putfield 54, 3) := by decide +kernel
theorem dX0_init_89 : decode cX0_init 89 = .ok (.aload_n 0, 1) := by decide +kernel
theorem dX0_init_90 : decode cX0_init 90 = .ok (.bipush 14, 2) := by decide +kernel
theorem dX0_init_92 : decode cX0_init 92 = .ok (.newarray .int, 2) := by decide +kernel
theorem dX0_init_94 : decode cX0_init 94 = .ok (.putfield 57, 3) := by decide +kernel
theorem dX0_init_97 : decode cX0_init 97 = .ok (.aload_n 0, 1) := by decide +kernel
theorem dX0_init_98 : decode cX0_init 98 = .ok (.bipush 14, 2) := by decide +kernel
theorem dX0_init_100 : decode cX0_init 100 = .ok (.newarray .int, 2) := by decide +kernel
theorem dX0_init_102 : decode cX0_init 102 = .ok (.putfield 60, 3) := by decide +kernel
theorem dX0_init_105 : decode cX0_init 105 = .ok (.aload_n 0, 1) := by decide +kernel
theorem dX0_init_106 : decode cX0_init 106 = .ok (.iconst 0, 1) := by decide +kernel
theorem dX0_init_107 : decode cX0_init 107 = .ok (.putfield 63, 3) := by decide +kernel
theorem dX0_init_110 : decode cX0_init 110 = .ok (.aload_n 0, 1) := by decide +kernel
theorem dX0_init_111 : decode cX0_init 111 = .ok (.iconst 0, 1) := by decide +kernel
theorem dX0_init_112 : decode cX0_init 112 = .ok (.putfield 67, 3) := by decide +kernel
theorem dX0_init_115 : decode cX0_init 115 = .ok (.iconst 0, 1) := by decide +kernel
theorem dX0_init_116 : decode cX0_init 116 = .ok (.istore_n 1, 1) := by decide +kernel
theorem dX0_init_117 : decode cX0_init 117 = .ok (.iload_n 1, 1) := by decide +kernel
theorem dX0_init_118 : decode cX0_init 118 = .ok (.iconst 5, 1) := by decide +kernel
theorem dX0_init_119 : decode cX0_init 119 = .ok (.if_icmp .ge 23, 3) := by decide +kernel
theorem dX0_init_122 : decode cX0_init 122 = .ok (.aload_n 0, 1) := by decide +kernel
theorem dX0_init_123 : decode cX0_init 123 = .ok (.getfield 31, 3) := by decide +kernel
theorem dX0_init_126 : decode cX0_init 126 = .ok (.iload_n 1, 1) := by decide +kernel
theorem dX0_init_127 : decode cX0_init 127 = .ok (.new 29, 3) := by decide +kernel
theorem dX0_init_130 : decode cX0_init 130 = .ok (.dup, 1) := by decide +kernel
theorem dX0_init_131 : decode cX0_init 131 = .ok (.iload_n 1, 1) := by decide +kernel
theorem dX0_init_132 : decode cX0_init 132 = .ok (.invokespecial 70, 3) := by decide +kernel
theorem dX0_init_135 : decode cX0_init 135 = .ok (.aastore, 1) := by decide +kernel
theorem dX0_init_136 : decode cX0_init 136 = .ok (.iinc 1 1, 3) := by decide +kernel
theorem dX0_init_139 : decode cX0_init 139 = .ok (.goto (-22), 3) := by decide +kernel
theorem dX0_init_142 : decode cX0_init 142 = .ok (.return_, 1) := by decide +kernel
theorem dX0_forget_0 : decode cX0_forget 0 = .ok (.aload_n 0, 1) := by decide +kernel
theorem dX0_forget_1 : decode cX0_forget 1 = .ok (.iconst 0, 1) := by decide +kernel
theorem dX0_forget_2 : decode cX0_forget 2 = .ok (.putfield 25, 3) := by decide +kernel
theorem dX0_forget_5 : decode cX0_forget 5 = .ok (.return_, 1) := by decide +kernel
theorem dX0_played_0 : decode cX0_played 0 = .ok (.aload_n 0, 1) := by decide +kernel
theorem dX0_played_1 : decode cX0_played 1 = .ok (.getfield 25, 3) := by decide +kernel
theorem dX0_played_4 : decode cX0_played 4 = .ok (.ifCond .ne 15, 3) := by decide +kernel
theorem dX0_played_7 : decode cX0_played 7 = .ok (.aload_n 0, 1) := by decide +kernel
theorem dX0_played_8 : decode cX0_played 8 = .ok (.iconst (-1), 1) := by decide +kernel
theorem dX0_played_9 : decode cX0_played 9 = .ok (.iconst (-1), 1) := by decide +kernel
theorem dX0_played_10 : decode cX0_played 10 = .ok (.iconst (-1), 1) := by decide +kernel
theorem dX0_played_11 : decode cX0_played 11 = .ok (.invokevirtual 73, 3) := by decide +kernel
theorem dX0_played_14 : decode cX0_played 14 = .ok (.aload_n 0, 1) := by decide +kernel
theorem dX0_played_15 : decode cX0_played 15 = .ok (.iconst 1, 1) := by decide +kernel
theorem dX0_played_16 : decode cX0_played 16 = .ok (.putfield 25, 3) := by decide +kernel
theorem dX0_played_19 : decode cX0_played 19 = .ok (.aload_n 0, 1) := by decide +kernel
theorem dX0_played_20 : decode cX0_played 20 = .ok (.getfield 21, 3) := by decide +kernel
theorem dX0_played_23 : decode cX0_played 23 = .ok (.areturn, 1) := by decide +kernel
theorem dX0_play_0 : decode cX0_play 0 = .ok (.aload_n 0, 1) := by decide +kernel
theorem dX0_play_1 : decode cX0_play 1 = .ok (.iconst 0, 1) := by decide +kernel
theorem dX0_play_2 : decode cX0_play 2 = .ok (.putfield 25, 3) := by decide +kernel
theorem dX0_play_5 : decode cX0_play 5 = .ok (.aload_n 0, 1) := by decide +kernel
theorem dX0_play_6 : decode cX0_play 6 = .ok (.iload_n 1, 1) := by decide +kernel
theorem dX0_play_7 : decode cX0_play 7 = .ok (.iload_n 2, 1) := by decide +kernel
theorem dX0_play_8 : decode cX0_play 8 = .ok (.iload_n 3, 1) := by decide +kernel
theorem dX0_play_9 : decode cX0_play 9 = .ok (.invokevirtual 77, 3) := by decide +kernel
theorem dX0_play_12 : decode cX0_play 12 = .ok (.iconst 1, 1) := by decide +kernel
theorem dX0_play_13 : decode cX0_play 13 = .ok (.aload_n 0, 1) := by decide +kernel
theorem dX0_play_14 : decode cX0_play 14 = .ok (.getfield 12, 3) := by decide +kernel
theorem dX0_play_17 : decode cX0_play 17 = .ok (.getfield 80, 3) := by decide +kernel
theorem dX0_play_20 : decode cX0_play 20 = .ok (.getfield 84, 3) := by decide +kernel
theorem dX0_play_23 : decode cX0_play 23 = .ok (.ishl, 1) := by decide +kernel
theorem dX0_play_24 : decode cX0_play 24 = .ok (.iconst 1, 1) := by decide +kernel
theorem dX0_play_25 : decode cX0_play 25 = .ok (.isub, 1) := by decide +kernel
theorem dX0_play_26 : decode cX0_play 26 = .ok (.istore 4, 2) := by decide +kernel
theorem dX0_play_28 : decode cX0_play 28 = .ok (.iconst 0, 1) := by decide +kernel
theorem dX0_play_29 : decode cX0_play 29 = .ok (.istore 5, 2) := by decide +kernel
theorem dX0_play_31 : decode cX0_play 31 = .ok (.iload 5, 2) := by decide +kernel
theorem dX0_play_33 : decode cX0_play 33 = .ok (.sipush 500, 3) := by decide +kernel
theorem dX0_play_36 : decode cX0_play 36 = .ok (.if_icmp .gt 87, 3) := by decide +kernel
theorem dX0_play_39 : decode cX0_play 39 = .ok (.aload_n 0, 1) := by decide +kernel
theorem dX0_play_40 : decode cX0_play 40 = .ok (.getfield 67, 3) := by decide +kernel
theorem dX0_play_43 : decode cX0_play 43 = .ok (.iload 4, 2) := by decide +kernel
theorem dX0_play_45 : decode cX0_play 45 = .ok (.if_icmp .eq 78, 3) := by decide +kernel
theorem dX0_play_48 : decode cX0_play 48 = .ok (.aload_n 0, 1) := by decide +kernel
theorem dX0_play_49 : decode cX0_play 49 = .ok (.iload 5, 2) := by decide +kernel
theorem dX0_play_51 : decode cX0_play 51 = .ok (.invokevirtual 89, 3) := by decide +kernel
theorem dX0_play_54 : decode cX0_play 54 = .ok (.aload_n 0, 1) := by decide +kernel
theorem dX0_play_55 : decode cX0_play 55 = .ok (.iload 5, 2) := by decide +kernel
theorem dX0_play_57 : decode cX0_play 57 = .ok (.invokevirtual 92, 3) := by decide +kernel
theorem dX0_play_60 : decode cX0_play 60 = .ok (.aload_n 0, 1) := by decide +kernel
theorem dX0_play_61 : decode cX0_play 61 = .ok (.iload 5, 2) := by decide +kernel
theorem dX0_play_63 : decode cX0_play 63 = .ok (.invokevirtual 95, 3) := by decide +kernel
theorem dX0_play_66 : decode cX0_play 66 = .ok (.ifCond .eq 9, 3) := by decide +kernel
theorem dX0_play_69 : decode cX0_play 69 = .ok (.aload_n 0, 1) := by decide +kernel
theorem dX0_play_70 : decode cX0_play 70 = .ok (.iload 5, 2) := by decide +kernel
theorem dX0_play_72 : decode cX0_play 72 = .ok (.invokevirtual 99, 3) := by decide +kernel
theorem dX0_play_75 : decode cX0_play 75 = .ok (.iconst 0, 1) := by decide +kernel
theorem dX0_play_76 : decode cX0_play 76 = .ok (.istore 6, 2) := by decide +kernel
theorem dX0_play_78 : decode cX0_play 78 = .ok (.iload 6, 2) := by decide +kernel
theorem dX0_play_80 : decode cX0_play 80 = .ok (.aload_n 0, 1) := by decide +kernel
theorem dX0_play_81 : decode cX0_play 81 = .ok (.getfield 12, 3) := by decide +kernel
theorem dX0_play_84 : decode cX0_play 84 = .ok (.getfield 80, 3) := by decide +kernel
theorem dX0_play_87 : decode cX0_play 87 = .ok (.getfield 84, 3) := by decide +kernel
theorem dX0_play_90 : decode cX0_play 90 = .ok (.if_icmp .ge 27, 3) := by decide +kernel
theorem dX0_play_93 : decode cX0_play 93 = .ok (.aload_n 0, 1) := by decide +kernel
theorem dX0_play_94 : decode cX0_play 94 = .ok (.getfield 21, 3) := by decide +kernel
theorem dX0_play_97 : decode cX0_play 97 = .ok (.iload 6, 2) := by decide +kernel
theorem dX0_play_99 : decode cX0_play 99 = .ok (.iload 5, 2) := by decide +kernel
theorem dX0_play_101 : decode cX0_play 101 = .ok (.aload_n 0, 1) := by decide +kernel
theorem dX0_play_102 : decode cX0_play 102 = .ok (.getfield 42, 3) := by decide +kernel
theorem dX0_play_105 : decode cX0_play 105 = .ok (.iload 6, 2) := by decide +kernel
theorem dX0_play_107 : decode cX0_play 107 = .ok (.iaload, 1) := by decide +kernel
theorem dX0_play_108 : decode cX0_play 108 = .ok (.invokevirtual 102, 3) := by decide +kernel
theorem dX0_play_111 : decode cX0_play 111 = .ok (.iinc 6 1, 3) := by decide +kernel
theorem dX0_play_114 : decode cX0_play 114 = .ok (.goto (-36), 3) := by decide +kernel
theorem dX0_play_117 : decode cX0_play 117 = .ok (.iinc 5 1, 3) := by decide +kernel
theorem dX0_play_120 : decode cX0_play 120 = .ok (.goto (-89), 3) := by decide +kernel
theorem dX0_play_123 : decode cX0_play 123 = .ok (.return_, 1) := by decide +kernel
theorem dX0_begin_0 : decode cX0_begin 0 = .ok (.aload_n 0, 1) := by decide +kernel
theorem dX0_begin_1 : decode cX0_begin 1 = .ok (.getfield 21, 3) := by decide +kernel
theorem dX0_begin_4 : decode cX0_begin 4 = .ok (.invokevirtual 105, 3) := by decide +kernel
theorem dX0_begin_7 : decode cX0_begin 7 = .ok (.aload_n 0, 1) := by decide +kernel
theorem dX0_begin_8 : decode cX0_begin 8 = .ok (.getfield 57, 3) := by decide +kernel
theorem dX0_begin_11 : decode cX0_begin 11 = .ok (.iconst 0, 1) := by decide +kernel
theorem dX0_begin_12 : decode cX0_begin 12 = .ok (.invokestatic 107, 3) := by decide +kernel
theorem dX0_begin_15 : decode cX0_begin 15 = .ok (.aload_n 0, 1) := by decide +kernel
theorem dX0_begin_16 : decode cX0_begin 16 = .ok (.getfield 60, 3) := by decide +kernel
theorem dX0_begin_19 : decode cX0_begin 19 = .ok (.sipush (-1000), 3) := by decide +kernel
theorem dX0_begin_22 : decode cX0_begin 22 = .ok (.invokestatic 107, 3) := by decide +kernel
theorem dX0_begin_25 : decode cX0_begin 25 = .ok (.aload_n 0, 1) := by decide +kernel
theorem dX0_begin_26 : decode cX0_begin 26 = .ok (.iconst 0, 1) := by decide +kernel
theorem dX0_begin_27 : decode cX0_begin 27 = .ok (.putfield 63, 3) := by decide +kernel
theorem dX0_begin_30 : decode cX0_begin 30 = .ok (.aload_n 0, 1) := by decide +kernel
theorem dX0_begin_31 : decode cX0_begin 31 = .ok (.iconst 0, 1) := by decide +kernel
theorem dX0_begin_32 : decode cX0_begin 32 = .ok (.putfield 67, 3) := by decide +kernel
theorem dX0_begin_35 : decode cX0_begin 35 = .ok (.iconst 0, 1) := by decide +kernel
theorem dX0_begin_36 : decode cX0_begin 36 = .ok (.istore 4, 2) := by decide +kernel
theorem dX0_begin_38 : decode cX0_begin 38 = .ok (.iload 4, 2) := by decide +kernel
theorem dX0_begin_40 : decode cX0_begin 40 = .ok (.aload_n 0, 1) := by decide +kernel
theorem dX0_begin_41 : decode cX0_begin 41 = .ok (.getfield 12, 3) := by decide +kernel
theorem dX0_begin_44 : decode cX0_begin 44 = .ok (.getfield 80, 3) := by decide +kernel
theorem dX0_begin_47 : decode cX0_begin 47 = .ok (.getfield 84, 3) := by decide +kernel
theorem dX0_begin_50 : decode cX0_begin 50 = .ok (.if_icmp .ge 62, 3) := by decide +kernel
theorem dX0_begin_53 : decode cX0_begin 53 = .ok (.aload_n 0, 1) := by decide +kernel
theorem dX0_begin_54 : decode cX0_begin 54 = .ok (.iload 4, 2) := by decide +kernel
theorem dX0_begin_56 : decode cX0_begin 56 = .ok (.invokevirtual 113, 3) := by decide +kernel
theorem dX0_begin_59 : decode cX0_begin 59 = .ok (.aload_n 0, 1) := by decide +kernel
theorem dX0_begin_60 : decode cX0_begin 60 = .ok (.getfield 31, 3) := by decide +kernel
theorem dX0_begin_63 : decode cX0_begin 63 = .ok (.iload 4, 2) := by decide +kernel
theorem dX0_begin_65 : decode cX0_begin 65 = .ok (.aaload, 1) := by decide +kernel
theorem dX0_begin_66 : decode cX0_begin 66 = .ok (.iload 4, 2) := by decide +kernel
theorem dX0_begin_68 : decode cX0_begin 68 = .ok (.iload_n 1, 1) := by decide +kernel
theorem dX0_begin_69 : decode cX0_begin 69 = .ok (.if_icmp .ne 7, 3) := by decide +kernel
theorem dX0_begin_72 : decode cX0_begin 72 = .ok (.iload_n 2, 1) := by decide +kernel
theorem dX0_begin_73 : decode cX0_begin 73 = .ok (.goto 14, 3) := by decide +kernel
theorem dX0_begin_76 : decode cX0_begin 76 = .ok (.iload 4, 2) := by decide +kernel
theorem dX0_begin_78 : decode cX0_begin 78 = .ok (.iload_n 2, 1) := by decide +kernel
theorem dX0_begin_79 : decode cX0_begin 79 = .ok (.if_icmp .ne 7, 3) := by decide +kernel
theorem dX0_begin_82 : decode cX0_begin 82 = .ok (.iload_n 1, 1) := by decide +kernel
theorem dX0_begin_83 : decode cX0_begin 83 = .ok (.goto 4, 3) := by decide +kernel
theorem dX0_begin_86 : decode cX0_begin 86 = .ok (.iconst (-1), 1) := by decide +kernel
theorem dX0_begin_87 : decode cX0_begin 87 = .ok (.iload_n 3, 1) := by decide +kernel
theorem dX0_begin_88 : decode cX0_begin 88 = .ok (.invokevirtual 116, 3) := by decide +kernel
theorem dX0_begin_91 : decode cX0_begin 91 = .ok (.aload_n 0, 1) := by decide +kernel
theorem dX0_begin_92 : decode cX0_begin 92 = .ok (.getfield 21, 3) := by decide +kernel
theorem dX0_begin_95 : decode cX0_begin 95 = .ok (.dup, 1) := by decide +kernel
theorem dX0_begin_96 : decode cX0_begin 96 = .ok (.getfield 119, 3) := by decide +kernel
theorem dX0_begin_99 : decode cX0_begin 99 = .ok (.sipush 1000, 3) := by decide +kernel
theorem dX0_begin_102 : decode cX0_begin 102 = .ok (.iadd, 1) := by decide +kernel
theorem dX0_begin_103 : decode cX0_begin 103 = .ok (.putfield 119, 3) := by decide +kernel
theorem dX0_begin_106 : decode cX0_begin 106 = .ok (.iinc 4 1, 3) := by decide +kernel
theorem dX0_begin_109 : decode cX0_begin 109 = .ok (.goto (-71), 3) := by decide +kernel
theorem dX0_begin_112 : decode cX0_begin 112 = .ok (.return_, 1) := by decide +kernel
theorem dX0_beginTrain_0 : decode cX0_beginTrain 0 = .ok (.aload_n 0, 1) := by decide +kernel
theorem dX0_beginTrain_1 : decode cX0_beginTrain 1 = .ok (.getfield 12, 3) := by decide +kernel
theorem dX0_beginTrain_4 : decode cX0_beginTrain 4 = .ok (.getfield 80, 3) := by decide +kernel
theorem dX0_beginTrain_7 : decode cX0_beginTrain 7 = .ok (.astore_n 2, 1) := by decide +kernel
theorem dX0_beginTrain_8 : decode cX0_beginTrain 8 = .ok (.aload_n 0, 1) := by decide +kernel
theorem dX0_beginTrain_9 : decode cX0_beginTrain 9 = .ok (.getfield 42, 3) := by decide +kernel
theorem dX0_beginTrain_12 : decode cX0_beginTrain 12 = .ok (.iload_n 1, 1) := by decide +kernel
theorem dX0_beginTrain_13 : decode cX0_beginTrain 13 = .ok (.sipush 200, 3) := by decide +kernel
theorem dX0_beginTrain_16 : decode cX0_beginTrain 16 = .ok (.iastore, 1) := by decide +kernel
theorem dX0_beginTrain_17 : decode cX0_beginTrain 17 = .ok (.aload_n 0, 1) := by decide +kernel
theorem dX0_beginTrain_18 : decode cX0_beginTrain 18 = .ok (.getfield 45, 3) := by decide +kernel
theorem dX0_beginTrain_21 : decode cX0_beginTrain 21 = .ok (.iload_n 1, 1) := by decide +kernel
theorem dX0_beginTrain_22 : decode cX0_beginTrain 22 = .ok (.aload_n 2, 1) := by decide +kernel
theorem dX0_beginTrain_23 : decode cX0_beginTrain 23 = .ok (.iload_n 1, 1) := by decide +kernel
theorem dX0_beginTrain_24 : decode cX0_beginTrain 24 = .ok (.invokevirtual 122, 3) := by decide +kernel
theorem dX0_beginTrain_27 : decode cX0_beginTrain 27 = .ok (.iastore, 1) := by decide +kernel
theorem dX0_beginTrain_28 : decode cX0_beginTrain 28 = .ok (.aload_n 0, 1) := by decide +kernel
theorem dX0_beginTrain_29 : decode cX0_beginTrain 29 = .ok (.getfield 48, 3) := by decide +kernel
theorem dX0_beginTrain_32 : decode cX0_beginTrain 32 = .ok (.iload_n 1, 1) := by decide +kernel
theorem dX0_beginTrain_33 : decode cX0_beginTrain 33 = .ok (.aload_n 2, 1) := by decide +kernel
theorem dX0_beginTrain_34 : decode cX0_beginTrain 34 = .ok (.iload_n 1, 1) := by decide +kernel
theorem dX0_beginTrain_35 : decode cX0_beginTrain 35 = .ok (.aload_n 0, 1) := by decide +kernel
theorem dX0_beginTrain_36 : decode cX0_beginTrain 36 = .ok (.getfield 45, 3) := by decide +kernel
theorem dX0_beginTrain_39 : decode cX0_beginTrain 39 = .ok (.iload_n 1, 1) := by decide +kernel
theorem dX0_beginTrain_40 : decode cX0_beginTrain 40 = .ok (.iaload, 1) := by decide +kernel
theorem dX0_beginTrain_41 : decode cX0_beginTrain 41 = .ok (.invokevirtual 126, 3) := by decide +kernel
theorem dX0_beginTrain_44 : decode cX0_beginTrain 44 = .ok (.iastore, 1) := by decide +kernel
theorem dX0_beginTrain_45 : decode cX0_beginTrain 45 = .ok (.aload_n 0, 1) := by decide +kernel
theorem dX0_beginTrain_46 : decode cX0_beginTrain 46 = .ok (.getfield 51, 3) := by decide +kernel
theorem dX0_beginTrain_49 : decode cX0_beginTrain 49 = .ok (.iload_n 1, 1) := by decide +kernel
theorem dX0_beginTrain_50 : decode cX0_beginTrain 50 = .ok (.aload_n 2, 1) := by decide +kernel
theorem dX0_beginTrain_51 : decode cX0_beginTrain 51 = .ok (.getfield 129, 3) := by decide +kernel
theorem dX0_beginTrain_54 : decode cX0_beginTrain 54 = .ok (.iload_n 1, 1) := by decide +kernel
theorem dX0_beginTrain_55 : decode cX0_beginTrain 55 = .ok (.iaload, 1) := by decide +kernel
theorem dX0_beginTrain_56 : decode cX0_beginTrain 56 = .ok (.iastore, 1) := by decide +kernel
theorem dX0_beginTrain_57 : decode cX0_beginTrain 57 = .ok (.aload_n 0, 1) := by decide +kernel
theorem dX0_beginTrain_58 : decode cX0_beginTrain 58 = .ok (.getfield 39, 3) := by decide +kernel
theorem dX0_beginTrain_61 : decode cX0_beginTrain 61 = .ok (.iload_n 1, 1) := by decide +kernel
theorem dX0_beginTrain_62 : decode cX0_beginTrain 62 = .ok (.aload_n 2, 1) := by decide +kernel
theorem dX0_beginTrain_63 : decode cX0_beginTrain 63 = .ok (.iload_n 1, 1) := by decide +kernel
theorem dX0_beginTrain_64 : decode cX0_beginTrain 64 = .ok (.invokevirtual 132, 3) := by decide +kernel
theorem dX0_beginTrain_67 : decode cX0_beginTrain 67 = .ok (.iastore, 1) := by decide +kernel
theorem dX0_beginTrain_68 : decode cX0_beginTrain 68 = .ok (.aload_n 0, 1) := by decide +kernel
theorem dX0_beginTrain_69 : decode cX0_beginTrain 69 = .ok (.getfield 54, 3) := by decide +kernel
theorem dX0_beginTrain_72 : decode cX0_beginTrain 72 = .ok (.iload_n 1, 1) := by decide +kernel
theorem dX0_beginTrain_73 : decode cX0_beginTrain 73 = .ok (.iconst (-1), 1) := by decide +kernel
theorem dX0_beginTrain_74 : decode cX0_beginTrain 74 = .ok (.iastore, 1) := by decide +kernel
theorem dX0_beginTrain_75 : decode cX0_beginTrain 75 = .ok (.aload_n 0, 1) := by decide +kernel
theorem dX0_beginTrain_76 : decode cX0_beginTrain 76 = .ok (.dup, 1) := by decide +kernel
theorem dX0_beginTrain_77 : decode cX0_beginTrain 77 = .ok (.getfield 63, 3) := by decide +kernel
theorem dX0_beginTrain_80 : decode cX0_beginTrain 80 = .ok (.aload_n 2, 1) := by decide +kernel
theorem dX0_beginTrain_81 : decode cX0_beginTrain 81 = .ok (.iload_n 1, 1) := by decide +kernel
theorem dX0_beginTrain_82 : decode cX0_beginTrain 82 = .ok (.invokevirtual 134, 3) := by decide +kernel
theorem dX0_beginTrain_85 : decode cX0_beginTrain 85 = .ok (.ifCond .eq 9, 3) := by decide +kernel
theorem dX0_beginTrain_88 : decode cX0_beginTrain 88 = .ok (.iconst 1, 1) := by decide +kernel
theorem dX0_beginTrain_89 : decode cX0_beginTrain 89 = .ok (.iload_n 1, 1) := by decide +kernel
theorem dX0_beginTrain_90 : decode cX0_beginTrain 90 = .ok (.ishl, 1) := by decide +kernel
theorem dX0_beginTrain_91 : decode cX0_beginTrain 91 = .ok (.goto 4, 3) := by decide +kernel
theorem dX0_beginTrain_94 : decode cX0_beginTrain 94 = .ok (.iconst 0, 1) := by decide +kernel
theorem dX0_beginTrain_95 : decode cX0_beginTrain 95 = .ok (.ior, 1) := by decide +kernel
theorem dX0_beginTrain_96 : decode cX0_beginTrain 96 = .ok (.putfield 63, 3) := by decide +kernel
theorem dX0_beginTrain_99 : decode cX0_beginTrain 99 = .ok (.iconst 0, 1) := by decide +kernel
theorem dX0_beginTrain_100 : decode cX0_beginTrain 100 = .ok (.istore_n 3, 1) := by decide +kernel
theorem dX0_beginTrain_101 : decode cX0_beginTrain 101 = .ok (.iload_n 3, 1) := by decide +kernel
theorem dX0_beginTrain_102 : decode cX0_beginTrain 102 = .ok (.aload_n 0, 1) := by decide +kernel
theorem dX0_beginTrain_103 : decode cX0_beginTrain 103 = .ok (.getfield 12, 3) := by decide +kernel
theorem dX0_beginTrain_106 : decode cX0_beginTrain 106 = .ok (.getfield 137, 3) := by decide +kernel
theorem dX0_beginTrain_109 : decode cX0_beginTrain 109 = .ok (.getfield 141, 3) := by decide +kernel
theorem dX0_beginTrain_112 : decode cX0_beginTrain 112 = .ok (.if_icmp .ge 44, 3) := by decide +kernel
theorem dX0_beginTrain_115 : decode cX0_beginTrain 115 = .ok (.aload_n 0, 1) := by decide +kernel
theorem dX0_beginTrain_116 : decode cX0_beginTrain 116 = .ok (.getfield 35, 3) := by decide +kernel
theorem dX0_beginTrain_119 : decode cX0_beginTrain 119 = .ok (.iload_n 1, 1) := by decide +kernel
theorem dX0_beginTrain_120 : decode cX0_beginTrain 120 = .ok (.bipush 7, 2) := by decide +kernel
theorem dX0_beginTrain_122 : decode cX0_beginTrain 122 = .ok (.imul, 1) := by decide +kernel
theorem dX0_beginTrain_123 : decode cX0_beginTrain 123 = .ok (.iload_n 3, 1) := by decide +kernel
theorem dX0_beginTrain_124 : decode cX0_beginTrain 124 = .ok (.iadd, 1) := by decide +kernel
theorem dX0_beginTrain_125 : decode cX0_beginTrain 125 = .ok (.aload_n 2, 1) := by decide +kernel
theorem dX0_beginTrain_126 : decode cX0_beginTrain 126 = .ok (.getfield 144, 3) := by decide +kernel
theorem dX0_beginTrain_129 : decode cX0_beginTrain 129 = .ok (.iload_n 1, 1) := by decide +kernel
theorem dX0_beginTrain_130 : decode cX0_beginTrain 130 = .ok (.iaload, 1) := by decide +kernel
theorem dX0_beginTrain_131 : decode cX0_beginTrain 131 = .ok (.aload_n 0, 1) := by decide +kernel
theorem dX0_beginTrain_132 : decode cX0_beginTrain 132 = .ok (.getfield 12, 3) := by decide +kernel
theorem dX0_beginTrain_135 : decode cX0_beginTrain 135 = .ok (.getfield 137, 3) := by decide +kernel
theorem dX0_beginTrain_138 : decode cX0_beginTrain 138 = .ok (.aload_n 2, 1) := by decide +kernel
theorem dX0_beginTrain_139 : decode cX0_beginTrain 139 = .ok (.getfield 147, 3) := by decide +kernel
theorem dX0_beginTrain_142 : decode cX0_beginTrain 142 = .ok (.iload_n 1, 1) := by decide +kernel
theorem dX0_beginTrain_143 : decode cX0_beginTrain 143 = .ok (.iaload, 1) := by decide +kernel
theorem dX0_beginTrain_144 : decode cX0_beginTrain 144 = .ok (.iload_n 3, 1) := by decide +kernel
theorem dX0_beginTrain_145 : decode cX0_beginTrain 145 = .ok (.invokevirtual 150, 3) := by decide +kernel
theorem dX0_beginTrain_148 : decode cX0_beginTrain 148 = .ok (.iadd, 1) := by decide +kernel
theorem dX0_beginTrain_149 : decode cX0_beginTrain 149 = .ok (.iastore, 1) := by decide +kernel
theorem dX0_beginTrain_150 : decode cX0_beginTrain 150 = .ok (.iinc 3 1, 3) := by decide +kernel
theorem dX0_beginTrain_153 : decode cX0_beginTrain 153 = .ok (.goto (-52), 3) := by decide +kernel
theorem dX0_beginTrain_156 : decode cX0_beginTrain 156 = .ok (.return_, 1) := by decide +kernel
theorem dX0_isAtStation_0 : decode cX0_isAtStation 0 = .ok (.aload_n 0, 1) := by decide +kernel
theorem dX0_isAtStation_1 : decode cX0_isAtStation 1 = .ok (.getfield 42, 3) := by decide +kernel
theorem dX0_isAtStation_4 : decode cX0_isAtStation 4 = .ok (.iload_n 1, 1) := by decide +kernel
theorem dX0_isAtStation_5 : decode cX0_isAtStation 5 = .ok (.iaload, 1) := by decide +kernel
theorem dX0_isAtStation_6 : decode cX0_isAtStation 6 = .ok (.bipush 100, 2) := by decide +kernel
theorem dX0_isAtStation_8 : decode cX0_isAtStation 8 = .ok (.if_icmp .ge 7, 3) := by decide +kernel
theorem dX0_isAtStation_11 : decode cX0_isAtStation 11 = .ok (.iconst 1, 1) := by decide +kernel
theorem dX0_isAtStation_12 : decode cX0_isAtStation 12 = .ok (.goto 4, 3) := by decide +kernel
theorem dX0_isAtStation_15 : decode cX0_isAtStation 15 = .ok (.iconst 0, 1) := by decide +kernel
theorem dX0_isAtStation_16 : decode cX0_isAtStation 16 = .ok (.ireturn, 1) := by decide +kernel
theorem dX0_isInSection_0 : decode cX0_isInSection 0 = .ok (.aload_n 0, 1) := by decide +kernel
theorem dX0_isInSection_1 : decode cX0_isInSection 1 = .ok (.getfield 42, 3) := by decide +kernel
theorem dX0_isInSection_4 : decode cX0_isInSection 4 = .ok (.iload_n 1, 1) := by decide +kernel
theorem dX0_isInSection_5 : decode cX0_isInSection 5 = .ok (.iaload, 1) := by decide +kernel
theorem dX0_isInSection_6 : decode cX0_isInSection 6 = .ok (.bipush 100, 2) := by decide +kernel
theorem dX0_isInSection_8 : decode cX0_isInSection 8 = .ok (.if_icmp .lt 19, 3) := by decide +kernel
theorem dX0_isInSection_11 : decode cX0_isInSection 11 = .ok (.aload_n 0, 1) := by decide +kernel
theorem dX0_isInSection_12 : decode cX0_isInSection 12 = .ok (.getfield 42, 3) := by decide +kernel
theorem dX0_isInSection_15 : decode cX0_isInSection 15 = .ok (.iload_n 1, 1) := by decide +kernel
theorem dX0_isInSection_16 : decode cX0_isInSection 16 = .ok (.iaload, 1) := by decide +kernel
theorem dX0_isInSection_17 : decode cX0_isInSection 17 = .ok (.sipush 200, 3) := by decide +kernel
theorem dX0_isInSection_20 : decode cX0_isInSection 20 = .ok (.if_icmp .ge 7, 3) := by decide +kernel
theorem dX0_isInSection_23 : decode cX0_isInSection 23 = .ok (.iconst 1, 1) := by decide +kernel
theorem dX0_isInSection_24 : decode cX0_isInSection 24 = .ok (.goto 4, 3) := by decide +kernel
theorem dX0_isInSection_27 : decode cX0_isInSection 27 = .ok (.iconst 0, 1) := by decide +kernel
theorem dX0_isInSection_28 : decode cX0_isInSection 28 = .ok (.ireturn, 1) := by decide +kernel
theorem dX0_letComeIn_0 : decode cX0_letComeIn 0 = .ok (.iconst 0, 1) := by decide +kernel
theorem dX0_letComeIn_1 : decode cX0_letComeIn 1 = .ok (.istore_n 2, 1) := by decide +kernel
theorem dX0_letComeIn_2 : decode cX0_letComeIn 2 = .ok (.iload_n 2, 1) := by decide +kernel
theorem dX0_letComeIn_3 : decode cX0_letComeIn 3 = .ok (.aload_n 0, 1) := by decide +kernel
theorem dX0_letComeIn_4 : decode cX0_letComeIn 4 = .ok (.getfield 12, 3) := by decide +kernel
theorem dX0_letComeIn_7 : decode cX0_letComeIn 7 = .ok (.getfield 80, 3) := by decide +kernel
theorem dX0_letComeIn_10 : decode cX0_letComeIn 10 = .ok (.getfield 84, 3) := by decide +kernel
theorem dX0_letComeIn_13 : decode cX0_letComeIn 13 = .ok (.if_icmp .ge 78, 3) := by decide +kernel
theorem dX0_letComeIn_16 : decode cX0_letComeIn 16 = .ok (.aload_n 0, 1) := by decide +kernel
theorem dX0_letComeIn_17 : decode cX0_letComeIn 17 = .ok (.iload_n 2, 1) := by decide +kernel
theorem dX0_letComeIn_18 : decode cX0_letComeIn 18 = .ok (.invokevirtual 153, 3) := by decide +kernel
theorem dX0_letComeIn_21 : decode cX0_letComeIn 21 = .ok (.ifCond .eq 64, 3) := by decide +kernel
theorem dX0_letComeIn_24 : decode cX0_letComeIn 24 = .ok (.iload_n 1, 1) := by decide +kernel
theorem dX0_letComeIn_25 : decode cX0_letComeIn 25 = .ok (.aload_n 0, 1) := by decide +kernel
theorem dX0_letComeIn_26 : decode cX0_letComeIn 26 = .ok (.getfield 54, 3) := by decide +kernel
theorem dX0_letComeIn_29 : decode cX0_letComeIn 29 = .ok (.iload_n 2, 1) := by decide +kernel
theorem dX0_letComeIn_30 : decode cX0_letComeIn 30 = .ok (.iaload, 1) := by decide +kernel
theorem dX0_letComeIn_31 : decode cX0_letComeIn 31 = .ok (.isub, 1) := by decide +kernel
theorem dX0_letComeIn_32 : decode cX0_letComeIn 32 = .ok (.aload_n 0, 1) := by decide +kernel
theorem dX0_letComeIn_33 : decode cX0_letComeIn 33 = .ok (.getfield 12, 3) := by decide +kernel
theorem dX0_letComeIn_36 : decode cX0_letComeIn 36 = .ok (.getfield 137, 3) := by decide +kernel
theorem dX0_letComeIn_39 : decode cX0_letComeIn 39 = .ok (.getfield 156, 3) := by decide +kernel
theorem dX0_letComeIn_42 : decode cX0_letComeIn 42 = .ok (.aload_n 0, 1) := by decide +kernel
theorem dX0_letComeIn_43 : decode cX0_letComeIn 43 = .ok (.getfield 42, 3) := by decide +kernel
theorem dX0_letComeIn_46 : decode cX0_letComeIn 46 = .ok (.iload_n 2, 1) := by decide +kernel
theorem dX0_letComeIn_47 : decode cX0_letComeIn 47 = .ok (.iaload, 1) := by decide +kernel
theorem dX0_letComeIn_48 : decode cX0_letComeIn 48 = .ok (.bipush 100, 2) := by decide +kernel
theorem dX0_letComeIn_50 : decode cX0_letComeIn 50 = .ok (.isub, 1) := by decide +kernel
theorem dX0_letComeIn_51 : decode cX0_letComeIn 51 = .ok (.iaload, 1) := by decide +kernel
theorem dX0_letComeIn_52 : decode cX0_letComeIn 52 = .ok (.if_icmp .lt 33, 3) := by decide +kernel
theorem dX0_letComeIn_55 : decode cX0_letComeIn 55 = .ok (.aload_n 0, 1) := by decide +kernel
theorem dX0_letComeIn_56 : decode cX0_letComeIn 56 = .ok (.iload_n 2, 1) := by decide +kernel
theorem dX0_letComeIn_57 : decode cX0_letComeIn 57 = .ok (.aload_n 0, 1) := by decide +kernel
theorem dX0_letComeIn_58 : decode cX0_letComeIn 58 = .ok (.getfield 42, 3) := by decide +kernel
theorem dX0_letComeIn_61 : decode cX0_letComeIn 61 = .ok (.iload_n 2, 1) := by decide +kernel
theorem dX0_letComeIn_62 : decode cX0_letComeIn 62 = .ok (.iaload, 1) := by decide +kernel
theorem dX0_letComeIn_63 : decode cX0_letComeIn 63 = .ok (.bipush 100, 2) := by decide +kernel
theorem dX0_letComeIn_65 : decode cX0_letComeIn 65 = .ok (.isub, 1) := by decide +kernel
theorem dX0_letComeIn_66 : decode cX0_letComeIn 66 = .ok (.aload_n 0, 1) := by decide +kernel
theorem dX0_letComeIn_67 : decode cX0_letComeIn 67 = .ok (.getfield 45, 3) := by decide +kernel
theorem dX0_letComeIn_70 : decode cX0_letComeIn 70 = .ok (.iload_n 2, 1) := by decide +kernel
theorem dX0_letComeIn_71 : decode cX0_letComeIn 71 = .ok (.iaload, 1) := by decide +kernel
theorem dX0_letComeIn_72 : decode cX0_letComeIn 72 = .ok (.ifCond .ne 7, 3) := by decide +kernel
theorem dX0_letComeIn_75 : decode cX0_letComeIn 75 = .ok (.iconst 1, 1) := by decide +kernel
theorem dX0_letComeIn_76 : decode cX0_letComeIn 76 = .ok (.goto 4, 3) := by decide +kernel
theorem dX0_letComeIn_79 : decode cX0_letComeIn 79 = .ok (.iconst 0, 1) := by decide +kernel
theorem dX0_letComeIn_80 : decode cX0_letComeIn 80 = .ok (.iadd, 1) := by decide +kernel
theorem dX0_letComeIn_81 : decode cX0_letComeIn 81 = .ok (.iload_n 1, 1) := by decide +kernel
theorem dX0_letComeIn_82 : decode cX0_letComeIn 82 = .ok (.invokevirtual 159, 3) := by decide +kernel
theorem dX0_letComeIn_85 : decode cX0_letComeIn 85 = .ok (.iinc 2 1, 3) := by decide +kernel
theorem dX0_letComeIn_88 : decode cX0_letComeIn 88 = .ok (.goto (-86), 3) := by decide +kernel
theorem dX0_letComeIn_91 : decode cX0_letComeIn 91 = .ok (.return_, 1) := by decide +kernel
theorem dX0_comeIn_0 : decode cX0_comeIn 0 = .ok (.aload_n 0, 1) := by decide +kernel
theorem dX0_comeIn_1 : decode cX0_comeIn 1 = .ok (.getfield 21, 3) := by decide +kernel
theorem dX0_comeIn_4 : decode cX0_comeIn 4 = .ok (.iload_n 1, 1) := by decide +kernel
theorem dX0_comeIn_5 : decode cX0_comeIn 5 = .ok (.iload_n 2, 1) := by decide +kernel
theorem dX0_comeIn_6 : decode cX0_comeIn 6 = .ok (.iload_n 3, 1) := by decide +kernel
theorem dX0_comeIn_7 : decode cX0_comeIn 7 = .ok (.invokevirtual 162, 3) := by decide +kernel
theorem dX0_comeIn_10 : decode cX0_comeIn 10 = .ok (.iload_n 2, 1) := by decide +kernel
theorem dX0_comeIn_11 : decode cX0_comeIn 11 = .ok (.aload_n 0, 1) := by decide +kernel
theorem dX0_comeIn_12 : decode cX0_comeIn 12 = .ok (.getfield 51, 3) := by decide +kernel
theorem dX0_comeIn_15 : decode cX0_comeIn 15 = .ok (.iload_n 1, 1) := by decide +kernel
theorem dX0_comeIn_16 : decode cX0_comeIn 16 = .ok (.iaload, 1) := by decide +kernel
theorem dX0_comeIn_17 : decode cX0_comeIn 17 = .ok (.if_icmp .ne 47, 3) := by decide +kernel
theorem dX0_comeIn_20 : decode cX0_comeIn 20 = .ok (.aload_n 0, 1) := by decide +kernel
theorem dX0_comeIn_21 : decode cX0_comeIn 21 = .ok (.getfield 12, 3) := by decide +kernel
theorem dX0_comeIn_24 : decode cX0_comeIn 24 = .ok (.getfield 80, 3) := by decide +kernel
theorem dX0_comeIn_27 : decode cX0_comeIn 27 = .ok (.getfield 165, 3) := by decide +kernel
theorem dX0_comeIn_30 : decode cX0_comeIn 30 = .ok (.iload_n 1, 1) := by decide +kernel
theorem dX0_comeIn_31 : decode cX0_comeIn 31 = .ok (.iaload, 1) := by decide +kernel
theorem dX0_comeIn_32 : decode cX0_comeIn 32 = .ok (.iconst 3, 1) := by decide +kernel
theorem dX0_comeIn_33 : decode cX0_comeIn 33 = .ok (.if_icmp .ne 19, 3) := by decide +kernel
theorem dX0_comeIn_36 : decode cX0_comeIn 36 = .ok (.iload_n 2, 1) := by decide +kernel
theorem dX0_comeIn_37 : decode cX0_comeIn 37 = .ok (.aload_n 0, 1) := by decide +kernel
theorem dX0_comeIn_38 : decode cX0_comeIn 38 = .ok (.getfield 12, 3) := by decide +kernel
theorem dX0_comeIn_41 : decode cX0_comeIn 41 = .ok (.getfield 80, 3) := by decide +kernel
theorem dX0_comeIn_44 : decode cX0_comeIn 44 = .ok (.getfield 129, 3) := by decide +kernel
theorem dX0_comeIn_47 : decode cX0_comeIn 47 = .ok (.iload_n 1, 1) := by decide +kernel
theorem dX0_comeIn_48 : decode cX0_comeIn 48 = .ok (.iaload, 1) := by decide +kernel
theorem dX0_comeIn_49 : decode cX0_comeIn 49 = .ok (.if_icmp .eq 10, 3) := by decide +kernel
theorem dX0_comeIn_52 : decode cX0_comeIn 52 = .ok (.aload_n 0, 1) := by decide +kernel
theorem dX0_comeIn_53 : decode cX0_comeIn 53 = .ok (.iload_n 1, 1) := by decide +kernel
theorem dX0_comeIn_54 : decode cX0_comeIn 54 = .ok (.iload_n 3, 1) := by decide +kernel
theorem dX0_comeIn_55 : decode cX0_comeIn 55 = .ok (.invokevirtual 168, 3) := by decide +kernel
theorem dX0_comeIn_58 : decode cX0_comeIn 58 = .ok (.return_, 1) := by decide +kernel
theorem dX0_comeIn_59 : decode cX0_comeIn 59 = .ok (.aload_n 0, 1) := by decide +kernel
theorem dX0_comeIn_60 : decode cX0_comeIn 60 = .ok (.iload_n 1, 1) := by decide +kernel
theorem dX0_comeIn_61 : decode cX0_comeIn 61 = .ok (.invokevirtual 171, 3) := by decide +kernel
theorem dX0_comeIn_64 : decode cX0_comeIn 64 = .ok (.aload_n 0, 1) := by decide +kernel
theorem dX0_comeIn_65 : decode cX0_comeIn 65 = .ok (.iload_n 1, 1) := by decide +kernel
theorem dX0_comeIn_66 : decode cX0_comeIn 66 = .ok (.iload_n 2, 1) := by decide +kernel
theorem dX0_comeIn_67 : decode cX0_comeIn 67 = .ok (.invokevirtual 174, 3) := by decide +kernel
theorem dX0_comeIn_70 : decode cX0_comeIn 70 = .ok (.ifCond .eq 16, 3) := by decide +kernel
theorem dX0_comeIn_73 : decode cX0_comeIn 73 = .ok (.aload_n 0, 1) := by decide +kernel
theorem dX0_comeIn_74 : decode cX0_comeIn 74 = .ok (.getfield 21, 3) := by decide +kernel
theorem dX0_comeIn_77 : decode cX0_comeIn 77 = .ok (.dup, 1) := by decide +kernel
theorem dX0_comeIn_78 : decode cX0_comeIn 78 = .ok (.getfield 178, 3) := by decide +kernel
theorem dX0_comeIn_81 : decode cX0_comeIn 81 = .ok (.iconst 1, 1) := by decide +kernel
theorem dX0_comeIn_82 : decode cX0_comeIn 82 = .ok (.iadd, 1) := by decide +kernel
theorem dX0_comeIn_83 : decode cX0_comeIn 83 = .ok (.putfield 178, 3) := by decide +kernel
theorem dX0_comeIn_86 : decode cX0_comeIn 86 = .ok (.aload_n 0, 1) := by decide +kernel
theorem dX0_comeIn_87 : decode cX0_comeIn 87 = .ok (.iload_n 1, 1) := by decide +kernel
theorem dX0_comeIn_88 : decode cX0_comeIn 88 = .ok (.iload_n 2, 1) := by decide +kernel
theorem dX0_comeIn_89 : decode cX0_comeIn 89 = .ok (.invokevirtual 181, 3) := by decide +kernel
theorem dX0_comeIn_92 : decode cX0_comeIn 92 = .ok (.return_, 1) := by decide +kernel
theorem dX0_goOff_0 : decode cX0_goOff 0 = .ok (.aload_n 0, 1) := by decide +kernel
theorem dX0_goOff_1 : decode cX0_goOff 1 = .ok (.getfield 42, 3) := by decide +kernel
theorem dX0_goOff_4 : decode cX0_goOff 4 = .ok (.iload_n 1, 1) := by decide +kernel
theorem dX0_goOff_5 : decode cX0_goOff 5 = .ok (.sipush 300, 3) := by decide +kernel
theorem dX0_goOff_8 : decode cX0_goOff 8 = .ok (.iastore, 1) := by decide +kernel
theorem dX0_goOff_9 : decode cX0_goOff 9 = .ok (.aload_n 0, 1) := by decide +kernel
theorem dX0_goOff_10 : decode cX0_goOff 10 = .ok (.dup, 1) := by decide +kernel
theorem dX0_goOff_11 : decode cX0_goOff 11 = .ok (.getfield 67, 3) := by decide +kernel
theorem dX0_goOff_14 : decode cX0_goOff 14 = .ok (.iconst 1, 1) := by decide +kernel
theorem dX0_goOff_15 : decode cX0_goOff 15 = .ok (.iload_n 1, 1) := by decide +kernel
theorem dX0_goOff_16 : decode cX0_goOff 16 = .ok (.ishl, 1) := by decide +kernel
theorem dX0_goOff_17 : decode cX0_goOff 17 = .ok (.ior, 1) := by decide +kernel
theorem dX0_goOff_18 : decode cX0_goOff 18 = .ok (.putfield 67, 3) := by decide +kernel
theorem dX0_goOff_21 : decode cX0_goOff 21 = .ok (.aload_n 0, 1) := by decide +kernel
theorem dX0_goOff_22 : decode cX0_goOff 22 = .ok (.getfield 35, 3) := by decide +kernel
theorem dX0_goOff_25 : decode cX0_goOff 25 = .ok (.iload_n 1, 1) := by decide +kernel
theorem dX0_goOff_26 : decode cX0_goOff 26 = .ok (.bipush 7, 2) := by decide +kernel
theorem dX0_goOff_28 : decode cX0_goOff 28 = .ok (.imul, 1) := by decide +kernel
theorem dX0_goOff_29 : decode cX0_goOff 29 = .ok (.aload_n 0, 1) := by decide +kernel
theorem dX0_goOff_30 : decode cX0_goOff 30 = .ok (.getfield 12, 3) := by decide +kernel
theorem dX0_goOff_33 : decode cX0_goOff 33 = .ok (.getfield 80, 3) := by decide +kernel
theorem dX0_goOff_36 : decode cX0_goOff 36 = .ok (.getfield 129, 3) := by decide +kernel
theorem dX0_goOff_39 : decode cX0_goOff 39 = .ok (.iload_n 1, 1) := by decide +kernel
theorem dX0_goOff_40 : decode cX0_goOff 40 = .ok (.iaload, 1) := by decide +kernel
theorem dX0_goOff_41 : decode cX0_goOff 41 = .ok (.iadd, 1) := by decide +kernel
theorem dX0_goOff_42 : decode cX0_goOff 42 = .ok (.iaload, 1) := by decide +kernel
theorem dX0_goOff_43 : decode cX0_goOff 43 = .ok (.istore_n 3, 1) := by decide +kernel
theorem dX0_goOff_44 : decode cX0_goOff 44 = .ok (.aload_n 0, 1) := by decide +kernel
theorem dX0_goOff_45 : decode cX0_goOff 45 = .ok (.getfield 12, 3) := by decide +kernel
theorem dX0_goOff_48 : decode cX0_goOff 48 = .ok (.getfield 80, 3) := by decide +kernel
theorem dX0_goOff_51 : decode cX0_goOff 51 = .ok (.getfield 165, 3) := by decide +kernel
theorem dX0_goOff_54 : decode cX0_goOff 54 = .ok (.iload_n 1, 1) := by decide +kernel
theorem dX0_goOff_55 : decode cX0_goOff 55 = .ok (.iaload, 1) := by decide +kernel
theorem dX0_goOff_56 : decode cX0_goOff 56 = .ok (.iconst 3, 1) := by decide +kernel
theorem dX0_goOff_57 : decode cX0_goOff 57 = .ok (.if_icmp .ne 20, 3) := by decide +kernel
theorem dX0_goOff_60 : decode cX0_goOff 60 = .ok (.iload_n 3, 1) := by decide +kernel
theorem dX0_goOff_61 : decode cX0_goOff 61 = .ok (.iload_n 3, 1) := by decide +kernel
theorem dX0_goOff_62 : decode cX0_goOff 62 = .ok (.aload_n 0, 1) := by decide +kernel
theorem dX0_goOff_63 : decode cX0_goOff 63 = .ok (.getfield 12, 3) := by decide +kernel
theorem dX0_goOff_66 : decode cX0_goOff 66 = .ok (.getfield 80, 3) := by decide +kernel
theorem dX0_goOff_69 : decode cX0_goOff 69 = .ok (.getfield 144, 3) := by decide +kernel
theorem dX0_goOff_72 : decode cX0_goOff 72 = .ok (.iload_n 1, 1) := by decide +kernel
theorem dX0_goOff_73 : decode cX0_goOff 73 = .ok (.iaload, 1) := by decide +kernel
theorem dX0_goOff_74 : decode cX0_goOff 74 = .ok (.isub, 1) := by decide +kernel
theorem dX0_goOff_75 : decode cX0_goOff 75 = .ok (.iadd, 1) := by decide +kernel
theorem dX0_goOff_76 : decode cX0_goOff 76 = .ok (.istore_n 3, 1) := by decide +kernel
theorem dX0_goOff_77 : decode cX0_goOff 77 = .ok (.aload_n 0, 1) := by decide +kernel
theorem dX0_goOff_78 : decode cX0_goOff 78 = .ok (.getfield 21, 3) := by decide +kernel
theorem dX0_goOff_81 : decode cX0_goOff 81 = .ok (.dup, 1) := by decide +kernel
theorem dX0_goOff_82 : decode cX0_goOff 82 = .ok (.getfield 119, 3) := by decide +kernel
theorem dX0_goOff_85 : decode cX0_goOff 85 = .ok (.iload_n 2, 1) := by decide +kernel
theorem dX0_goOff_86 : decode cX0_goOff 86 = .ok (.iload_n 3, 1) := by decide +kernel
theorem dX0_goOff_87 : decode cX0_goOff 87 = .ok (.isub, 1) := by decide +kernel
theorem dX0_goOff_88 : decode cX0_goOff 88 = .ok (.sipush 1000, 3) := by decide +kernel
theorem dX0_goOff_91 : decode cX0_goOff 91 = .ok (.isub, 1) := by decide +kernel
theorem dX0_goOff_92 : decode cX0_goOff 92 = .ok (.iadd, 1) := by decide +kernel
theorem dX0_goOff_93 : decode cX0_goOff 93 = .ok (.putfield 119, 3) := by decide +kernel
theorem dX0_goOff_96 : decode cX0_goOff 96 = .ok (.return_, 1) := by decide +kernel
theorem dX0_turnBack_0 : decode cX0_turnBack 0 = .ok (.aload_n 0, 1) := by decide +kernel
theorem dX0_turnBack_1 : decode cX0_turnBack 1 = .ok (.getfield 45, 3) := by decide +kernel
theorem dX0_turnBack_4 : decode cX0_turnBack 4 = .ok (.iload_n 1, 1) := by decide +kernel
theorem dX0_turnBack_5 : decode cX0_turnBack 5 = .ok (.iconst 1, 1) := by decide +kernel
theorem dX0_turnBack_6 : decode cX0_turnBack 6 = .ok (.aload_n 0, 1) := by decide +kernel
theorem dX0_turnBack_7 : decode cX0_turnBack 7 = .ok (.getfield 45, 3) := by decide +kernel
theorem dX0_turnBack_10 : decode cX0_turnBack 10 = .ok (.iload_n 1, 1) := by decide +kernel
theorem dX0_turnBack_11 : decode cX0_turnBack 11 = .ok (.iaload, 1) := by decide +kernel
theorem dX0_turnBack_12 : decode cX0_turnBack 12 = .ok (.isub, 1) := by decide +kernel
theorem dX0_turnBack_13 : decode cX0_turnBack 13 = .ok (.iastore, 1) := by decide +kernel
theorem dX0_turnBack_14 : decode cX0_turnBack 14 = .ok (.aload_n 0, 1) := by decide +kernel
theorem dX0_turnBack_15 : decode cX0_turnBack 15 = .ok (.getfield 48, 3) := by decide +kernel
theorem dX0_turnBack_18 : decode cX0_turnBack 18 = .ok (.iload_n 1, 1) := by decide +kernel
theorem dX0_turnBack_19 : decode cX0_turnBack 19 = .ok (.aload_n 0, 1) := by decide +kernel
theorem dX0_turnBack_20 : decode cX0_turnBack 20 = .ok (.getfield 12, 3) := by decide +kernel
theorem dX0_turnBack_23 : decode cX0_turnBack 23 = .ok (.getfield 80, 3) := by decide +kernel
theorem dX0_turnBack_26 : decode cX0_turnBack 26 = .ok (.iload_n 1, 1) := by decide +kernel
theorem dX0_turnBack_27 : decode cX0_turnBack 27 = .ok (.aload_n 0, 1) := by decide +kernel
theorem dX0_turnBack_28 : decode cX0_turnBack 28 = .ok (.getfield 45, 3) := by decide +kernel
theorem dX0_turnBack_31 : decode cX0_turnBack 31 = .ok (.iload_n 1, 1) := by decide +kernel
theorem dX0_turnBack_32 : decode cX0_turnBack 32 = .ok (.iaload, 1) := by decide +kernel
theorem dX0_turnBack_33 : decode cX0_turnBack 33 = .ok (.invokevirtual 126, 3) := by decide +kernel
theorem dX0_turnBack_36 : decode cX0_turnBack 36 = .ok (.iastore, 1) := by decide +kernel
theorem dX0_turnBack_37 : decode cX0_turnBack 37 = .ok (.aload_n 0, 1) := by decide +kernel
theorem dX0_turnBack_38 : decode cX0_turnBack 38 = .ok (.getfield 51, 3) := by decide +kernel
theorem dX0_turnBack_41 : decode cX0_turnBack 41 = .ok (.iload_n 1, 1) := by decide +kernel
theorem dX0_turnBack_42 : decode cX0_turnBack 42 = .ok (.aload_n 0, 1) := by decide +kernel
theorem dX0_turnBack_43 : decode cX0_turnBack 43 = .ok (.getfield 12, 3) := by decide +kernel
theorem dX0_turnBack_46 : decode cX0_turnBack 46 = .ok (.getfield 80, 3) := by decide +kernel
theorem dX0_turnBack_49 : decode cX0_turnBack 49 = .ok (.getfield 147, 3) := by decide +kernel
theorem dX0_turnBack_52 : decode cX0_turnBack 52 = .ok (.iload_n 1, 1) := by decide +kernel
theorem dX0_turnBack_53 : decode cX0_turnBack 53 = .ok (.iaload, 1) := by decide +kernel
theorem dX0_turnBack_54 : decode cX0_turnBack 54 = .ok (.iastore, 1) := by decide +kernel
theorem dX0_turnBack_55 : decode cX0_turnBack 55 = .ok (.return_, 1) := by decide +kernel
theorem dX0_stand_0 : decode cX0_stand 0 = .ok (.aload_n 0, 1) := by decide +kernel
theorem dX0_stand_1 : decode cX0_stand 1 = .ok (.getfield 42, 3) := by decide +kernel
theorem dX0_stand_4 : decode cX0_stand 4 = .ok (.iload_n 1, 1) := by decide +kernel
theorem dX0_stand_5 : decode cX0_stand 5 = .ok (.iload_n 2, 1) := by decide +kernel
theorem dX0_stand_6 : decode cX0_stand 6 = .ok (.iastore, 1) := by decide +kernel
theorem dX0_stand_7 : decode cX0_stand 7 = .ok (.aload_n 0, 1) := by decide +kernel
theorem dX0_stand_8 : decode cX0_stand 8 = .ok (.getfield 57, 3) := by decide +kernel
theorem dX0_stand_11 : decode cX0_stand 11 = .ok (.aload_n 0, 1) := by decide +kernel
theorem dX0_stand_12 : decode cX0_stand 12 = .ok (.getfield 45, 3) := by decide +kernel
theorem dX0_stand_15 : decode cX0_stand 15 = .ok (.iload_n 1, 1) := by decide +kernel
theorem dX0_stand_16 : decode cX0_stand 16 = .ok (.iaload, 1) := by decide +kernel
theorem dX0_stand_17 : decode cX0_stand 17 = .ok (.bipush 7, 2) := by decide +kernel
theorem dX0_stand_19 : decode cX0_stand 19 = .ok (.imul, 1) := by decide +kernel
theorem dX0_stand_20 : decode cX0_stand 20 = .ok (.iload_n 2, 1) := by decide +kernel
theorem dX0_stand_21 : decode cX0_stand 21 = .ok (.iadd, 1) := by decide +kernel
theorem dX0_stand_22 : decode cX0_stand 22 = .ok (.dup2, 1) := by decide +kernel
theorem dX0_stand_23 : decode cX0_stand 23 = .ok (.iaload, 1) := by decide +kernel
theorem dX0_stand_24 : decode cX0_stand 24 = .ok (.iconst 1, 1) := by decide +kernel
theorem dX0_stand_25 : decode cX0_stand 25 = .ok (.iload_n 1, 1) := by decide +kernel
theorem dX0_stand_26 : decode cX0_stand 26 = .ok (.ishl, 1) := by decide +kernel
theorem dX0_stand_27 : decode cX0_stand 27 = .ok (.ior, 1) := by decide +kernel
theorem dX0_stand_28 : decode cX0_stand 28 = .ok (.iastore, 1) := by decide +kernel
theorem dX0_stand_29 : decode cX0_stand 29 = .ok (.return_, 1) := by decide +kernel
theorem dX0_isFoul_0 : decode cX0_isFoul 0 = .ok (.aload_n 0, 1) := by decide +kernel
theorem dX0_isFoul_1 : decode cX0_isFoul 1 = .ok (.getfield 12, 3) := by decide +kernel
theorem dX0_isFoul_4 : decode cX0_isFoul 4 = .ok (.getfield 137, 3) := by decide +kernel
theorem dX0_isFoul_7 : decode cX0_isFoul 7 = .ok (.getfield 184, 3) := by decide +kernel
theorem dX0_isFoul_10 : decode cX0_isFoul 10 = .ok (.iload_n 2, 1) := by decide +kernel
theorem dX0_isFoul_11 : decode cX0_isFoul 11 = .ok (.iaload, 1) := by decide +kernel
theorem dX0_isFoul_12 : decode cX0_isFoul 12 = .ok (.istore_n 3, 1) := by decide +kernel
theorem dX0_isFoul_13 : decode cX0_isFoul 13 = .ok (.iconst 0, 1) := by decide +kernel
theorem dX0_isFoul_14 : decode cX0_isFoul 14 = .ok (.istore 4, 2) := by decide +kernel
theorem dX0_isFoul_16 : decode cX0_isFoul 16 = .ok (.aload_n 0, 1) := by decide +kernel
theorem dX0_isFoul_17 : decode cX0_isFoul 17 = .ok (.getfield 12, 3) := by decide +kernel
theorem dX0_isFoul_20 : decode cX0_isFoul 20 = .ok (.getfield 80, 3) := by decide +kernel
theorem dX0_isFoul_23 : decode cX0_isFoul 23 = .ok (.getfield 187, 3) := by decide +kernel
theorem dX0_isFoul_26 : decode cX0_isFoul 26 = .ok (.iload_n 1, 1) := by decide +kernel
theorem dX0_isFoul_27 : decode cX0_isFoul 27 = .ok (.iaload, 1) := by decide +kernel
theorem dX0_isFoul_28 : decode cX0_isFoul 28 = .ok (.iload_n 3, 1) := by decide +kernel
theorem dX0_isFoul_29 : decode cX0_isFoul 29 = .ok (.if_icmp .gt 7, 3) := by decide +kernel
theorem dX0_isFoul_32 : decode cX0_isFoul 32 = .ok (.iconst 1, 1) := by decide +kernel
theorem dX0_isFoul_33 : decode cX0_isFoul 33 = .ok (.goto 4, 3) := by decide +kernel
theorem dX0_isFoul_36 : decode cX0_isFoul 36 = .ok (.iconst 0, 1) := by decide +kernel
theorem dX0_isFoul_37 : decode cX0_isFoul 37 = .ok (.istore 5, 2) := by decide +kernel
theorem dX0_isFoul_39 : decode cX0_isFoul 39 = .ok (.iconst 0, 1) := by decide +kernel
theorem dX0_isFoul_40 : decode cX0_isFoul 40 = .ok (.istore 6, 2) := by decide +kernel
theorem dX0_isFoul_42 : decode cX0_isFoul 42 = .ok (.iload 6, 2) := by decide +kernel
theorem dX0_isFoul_44 : decode cX0_isFoul 44 = .ok (.aload_n 0, 1) := by decide +kernel
theorem dX0_isFoul_45 : decode cX0_isFoul 45 = .ok (.getfield 12, 3) := by decide +kernel
theorem dX0_isFoul_48 : decode cX0_isFoul 48 = .ok (.getfield 80, 3) := by decide +kernel
theorem dX0_isFoul_51 : decode cX0_isFoul 51 = .ok (.getfield 84, 3) := by decide +kernel
theorem dX0_isFoul_54 : decode cX0_isFoul 54 = .ok (.if_icmp .ge 58, 3) := by decide +kernel
theorem dX0_isFoul_57 : decode cX0_isFoul 57 = .ok (.iload 6, 2) := by decide +kernel
theorem dX0_isFoul_59 : decode cX0_isFoul 59 = .ok (.iload_n 1, 1) := by decide +kernel
theorem dX0_isFoul_60 : decode cX0_isFoul 60 = .ok (.if_icmp .eq 46, 3) := by decide +kernel
theorem dX0_isFoul_63 : decode cX0_isFoul 63 = .ok (.aload_n 0, 1) := by decide +kernel
theorem dX0_isFoul_64 : decode cX0_isFoul 64 = .ok (.getfield 42, 3) := by decide +kernel
theorem dX0_isFoul_67 : decode cX0_isFoul 67 = .ok (.iload 6, 2) := by decide +kernel
theorem dX0_isFoul_69 : decode cX0_isFoul 69 = .ok (.iaload, 1) := by decide +kernel
theorem dX0_isFoul_70 : decode cX0_isFoul 70 = .ok (.iload_n 2, 1) := by decide +kernel
theorem dX0_isFoul_71 : decode cX0_isFoul 71 = .ok (.if_icmp .ne 35, 3) := by decide +kernel
theorem dX0_isFoul_74 : decode cX0_isFoul 74 = .ok (.iinc 4 1, 3) := by decide +kernel
theorem dX0_isFoul_77 : decode cX0_isFoul 77 = .ok (.iload 5, 2) := by decide +kernel
theorem dX0_isFoul_79 : decode cX0_isFoul 79 = .ok (.ifCond .ne 20, 3) := by decide +kernel
theorem dX0_isFoul_82 : decode cX0_isFoul 82 = .ok (.aload_n 0, 1) := by decide +kernel
theorem dX0_isFoul_83 : decode cX0_isFoul 83 = .ok (.getfield 12, 3) := by decide +kernel
theorem dX0_isFoul_86 : decode cX0_isFoul 86 = .ok (.getfield 80, 3) := by decide +kernel
theorem dX0_isFoul_89 : decode cX0_isFoul 89 = .ok (.getfield 187, 3) := by decide +kernel
theorem dX0_isFoul_92 : decode cX0_isFoul 92 = .ok (.iload 6, 2) := by decide +kernel
theorem dX0_isFoul_94 : decode cX0_isFoul 94 = .ok (.iaload, 1) := by decide +kernel
theorem dX0_isFoul_95 : decode cX0_isFoul 95 = .ok (.iload_n 3, 1) := by decide +kernel
theorem dX0_isFoul_96 : decode cX0_isFoul 96 = .ok (.if_icmp .gt 7, 3) := by decide +kernel
theorem dX0_isFoul_99 : decode cX0_isFoul 99 = .ok (.iconst 1, 1) := by decide +kernel
theorem dX0_isFoul_100 : decode cX0_isFoul 100 = .ok (.goto 4, 3) := by decide +kernel
theorem dX0_isFoul_103 : decode cX0_isFoul 103 = .ok (.iconst 0, 1) := by decide +kernel
theorem dX0_isFoul_104 : decode cX0_isFoul 104 = .ok (.istore 5, 2) := by decide +kernel
theorem dX0_isFoul_106 : decode cX0_isFoul 106 = .ok (.iinc 6 1, 3) := by decide +kernel
theorem dX0_isFoul_109 : decode cX0_isFoul 109 = .ok (.goto (-67), 3) := by decide +kernel
theorem dX0_isFoul_112 : decode cX0_isFoul 112 = .ok (.iload 4, 2) := by decide +kernel
theorem dX0_isFoul_114 : decode cX0_isFoul 114 = .ok (.iconst 2, 1) := by decide +kernel
theorem dX0_isFoul_115 : decode cX0_isFoul 115 = .ok (.if_icmp .ge 14, 3) := by decide +kernel
theorem dX0_isFoul_118 : decode cX0_isFoul 118 = .ok (.iload 4, 2) := by decide +kernel
theorem dX0_isFoul_120 : decode cX0_isFoul 120 = .ok (.iconst 1, 1) := by decide +kernel
theorem dX0_isFoul_121 : decode cX0_isFoul 121 = .ok (.if_icmp .ne 12, 3) := by decide +kernel
theorem dX0_isFoul_124 : decode cX0_isFoul 124 = .ok (.iload 5, 2) := by decide +kernel
theorem dX0_isFoul_126 : decode cX0_isFoul 126 = .ok (.ifCond .ne 7, 3) := by decide +kernel
theorem dX0_isFoul_129 : decode cX0_isFoul 129 = .ok (.iconst 1, 1) := by decide +kernel
theorem dX0_isFoul_130 : decode cX0_isFoul 130 = .ok (.goto 4, 3) := by decide +kernel
theorem dX0_isFoul_133 : decode cX0_isFoul 133 = .ok (.iconst 0, 1) := by decide +kernel
theorem dX0_isFoul_134 : decode cX0_isFoul 134 = .ok (.ireturn, 1) := by decide +kernel
theorem dX0_letAppear_0 : decode cX0_letAppear 0 = .ok (.iconst 0, 1) := by decide +kernel
theorem dX0_letAppear_1 : decode cX0_letAppear 1 = .ok (.istore_n 2, 1) := by decide +kernel
theorem dX0_letAppear_2 : decode cX0_letAppear 2 = .ok (.iload_n 2, 1) := by decide +kernel
theorem dX0_letAppear_3 : decode cX0_letAppear 3 = .ok (.aload_n 0, 1) := by decide +kernel
theorem dX0_letAppear_4 : decode cX0_letAppear 4 = .ok (.getfield 12, 3) := by decide +kernel
theorem dX0_letAppear_7 : decode cX0_letAppear 7 = .ok (.getfield 80, 3) := by decide +kernel
theorem dX0_letAppear_10 : decode cX0_letAppear 10 = .ok (.getfield 84, 3) := by decide +kernel
theorem dX0_letAppear_13 : decode cX0_letAppear 13 = .ok (.if_icmp .ge 75, 3) := by decide +kernel
theorem dX0_letAppear_16 : decode cX0_letAppear 16 = .ok (.aload_n 0, 1) := by decide +kernel
theorem dX0_letAppear_17 : decode cX0_letAppear 17 = .ok (.getfield 42, 3) := by decide +kernel
theorem dX0_letAppear_20 : decode cX0_letAppear 20 = .ok (.iload_n 2, 1) := by decide +kernel
theorem dX0_letAppear_21 : decode cX0_letAppear 21 = .ok (.iaload, 1) := by decide +kernel
theorem dX0_letAppear_22 : decode cX0_letAppear 22 = .ok (.sipush 200, 3) := by decide +kernel
theorem dX0_letAppear_25 : decode cX0_letAppear 25 = .ok (.if_icmp .ne 57, 3) := by decide +kernel
theorem dX0_letAppear_28 : decode cX0_letAppear 28 = .ok (.aload_n 0, 1) := by decide +kernel
theorem dX0_letAppear_29 : decode cX0_letAppear 29 = .ok (.getfield 12, 3) := by decide +kernel
theorem dX0_letAppear_32 : decode cX0_letAppear 32 = .ok (.getfield 80, 3) := by decide +kernel
theorem dX0_letAppear_35 : decode cX0_letAppear 35 = .ok (.getfield 144, 3) := by decide +kernel
theorem dX0_letAppear_38 : decode cX0_letAppear 38 = .ok (.iload_n 2, 1) := by decide +kernel
theorem dX0_letAppear_39 : decode cX0_letAppear 39 = .ok (.iaload, 1) := by decide +kernel
theorem dX0_letAppear_40 : decode cX0_letAppear 40 = .ok (.iload_n 1, 1) := by decide +kernel
theorem dX0_letAppear_41 : decode cX0_letAppear 41 = .ok (.if_icmp .ne 41, 3) := by decide +kernel
theorem dX0_letAppear_44 : decode cX0_letAppear 44 = .ok (.aload_n 0, 1) := by decide +kernel
theorem dX0_letAppear_45 : decode cX0_letAppear 45 = .ok (.getfield 21, 3) := by decide +kernel
theorem dX0_letAppear_48 : decode cX0_letAppear 48 = .ok (.iload_n 2, 1) := by decide +kernel
theorem dX0_letAppear_49 : decode cX0_letAppear 49 = .ok (.aload_n 0, 1) := by decide +kernel
theorem dX0_letAppear_50 : decode cX0_letAppear 50 = .ok (.getfield 12, 3) := by decide +kernel
theorem dX0_letAppear_53 : decode cX0_letAppear 53 = .ok (.getfield 80, 3) := by decide +kernel
theorem dX0_letAppear_56 : decode cX0_letAppear 56 = .ok (.getfield 147, 3) := by decide +kernel
theorem dX0_letAppear_59 : decode cX0_letAppear 59 = .ok (.iload_n 2, 1) := by decide +kernel
theorem dX0_letAppear_60 : decode cX0_letAppear 60 = .ok (.iaload, 1) := by decide +kernel
theorem dX0_letAppear_61 : decode cX0_letAppear 61 = .ok (.iload_n 1, 1) := by decide +kernel
theorem dX0_letAppear_62 : decode cX0_letAppear 62 = .ok (.invokevirtual 162, 3) := by decide +kernel
theorem dX0_letAppear_65 : decode cX0_letAppear 65 = .ok (.aload_n 0, 1) := by decide +kernel
theorem dX0_letAppear_66 : decode cX0_letAppear 66 = .ok (.iload_n 2, 1) := by decide +kernel
theorem dX0_letAppear_67 : decode cX0_letAppear 67 = .ok (.aload_n 0, 1) := by decide +kernel
theorem dX0_letAppear_68 : decode cX0_letAppear 68 = .ok (.getfield 12, 3) := by decide +kernel
theorem dX0_letAppear_71 : decode cX0_letAppear 71 = .ok (.getfield 80, 3) := by decide +kernel
theorem dX0_letAppear_74 : decode cX0_letAppear 74 = .ok (.getfield 147, 3) := by decide +kernel
theorem dX0_letAppear_77 : decode cX0_letAppear 77 = .ok (.iload_n 2, 1) := by decide +kernel
theorem dX0_letAppear_78 : decode cX0_letAppear 78 = .ok (.iaload, 1) := by decide +kernel
theorem dX0_letAppear_79 : decode cX0_letAppear 79 = .ok (.invokevirtual 181, 3) := by decide +kernel
theorem dX0_letAppear_82 : decode cX0_letAppear 82 = .ok (.iinc 2 1, 3) := by decide +kernel
theorem dX0_letAppear_85 : decode cX0_letAppear 85 = .ok (.goto (-83), 3) := by decide +kernel
theorem dX0_letAppear_88 : decode cX0_letAppear 88 = .ok (.return_, 1) := by decide +kernel
theorem dX0_letLeave_0 : decode cX0_letLeave 0 = .ok (.iconst 0, 1) := by decide +kernel
theorem dX0_letLeave_1 : decode cX0_letLeave 1 = .ok (.istore_n 2, 1) := by decide +kernel
theorem dX0_letLeave_2 : decode cX0_letLeave 2 = .ok (.iconst 0, 1) := by decide +kernel
theorem dX0_letLeave_3 : decode cX0_letLeave 3 = .ok (.istore_n 3, 1) := by decide +kernel
theorem dX0_letLeave_4 : decode cX0_letLeave 4 = .ok (.iload_n 3, 1) := by decide +kernel
theorem dX0_letLeave_5 : decode cX0_letLeave 5 = .ok (.aload_n 0, 1) := by decide +kernel
theorem dX0_letLeave_6 : decode cX0_letLeave 6 = .ok (.getfield 12, 3) := by decide +kernel
theorem dX0_letLeave_9 : decode cX0_letLeave 9 = .ok (.getfield 80, 3) := by decide +kernel
theorem dX0_letLeave_12 : decode cX0_letLeave 12 = .ok (.getfield 84, 3) := by decide +kernel
theorem dX0_letLeave_15 : decode cX0_letLeave 15 = .ok (.if_icmp .ge 85, 3) := by decide +kernel
theorem dX0_letLeave_18 : decode cX0_letLeave 18 = .ok (.iconst (-1), 1) := by decide +kernel
theorem dX0_letLeave_19 : decode cX0_letLeave 19 = .ok (.istore 4, 2) := by decide +kernel
theorem dX0_letLeave_21 : decode cX0_letLeave 21 = .ok (.aload_n 0, 1) := by decide +kernel
theorem dX0_letLeave_22 : decode cX0_letLeave 22 = .ok (.iload_n 3, 1) := by decide +kernel
theorem dX0_letLeave_23 : decode cX0_letLeave 23 = .ok (.invokevirtual 190, 3) := by decide +kernel
theorem dX0_letLeave_26 : decode cX0_letLeave 26 = .ok (.ifCond .eq 44, 3) := by decide +kernel
theorem dX0_letLeave_29 : decode cX0_letLeave 29 = .ok (.aload_n 0, 1) := by decide +kernel
theorem dX0_letLeave_30 : decode cX0_letLeave 30 = .ok (.getfield 31, 3) := by decide +kernel
theorem dX0_letLeave_33 : decode cX0_letLeave 33 = .ok (.iload_n 3, 1) := by decide +kernel
theorem dX0_letLeave_34 : decode cX0_letLeave 34 = .ok (.aaload, 1) := by decide +kernel
theorem dX0_letLeave_35 : decode cX0_letLeave 35 = .ok (.iload_n 1, 1) := by decide +kernel
theorem dX0_letLeave_36 : decode cX0_letLeave 36 = .ok (.aload_n 0, 1) := by decide +kernel
theorem dX0_letLeave_37 : decode cX0_letLeave 37 = .ok (.getfield 12, 3) := by decide +kernel
theorem dX0_letLeave_40 : decode cX0_letLeave 40 = .ok (.getfield 193, 3) := by decide +kernel
theorem dX0_letLeave_43 : decode cX0_letLeave 43 = .ok (.invokevirtual 197, 3) := by decide +kernel
theorem dX0_letLeave_46 : decode cX0_letLeave 46 = .ok (.aload_n 0, 1) := by decide +kernel
theorem dX0_letLeave_47 : decode cX0_letLeave 47 = .ok (.getfield 12, 3) := by decide +kernel
theorem dX0_letLeave_50 : decode cX0_letLeave 50 = .ok (.iload_n 3, 1) := by decide +kernel
theorem dX0_letLeave_51 : decode cX0_letLeave 51 = .ok (.iload_n 1, 1) := by decide +kernel
theorem dX0_letLeave_52 : decode cX0_letLeave 52 = .ok (.invokevirtual 201, 3) := by decide +kernel
theorem dX0_letLeave_55 : decode cX0_letLeave 55 = .ok (.ifCond .eq 7, 3) := by decide +kernel
theorem dX0_letLeave_58 : decode cX0_letLeave 58 = .ok (.iconst 0, 1) := by decide +kernel
theorem dX0_letLeave_59 : decode cX0_letLeave 59 = .ok (.goto 9, 3) := by decide +kernel
theorem dX0_letLeave_62 : decode cX0_letLeave 62 = .ok (.aload_n 0, 1) := by decide +kernel
theorem dX0_letLeave_63 : decode cX0_letLeave 63 = .ok (.iload_n 3, 1) := by decide +kernel
theorem dX0_letLeave_64 : decode cX0_letLeave 64 = .ok (.iload_n 1, 1) := by decide +kernel
theorem dX0_letLeave_65 : decode cX0_letLeave 65 = .ok (.invokevirtual 204, 3) := by decide +kernel
theorem dX0_letLeave_68 : decode cX0_letLeave 68 = .ok (.istore 4, 2) := by decide +kernel
theorem dX0_letLeave_70 : decode cX0_letLeave 70 = .ok (.aload_n 0, 1) := by decide +kernel
theorem dX0_letLeave_71 : decode cX0_letLeave 71 = .ok (.getfield 21, 3) := by decide +kernel
theorem dX0_letLeave_74 : decode cX0_letLeave 74 = .ok (.iload_n 3, 1) := by decide +kernel
theorem dX0_letLeave_75 : decode cX0_letLeave 75 = .ok (.iload_n 1, 1) := by decide +kernel
theorem dX0_letLeave_76 : decode cX0_letLeave 76 = .ok (.iload 4, 2) := by decide +kernel
theorem dX0_letLeave_78 : decode cX0_letLeave 78 = .ok (.invokevirtual 207, 3) := by decide +kernel
theorem dX0_letLeave_81 : decode cX0_letLeave 81 = .ok (.iload 4, 2) := by decide +kernel
theorem dX0_letLeave_83 : decode cX0_letLeave 83 = .ok (.ifCond .ne 11, 3) := by decide +kernel
theorem dX0_letLeave_86 : decode cX0_letLeave 86 = .ok (.aload_n 0, 1) := by decide +kernel
theorem dX0_letLeave_87 : decode cX0_letLeave 87 = .ok (.iload_n 3, 1) := by decide +kernel
theorem dX0_letLeave_88 : decode cX0_letLeave 88 = .ok (.iload_n 1, 1) := by decide +kernel
theorem dX0_letLeave_89 : decode cX0_letLeave 89 = .ok (.invokevirtual 210, 3) := by decide +kernel
theorem dX0_letLeave_92 : decode cX0_letLeave 92 = .ok (.iconst 1, 1) := by decide +kernel
theorem dX0_letLeave_93 : decode cX0_letLeave 93 = .ok (.istore_n 2, 1) := by decide +kernel
theorem dX0_letLeave_94 : decode cX0_letLeave 94 = .ok (.iinc 3 1, 3) := by decide +kernel
theorem dX0_letLeave_97 : decode cX0_letLeave 97 = .ok (.goto (-93), 3) := by decide +kernel
theorem dX0_letLeave_100 : decode cX0_letLeave 100 = .ok (.iload_n 2, 1) := by decide +kernel
theorem dX0_letLeave_101 : decode cX0_letLeave 101 = .ok (.ireturn, 1) := by decide +kernel
theorem dX0_leave_0 : decode cX0_leave 0 = .ok (.aload_n 0, 1) := by decide +kernel
theorem dX0_leave_1 : decode cX0_leave 1 = .ok (.getfield 42, 3) := by decide +kernel
theorem dX0_leave_4 : decode cX0_leave 4 = .ok (.iload_n 1, 1) := by decide +kernel
theorem dX0_leave_5 : decode cX0_leave 5 = .ok (.iaload, 1) := by decide +kernel
theorem dX0_leave_6 : decode cX0_leave 6 = .ok (.istore_n 3, 1) := by decide +kernel
theorem dX0_leave_7 : decode cX0_leave 7 = .ok (.aload_n 0, 1) := by decide +kernel
theorem dX0_leave_8 : decode cX0_leave 8 = .ok (.getfield 21, 3) := by decide +kernel
theorem dX0_leave_11 : decode cX0_leave 11 = .ok (.iload_n 1, 1) := by decide +kernel
theorem dX0_leave_12 : decode cX0_leave 12 = .ok (.iload_n 3, 1) := by decide +kernel
theorem dX0_leave_13 : decode cX0_leave 13 = .ok (.iload_n 2, 1) := by decide +kernel
theorem dX0_leave_14 : decode cX0_leave 14 = .ok (.invokevirtual 213, 3) := by decide +kernel
theorem dX0_leave_17 : decode cX0_leave 17 = .ok (.aload_n 0, 1) := by decide +kernel
theorem dX0_leave_18 : decode cX0_leave 18 = .ok (.getfield 60, 3) := by decide +kernel
theorem dX0_leave_21 : decode cX0_leave 21 = .ok (.aload_n 0, 1) := by decide +kernel
theorem dX0_leave_22 : decode cX0_leave 22 = .ok (.getfield 45, 3) := by decide +kernel
theorem dX0_leave_25 : decode cX0_leave 25 = .ok (.iload_n 1, 1) := by decide +kernel
theorem dX0_leave_26 : decode cX0_leave 26 = .ok (.iaload, 1) := by decide +kernel
theorem dX0_leave_27 : decode cX0_leave 27 = .ok (.bipush 7, 2) := by decide +kernel
theorem dX0_leave_29 : decode cX0_leave 29 = .ok (.imul, 1) := by decide +kernel
theorem dX0_leave_30 : decode cX0_leave 30 = .ok (.iload_n 3, 1) := by decide +kernel
theorem dX0_leave_31 : decode cX0_leave 31 = .ok (.iadd, 1) := by decide +kernel
theorem dX0_leave_32 : decode cX0_leave 32 = .ok (.iload_n 2, 1) := by decide +kernel
theorem dX0_leave_33 : decode cX0_leave 33 = .ok (.iastore, 1) := by decide +kernel
theorem dX0_leave_34 : decode cX0_leave 34 = .ok (.aload_n 0, 1) := by decide +kernel
theorem dX0_leave_35 : decode cX0_leave 35 = .ok (.getfield 54, 3) := by decide +kernel
theorem dX0_leave_38 : decode cX0_leave 38 = .ok (.iload_n 1, 1) := by decide +kernel
theorem dX0_leave_39 : decode cX0_leave 39 = .ok (.iload_n 2, 1) := by decide +kernel
theorem dX0_leave_40 : decode cX0_leave 40 = .ok (.iastore, 1) := by decide +kernel
theorem dX0_leave_41 : decode cX0_leave 41 = .ok (.aload_n 0, 1) := by decide +kernel
theorem dX0_leave_42 : decode cX0_leave 42 = .ok (.getfield 42, 3) := by decide +kernel
theorem dX0_leave_45 : decode cX0_leave 45 = .ok (.iload_n 1, 1) := by decide +kernel
theorem dX0_leave_46 : decode cX0_leave 46 = .ok (.bipush 100, 2) := by decide +kernel
theorem dX0_leave_48 : decode cX0_leave 48 = .ok (.aload_n 0, 1) := by decide +kernel
theorem dX0_leave_49 : decode cX0_leave 49 = .ok (.iload_n 1, 1) := by decide +kernel
theorem dX0_leave_50 : decode cX0_leave 50 = .ok (.invokevirtual 216, 3) := by decide +kernel
theorem dX0_leave_53 : decode cX0_leave 53 = .ok (.iadd, 1) := by decide +kernel
theorem dX0_leave_54 : decode cX0_leave 54 = .ok (.iastore, 1) := by decide +kernel
theorem dX0_leave_55 : decode cX0_leave 55 = .ok (.return_, 1) := by decide +kernel
theorem dX0_sectionAhead_0 : decode cX0_sectionAhead 0 = .ok (.aload_n 0, 1) := by decide +kernel
theorem dX0_sectionAhead_1 : decode cX0_sectionAhead 1 = .ok (.getfield 45, 3) := by decide +kernel
theorem dX0_sectionAhead_4 : decode cX0_sectionAhead 4 = .ok (.iload_n 1, 1) := by decide +kernel
theorem dX0_sectionAhead_5 : decode cX0_sectionAhead 5 = .ok (.iaload, 1) := by decide +kernel
theorem dX0_sectionAhead_6 : decode cX0_sectionAhead 6 = .ok (.ifCond .ne 12, 3) := by decide +kernel
theorem dX0_sectionAhead_9 : decode cX0_sectionAhead 9 = .ok (.aload_n 0, 1) := by decide +kernel
theorem dX0_sectionAhead_10 : decode cX0_sectionAhead 10 = .ok (.getfield 42, 3) := by decide +kernel
theorem dX0_sectionAhead_13 : decode cX0_sectionAhead 13 = .ok (.iload_n 1, 1) := by decide +kernel
theorem dX0_sectionAhead_14 : decode cX0_sectionAhead 14 = .ok (.iaload, 1) := by decide +kernel
theorem dX0_sectionAhead_15 : decode cX0_sectionAhead 15 = .ok (.goto 11, 3) := by decide +kernel
theorem dX0_sectionAhead_18 : decode cX0_sectionAhead 18 = .ok (.aload_n 0, 1) := by decide +kernel
theorem dX0_sectionAhead_19 : decode cX0_sectionAhead 19 = .ok (.getfield 42, 3) := by decide +kernel
theorem dX0_sectionAhead_22 : decode cX0_sectionAhead 22 = .ok (.iload_n 1, 1) := by decide +kernel
theorem dX0_sectionAhead_23 : decode cX0_sectionAhead 23 = .ok (.iaload, 1) := by decide +kernel
theorem dX0_sectionAhead_24 : decode cX0_sectionAhead 24 = .ok (.iconst 1, 1) := by decide +kernel
theorem dX0_sectionAhead_25 : decode cX0_sectionAhead 25 = .ok (.isub, 1) := by decide +kernel
theorem dX0_sectionAhead_26 : decode cX0_sectionAhead 26 = .ok (.ireturn, 1) := by decide +kernel
theorem dX0_whyNot_0 : decode cX0_whyNot 0 = .ok (.aload_n 0, 1) := by decide +kernel
theorem dX0_whyNot_1 : decode cX0_whyNot 1 = .ok (.getfield 31, 3) := by decide +kernel
theorem dX0_whyNot_4 : decode cX0_whyNot 4 = .ok (.iload_n 1, 1) := by decide +kernel
theorem dX0_whyNot_5 : decode cX0_whyNot 5 = .ok (.aaload, 1) := by decide +kernel
theorem dX0_whyNot_6 : decode cX0_whyNot 6 = .ok (.astore_n 3, 1) := by decide +kernel
theorem dX0_whyNot_7 : decode cX0_whyNot 7 = .ok (.aload_n 0, 1) := by decide +kernel
theorem dX0_whyNot_8 : decode cX0_whyNot 8 = .ok (.getfield 42, 3) := by decide +kernel
theorem dX0_whyNot_11 : decode cX0_whyNot 11 = .ok (.iload_n 1, 1) := by decide +kernel
theorem dX0_whyNot_12 : decode cX0_whyNot 12 = .ok (.iaload, 1) := by decide +kernel
theorem dX0_whyNot_13 : decode cX0_whyNot 13 = .ok (.istore 4, 2) := by decide +kernel
theorem dX0_whyNot_15 : decode cX0_whyNot 15 = .ok (.aload_n 0, 1) := by decide +kernel
theorem dX0_whyNot_16 : decode cX0_whyNot 16 = .ok (.getfield 63, 3) := by decide +kernel
theorem dX0_whyNot_19 : decode cX0_whyNot 19 = .ok (.iload_n 1, 1) := by decide +kernel
theorem dX0_whyNot_20 : decode cX0_whyNot 20 = .ok (.ishr, 1) := by decide +kernel
theorem dX0_whyNot_21 : decode cX0_whyNot 21 = .ok (.iconst 1, 1) := by decide +kernel
theorem dX0_whyNot_22 : decode cX0_whyNot 22 = .ok (.iand, 1) := by decide +kernel
theorem dX0_whyNot_23 : decode cX0_whyNot 23 = .ok (.ifCond .eq 7, 3) := by decide +kernel
theorem dX0_whyNot_26 : decode cX0_whyNot 26 = .ok (.iconst 1, 1) := by decide +kernel
theorem dX0_whyNot_27 : decode cX0_whyNot 27 = .ok (.goto 4, 3) := by decide +kernel
theorem dX0_whyNot_30 : decode cX0_whyNot 30 = .ok (.iconst 0, 1) := by decide +kernel
theorem dX0_whyNot_31 : decode cX0_whyNot 31 = .ok (.istore 5, 2) := by decide +kernel
theorem dX0_whyNot_33 : decode cX0_whyNot 33 = .ok (.iload 5, 2) := by decide +kernel
theorem dX0_whyNot_35 : decode cX0_whyNot 35 = .ok (.ifCond .eq 25, 3) := by decide +kernel
theorem dX0_whyNot_38 : decode cX0_whyNot 38 = .ok (.aload_n 0, 1) := by decide +kernel
theorem dX0_whyNot_39 : decode cX0_whyNot 39 = .ok (.getfield 35, 3) := by decide +kernel
theorem dX0_whyNot_42 : decode cX0_whyNot 42 = .ok (.iload_n 1, 1) := by decide +kernel
theorem dX0_whyNot_43 : decode cX0_whyNot 43 = .ok (.bipush 7, 2) := by decide +kernel
theorem dX0_whyNot_45 : decode cX0_whyNot 45 = .ok (.imul, 1) := by decide +kernel
theorem dX0_whyNot_46 : decode cX0_whyNot 46 = .ok (.iload 4, 2) := by decide +kernel
theorem dX0_whyNot_48 : decode cX0_whyNot 48 = .ok (.iadd, 1) := by decide +kernel
theorem dX0_whyNot_49 : decode cX0_whyNot 49 = .ok (.iaload, 1) := by decide +kernel
theorem dX0_whyNot_50 : decode cX0_whyNot 50 = .ok (.aload_n 3, 1) := by decide +kernel
theorem dX0_whyNot_51 : decode cX0_whyNot 51 = .ok (.getfield 219, 3) := by decide +kernel
theorem dX0_whyNot_54 : decode cX0_whyNot 54 = .ok (.iload_n 1, 1) := by decide +kernel
theorem dX0_whyNot_55 : decode cX0_whyNot 55 = .ok (.iaload, 1) := by decide +kernel
theorem dX0_whyNot_56 : decode cX0_whyNot 56 = .ok (.iadd, 1) := by decide +kernel
theorem dX0_whyNot_57 : decode cX0_whyNot 57 = .ok (.goto 7, 3) := by decide +kernel
theorem dX0_whyNot_60 : decode cX0_whyNot 60 = .ok (.aload_n 3, 1) := by decide +kernel
theorem dX0_whyNot_61 : decode cX0_whyNot 61 = .ok (.getfield 222, 3) := by decide +kernel
theorem dX0_whyNot_64 : decode cX0_whyNot 64 = .ok (.istore 6, 2) := by decide +kernel
theorem dX0_whyNot_66 : decode cX0_whyNot 66 = .ok (.iload_n 2, 1) := by decide +kernel
theorem dX0_whyNot_67 : decode cX0_whyNot 67 = .ok (.iload 6, 2) := by decide +kernel
theorem dX0_whyNot_69 : decode cX0_whyNot 69 = .ok (.if_icmp .ge 5, 3) := by decide +kernel
theorem dX0_whyNot_72 : decode cX0_whyNot 72 = .ok (.iconst 1, 1) := by decide +kernel
theorem dX0_whyNot_73 : decode cX0_whyNot 73 = .ok (.ireturn, 1) := by decide +kernel
theorem dX0_whyNot_74 : decode cX0_whyNot 74 = .ok (.iload_n 2, 1) := by decide +kernel
theorem dX0_whyNot_75 : decode cX0_whyNot 75 = .ok (.aload_n 3, 1) := by decide +kernel
theorem dX0_whyNot_76 : decode cX0_whyNot 76 = .ok (.getfield 225, 3) := by decide +kernel
theorem dX0_whyNot_79 : decode cX0_whyNot 79 = .ok (.iload 4, 2) := by decide +kernel
theorem dX0_whyNot_81 : decode cX0_whyNot 81 = .ok (.iaload, 1) := by decide +kernel
theorem dX0_whyNot_82 : decode cX0_whyNot 82 = .ok (.if_icmp .ge 5, 3) := by decide +kernel
theorem dX0_whyNot_85 : decode cX0_whyNot 85 = .ok (.iconst 2, 1) := by decide +kernel
theorem dX0_whyNot_86 : decode cX0_whyNot 86 = .ok (.ireturn, 1) := by decide +kernel
theorem dX0_whyNot_87 : decode cX0_whyNot 87 = .ok (.aload_n 0, 1) := by decide +kernel
theorem dX0_whyNot_88 : decode cX0_whyNot 88 = .ok (.getfield 57, 3) := by decide +kernel
theorem dX0_whyNot_91 : decode cX0_whyNot 91 = .ok (.iload 4, 2) := by decide +kernel
theorem dX0_whyNot_93 : decode cX0_whyNot 93 = .ok (.iaload, 1) := by decide +kernel
theorem dX0_whyNot_94 : decode cX0_whyNot 94 = .ok (.aload_n 0, 1) := by decide +kernel
theorem dX0_whyNot_95 : decode cX0_whyNot 95 = .ok (.getfield 57, 3) := by decide +kernel
theorem dX0_whyNot_98 : decode cX0_whyNot 98 = .ok (.bipush 7, 2) := by decide +kernel
theorem dX0_whyNot_100 : decode cX0_whyNot 100 = .ok (.iload 4, 2) := by decide +kernel
theorem dX0_whyNot_102 : decode cX0_whyNot 102 = .ok (.iadd, 1) := by decide +kernel
theorem dX0_whyNot_103 : decode cX0_whyNot 103 = .ok (.iaload, 1) := by decide +kernel
theorem dX0_whyNot_104 : decode cX0_whyNot 104 = .ok (.ior, 1) := by decide +kernel
theorem dX0_whyNot_105 : decode cX0_whyNot 105 = .ok (.aload_n 0, 1) := by decide +kernel
theorem dX0_whyNot_106 : decode cX0_whyNot 106 = .ok (.getfield 67, 3) := by decide +kernel
theorem dX0_whyNot_109 : decode cX0_whyNot 109 = .ok (.ior, 1) := by decide +kernel
theorem dX0_whyNot_110 : decode cX0_whyNot 110 = .ok (.istore 7, 2) := by decide +kernel
theorem dX0_whyNot_112 : decode cX0_whyNot 112 = .ok (.aload_n 3, 1) := by decide +kernel
theorem dX0_whyNot_113 : decode cX0_whyNot 113 = .ok (.getfield 228, 3) := by decide +kernel
theorem dX0_whyNot_116 : decode cX0_whyNot 116 = .ok (.iload 4, 2) := by decide +kernel
theorem dX0_whyNot_118 : decode cX0_whyNot 118 = .ok (.iaload, 1) := by decide +kernel
theorem dX0_whyNot_119 : decode cX0_whyNot 119 = .ok (.iload 7, 2) := by decide +kernel
theorem dX0_whyNot_121 : decode cX0_whyNot 121 = .ok (.iconst (-1), 1) := by decide +kernel
theorem dX0_whyNot_122 : decode cX0_whyNot 122 = .ok (.ixor, 1) := by decide +kernel
theorem dX0_whyNot_123 : decode cX0_whyNot 123 = .ok (.iand, 1) := by decide +kernel
theorem dX0_whyNot_124 : decode cX0_whyNot 124 = .ok (.ifCond .eq 5, 3) := by decide +kernel
theorem dX0_whyNot_127 : decode cX0_whyNot 127 = .ok (.iconst 3, 1) := by decide +kernel
theorem dX0_whyNot_128 : decode cX0_whyNot 128 = .ok (.ireturn, 1) := by decide +kernel
theorem dX0_whyNot_129 : decode cX0_whyNot 129 = .ok (.aload_n 0, 1) := by decide +kernel
theorem dX0_whyNot_130 : decode cX0_whyNot 130 = .ok (.iload_n 1, 1) := by decide +kernel
theorem dX0_whyNot_131 : decode cX0_whyNot 131 = .ok (.iload_n 2, 1) := by decide +kernel
theorem dX0_whyNot_132 : decode cX0_whyNot 132 = .ok (.aload_n 3, 1) := by decide +kernel
theorem dX0_whyNot_133 : decode cX0_whyNot 133 = .ok (.invokevirtual 231, 3) := by decide +kernel
theorem dX0_whyNot_136 : decode cX0_whyNot 136 = .ok (.ifCond .eq 5, 3) := by decide +kernel
theorem dX0_whyNot_139 : decode cX0_whyNot 139 = .ok (.iconst 4, 1) := by decide +kernel
theorem dX0_whyNot_140 : decode cX0_whyNot 140 = .ok (.ireturn, 1) := by decide +kernel
theorem dX0_whyNot_141 : decode cX0_whyNot 141 = .ok (.iload_n 2, 1) := by decide +kernel
theorem dX0_whyNot_142 : decode cX0_whyNot 142 = .ok (.aload_n 0, 1) := by decide +kernel
theorem dX0_whyNot_143 : decode cX0_whyNot 143 = .ok (.getfield 60, 3) := by decide +kernel
theorem dX0_whyNot_146 : decode cX0_whyNot 146 = .ok (.aload_n 0, 1) := by decide +kernel
theorem dX0_whyNot_147 : decode cX0_whyNot 147 = .ok (.getfield 45, 3) := by decide +kernel
theorem dX0_whyNot_150 : decode cX0_whyNot 150 = .ok (.iload_n 1, 1) := by decide +kernel
theorem dX0_whyNot_151 : decode cX0_whyNot 151 = .ok (.iaload, 1) := by decide +kernel
theorem dX0_whyNot_152 : decode cX0_whyNot 152 = .ok (.bipush 7, 2) := by decide +kernel
theorem dX0_whyNot_154 : decode cX0_whyNot 154 = .ok (.imul, 1) := by decide +kernel
theorem dX0_whyNot_155 : decode cX0_whyNot 155 = .ok (.iload 4, 2) := by decide +kernel
theorem dX0_whyNot_157 : decode cX0_whyNot 157 = .ok (.iadd, 1) := by decide +kernel
theorem dX0_whyNot_158 : decode cX0_whyNot 158 = .ok (.iaload, 1) := by decide +kernel
theorem dX0_whyNot_159 : decode cX0_whyNot 159 = .ok (.isub, 1) := by decide +kernel
theorem dX0_whyNot_160 : decode cX0_whyNot 160 = .ok (.bipush 10, 2) := by decide +kernel
theorem dX0_whyNot_162 : decode cX0_whyNot 162 = .ok (.if_icmp .ge 7, 3) := by decide +kernel
theorem dX0_whyNot_165 : decode cX0_whyNot 165 = .ok (.iconst 5, 1) := by decide +kernel
theorem dX0_whyNot_166 : decode cX0_whyNot 166 = .ok (.goto 4, 3) := by decide +kernel
theorem dX0_whyNot_169 : decode cX0_whyNot 169 = .ok (.iconst 0, 1) := by decide +kernel
theorem dX0_whyNot_170 : decode cX0_whyNot 170 = .ok (.ireturn, 1) := by decide +kernel
theorem dX0_isBarred_0 : decode cX0_isBarred 0 = .ok (.aload_n 0, 1) := by decide +kernel
theorem dX0_isBarred_1 : decode cX0_isBarred 1 = .ok (.getfield 42, 3) := by decide +kernel
theorem dX0_isBarred_4 : decode cX0_isBarred 4 = .ok (.iload_n 1, 1) := by decide +kernel
theorem dX0_isBarred_5 : decode cX0_isBarred 5 = .ok (.iaload, 1) := by decide +kernel
theorem dX0_isBarred_6 : decode cX0_isBarred 6 = .ok (.istore 4, 2) := by decide +kernel
theorem dX0_isBarred_8 : decode cX0_isBarred 8 = .ok (.aload_n 0, 1) := by decide +kernel
theorem dX0_isBarred_9 : decode cX0_isBarred 9 = .ok (.iload_n 1, 1) := by decide +kernel
theorem dX0_isBarred_10 : decode cX0_isBarred 10 = .ok (.invokevirtual 216, 3) := by decide +kernel
theorem dX0_isBarred_13 : decode cX0_isBarred 13 = .ok (.istore 5, 2) := by decide +kernel
theorem dX0_isBarred_15 : decode cX0_isBarred 15 = .ok (.aload_n 0, 1) := by decide +kernel
theorem dX0_isBarred_16 : decode cX0_isBarred 16 = .ok (.getfield 45, 3) := by decide +kernel
theorem dX0_isBarred_19 : decode cX0_isBarred 19 = .ok (.iload_n 1, 1) := by decide +kernel
theorem dX0_isBarred_20 : decode cX0_isBarred 20 = .ok (.iaload, 1) := by decide +kernel
theorem dX0_isBarred_21 : decode cX0_isBarred 21 = .ok (.ifCond .ne 10, 3) := by decide +kernel
theorem dX0_isBarred_24 : decode cX0_isBarred 24 = .ok (.iload 4, 2) := by decide +kernel
theorem dX0_isBarred_26 : decode cX0_isBarred 26 = .ok (.iconst 1, 1) := by decide +kernel
theorem dX0_isBarred_27 : decode cX0_isBarred 27 = .ok (.iadd, 1) := by decide +kernel
theorem dX0_isBarred_28 : decode cX0_isBarred 28 = .ok (.goto 7, 3) := by decide +kernel
theorem dX0_isBarred_31 : decode cX0_isBarred 31 = .ok (.iload 4, 2) := by decide +kernel
theorem dX0_isBarred_33 : decode cX0_isBarred 33 = .ok (.iconst 1, 1) := by decide +kernel
theorem dX0_isBarred_34 : decode cX0_isBarred 34 = .ok (.isub, 1) := by decide +kernel
theorem dX0_isBarred_35 : decode cX0_isBarred 35 = .ok (.istore 6, 2) := by decide +kernel
theorem dX0_isBarred_37 : decode cX0_isBarred 37 = .ok (.iload_n 2, 1) := by decide +kernel
theorem dX0_isBarred_38 : decode cX0_isBarred 38 = .ok (.aload_n 0, 1) := by decide +kernel
theorem dX0_isBarred_39 : decode cX0_isBarred 39 = .ok (.getfield 12, 3) := by decide +kernel
theorem dX0_isBarred_42 : decode cX0_isBarred 42 = .ok (.getfield 137, 3) := by decide +kernel
theorem dX0_isBarred_45 : decode cX0_isBarred 45 = .ok (.getfield 156, 3) := by decide +kernel
theorem dX0_isBarred_48 : decode cX0_isBarred 48 = .ok (.iload 5, 2) := by decide +kernel
theorem dX0_isBarred_50 : decode cX0_isBarred 50 = .ok (.iaload, 1) := by decide +kernel
theorem dX0_isBarred_51 : decode cX0_isBarred 51 = .ok (.iadd, 1) := by decide +kernel
theorem dX0_isBarred_52 : decode cX0_isBarred 52 = .ok (.iconst 5, 1) := by decide +kernel
theorem dX0_isBarred_53 : decode cX0_isBarred 53 = .ok (.iadd, 1) := by decide +kernel
theorem dX0_isBarred_54 : decode cX0_isBarred 54 = .ok (.istore 7, 2) := by decide +kernel
theorem dX0_isBarred_56 : decode cX0_isBarred 56 = .ok (.iconst 1, 1) := by decide +kernel
theorem dX0_isBarred_57 : decode cX0_isBarred 57 = .ok (.aload_n 0, 1) := by decide +kernel
theorem dX0_isBarred_58 : decode cX0_isBarred 58 = .ok (.getfield 45, 3) := by decide +kernel
theorem dX0_isBarred_61 : decode cX0_isBarred 61 = .ok (.iload_n 1, 1) := by decide +kernel
theorem dX0_isBarred_62 : decode cX0_isBarred 62 = .ok (.iaload, 1) := by decide +kernel
theorem dX0_isBarred_63 : decode cX0_isBarred 63 = .ok (.isub, 1) := by decide +kernel
theorem dX0_isBarred_64 : decode cX0_isBarred 64 = .ok (.istore 8, 2) := by decide +kernel
theorem dX0_isBarred_66 : decode cX0_isBarred 66 = .ok (.aload_n 0, 1) := by decide +kernel
theorem dX0_isBarred_67 : decode cX0_isBarred 67 = .ok (.getfield 67, 3) := by decide +kernel
theorem dX0_isBarred_70 : decode cX0_isBarred 70 = .ok (.aload_n 0, 1) := by decide +kernel
theorem dX0_isBarred_71 : decode cX0_isBarred 71 = .ok (.getfield 57, 3) := by decide +kernel
theorem dX0_isBarred_74 : decode cX0_isBarred 74 = .ok (.iload 8, 2) := by decide +kernel
theorem dX0_isBarred_76 : decode cX0_isBarred 76 = .ok (.bipush 7, 2) := by decide +kernel
theorem dX0_isBarred_78 : decode cX0_isBarred 78 = .ok (.imul, 1) := by decide +kernel
theorem dX0_isBarred_79 : decode cX0_isBarred 79 = .ok (.iload 4, 2) := by decide +kernel
theorem dX0_isBarred_81 : decode cX0_isBarred 81 = .ok (.iadd, 1) := by decide +kernel
theorem dX0_isBarred_82 : decode cX0_isBarred 82 = .ok (.iaload, 1) := by decide +kernel
theorem dX0_isBarred_83 : decode cX0_isBarred 83 = .ok (.ior, 1) := by decide +kernel
theorem dX0_isBarred_84 : decode cX0_isBarred 84 = .ok (.aload_n 3, 1) := by decide +kernel
theorem dX0_isBarred_85 : decode cX0_isBarred 85 = .ok (.iload 4, 2) := by decide +kernel
theorem dX0_isBarred_87 : decode cX0_isBarred 87 = .ok (.aload_n 0, 1) := by decide +kernel
theorem dX0_isBarred_88 : decode cX0_isBarred 88 = .ok (.getfield 45, 3) := by decide +kernel
theorem dX0_isBarred_91 : decode cX0_isBarred 91 = .ok (.iload_n 1, 1) := by decide +kernel
theorem dX0_isBarred_92 : decode cX0_isBarred 92 = .ok (.iaload, 1) := by decide +kernel
theorem dX0_isBarred_93 : decode cX0_isBarred 93 = .ok (.invokevirtual 235, 3) := by decide +kernel
theorem dX0_isBarred_96 : decode cX0_isBarred 96 = .ok (.ior, 1) := by decide +kernel
theorem dX0_isBarred_97 : decode cX0_isBarred 97 = .ok (.istore 9, 2) := by decide +kernel
theorem dX0_isBarred_99 : decode cX0_isBarred 99 = .ok (.iconst 0, 1) := by decide +kernel
theorem dX0_isBarred_100 : decode cX0_isBarred 100 = .ok (.istore 10, 2) := by decide +kernel
theorem dX0_isBarred_102 : decode cX0_isBarred 102 = .ok (.iload 10, 2) := by decide +kernel
theorem dX0_isBarred_104 : decode cX0_isBarred 104 = .ok (.aload_n 0, 1) := by decide +kernel
theorem dX0_isBarred_105 : decode cX0_isBarred 105 = .ok (.getfield 12, 3) := by decide +kernel
theorem dX0_isBarred_108 : decode cX0_isBarred 108 = .ok (.getfield 80, 3) := by decide +kernel
theorem dX0_isBarred_111 : decode cX0_isBarred 111 = .ok (.getfield 84, 3) := by decide +kernel
theorem dX0_isBarred_114 : decode cX0_isBarred 114 = .ok (.if_icmp .ge 129, 3) := by decide +kernel
theorem dX0_isBarred_117 : decode cX0_isBarred 117 = .ok (.aload_n 0, 1) := by decide +kernel
theorem dX0_isBarred_118 : decode cX0_isBarred 118 = .ok (.getfield 45, 3) := by decide +kernel
theorem dX0_isBarred_121 : decode cX0_isBarred 121 = .ok (.iload 10, 2) := by decide +kernel
theorem dX0_isBarred_123 : decode cX0_isBarred 123 = .ok (.iaload, 1) := by decide +kernel
theorem dX0_isBarred_124 : decode cX0_isBarred 124 = .ok (.iload 8, 2) := by decide +kernel
theorem dX0_isBarred_126 : decode cX0_isBarred 126 = .ok (.if_icmp .ne 111, 3) := by decide +kernel
theorem dX0_isBarred_129 : decode cX0_isBarred 129 = .ok (.aload_n 0, 1) := by decide +kernel
theorem dX0_isBarred_130 : decode cX0_isBarred 130 = .ok (.getfield 48, 3) := by decide +kernel
theorem dX0_isBarred_133 : decode cX0_isBarred 133 = .ok (.iload 10, 2) := by decide +kernel
theorem dX0_isBarred_135 : decode cX0_isBarred 135 = .ok (.iaload, 1) := by decide +kernel
theorem dX0_isBarred_136 : decode cX0_isBarred 136 = .ok (.aload_n 0, 1) := by decide +kernel
theorem dX0_isBarred_137 : decode cX0_isBarred 137 = .ok (.getfield 48, 3) := by decide +kernel
theorem dX0_isBarred_140 : decode cX0_isBarred 140 = .ok (.iload_n 1, 1) := by decide +kernel
theorem dX0_isBarred_141 : decode cX0_isBarred 141 = .ok (.iaload, 1) := by decide +kernel
theorem dX0_isBarred_142 : decode cX0_isBarred 142 = .ok (.if_icmp .lt 95, 3) := by decide +kernel
theorem dX0_isBarred_145 : decode cX0_isBarred 145 = .ok (.aload_n 0, 1) := by decide +kernel
theorem dX0_isBarred_146 : decode cX0_isBarred 146 = .ok (.getfield 39, 3) := by decide +kernel
theorem dX0_isBarred_149 : decode cX0_isBarred 149 = .ok (.iload 10, 2) := by decide +kernel
theorem dX0_isBarred_151 : decode cX0_isBarred 151 = .ok (.iaload, 1) := by decide +kernel
theorem dX0_isBarred_152 : decode cX0_isBarred 152 = .ok (.iload 5, 2) := by decide +kernel
theorem dX0_isBarred_154 : decode cX0_isBarred 154 = .ok (.ishr, 1) := by decide +kernel
theorem dX0_isBarred_155 : decode cX0_isBarred 155 = .ok (.iconst 1, 1) := by decide +kernel
theorem dX0_isBarred_156 : decode cX0_isBarred 156 = .ok (.iand, 1) := by decide +kernel
theorem dX0_isBarred_157 : decode cX0_isBarred 157 = .ok (.ifCond .ne 6, 3) := by decide +kernel
theorem dX0_isBarred_160 : decode cX0_isBarred 160 = .ok (.goto 77, 3) := by decide +kernel
theorem dX0_isBarred_163 : decode cX0_isBarred 163 = .ok (.aload_n 0, 1) := by decide +kernel
theorem dX0_isBarred_164 : decode cX0_isBarred 164 = .ok (.getfield 63, 3) := by decide +kernel
theorem dX0_isBarred_167 : decode cX0_isBarred 167 = .ok (.iload 10, 2) := by decide +kernel
theorem dX0_isBarred_169 : decode cX0_isBarred 169 = .ok (.ishr, 1) := by decide +kernel
theorem dX0_isBarred_170 : decode cX0_isBarred 170 = .ok (.iconst 1, 1) := by decide +kernel
theorem dX0_isBarred_171 : decode cX0_isBarred 171 = .ok (.iand, 1) := by decide +kernel
theorem dX0_isBarred_172 : decode cX0_isBarred 172 = .ok (.ifCond .eq 7, 3) := by decide +kernel
theorem dX0_isBarred_175 : decode cX0_isBarred 175 = .ok (.iconst 1, 1) := by decide +kernel
theorem dX0_isBarred_176 : decode cX0_isBarred 176 = .ok (.goto 4, 3) := by decide +kernel
theorem dX0_isBarred_179 : decode cX0_isBarred 179 = .ok (.iconst 0, 1) := by decide +kernel
theorem dX0_isBarred_180 : decode cX0_isBarred 180 = .ok (.istore 11, 2) := by decide +kernel
theorem dX0_isBarred_182 : decode cX0_isBarred 182 = .ok (.iload 11, 2) := by decide +kernel
theorem dX0_isBarred_184 : decode cX0_isBarred 184 = .ok (.ifCond .eq 33, 3) := by decide +kernel
theorem dX0_isBarred_187 : decode cX0_isBarred 187 = .ok (.iload 7, 2) := by decide +kernel
theorem dX0_isBarred_189 : decode cX0_isBarred 189 = .ok (.aload_n 0, 1) := by decide +kernel
theorem dX0_isBarred_190 : decode cX0_isBarred 190 = .ok (.getfield 35, 3) := by decide +kernel
theorem dX0_isBarred_193 : decode cX0_isBarred 193 = .ok (.iload 10, 2) := by decide +kernel
theorem dX0_isBarred_195 : decode cX0_isBarred 195 = .ok (.bipush 7, 2) := by decide +kernel
theorem dX0_isBarred_197 : decode cX0_isBarred 197 = .ok (.imul, 1) := by decide +kernel
theorem dX0_isBarred_198 : decode cX0_isBarred 198 = .ok (.iload 6, 2) := by decide +kernel
theorem dX0_isBarred_200 : decode cX0_isBarred 200 = .ok (.iadd, 1) := by decide +kernel
theorem dX0_isBarred_201 : decode cX0_isBarred 201 = .ok (.iaload, 1) := by decide +kernel
theorem dX0_isBarred_202 : decode cX0_isBarred 202 = .ok (.aload_n 3, 1) := by decide +kernel
theorem dX0_isBarred_203 : decode cX0_isBarred 203 = .ok (.getfield 219, 3) := by decide +kernel
theorem dX0_isBarred_206 : decode cX0_isBarred 206 = .ok (.iload 10, 2) := by decide +kernel
theorem dX0_isBarred_208 : decode cX0_isBarred 208 = .ok (.iaload, 1) := by decide +kernel
theorem dX0_isBarred_209 : decode cX0_isBarred 209 = .ok (.iadd, 1) := by decide +kernel
theorem dX0_isBarred_210 : decode cX0_isBarred 210 = .ok (.if_icmp .gt 7, 3) := by decide +kernel
theorem dX0_isBarred_213 : decode cX0_isBarred 213 = .ok (.iconst 1, 1) := by decide +kernel
theorem dX0_isBarred_214 : decode cX0_isBarred 214 = .ok (.goto 4, 3) := by decide +kernel
theorem dX0_isBarred_217 : decode cX0_isBarred 217 = .ok (.iconst 0, 1) := by decide +kernel
theorem dX0_isBarred_218 : decode cX0_isBarred 218 = .ok (.istore 12, 2) := by decide +kernel
theorem dX0_isBarred_220 : decode cX0_isBarred 220 = .ok (.iload 9, 2) := by decide +kernel
theorem dX0_isBarred_222 : decode cX0_isBarred 222 = .ok (.iload 10, 2) := by decide +kernel
theorem dX0_isBarred_224 : decode cX0_isBarred 224 = .ok (.ishr, 1) := by decide +kernel
theorem dX0_isBarred_225 : decode cX0_isBarred 225 = .ok (.iconst 1, 1) := by decide +kernel
theorem dX0_isBarred_226 : decode cX0_isBarred 226 = .ok (.iand, 1) := by decide +kernel
theorem dX0_isBarred_227 : decode cX0_isBarred 227 = .ok (.ifCond .ne 10, 3) := by decide +kernel
theorem dX0_isBarred_230 : decode cX0_isBarred 230 = .ok (.iload 12, 2) := by decide +kernel
theorem dX0_isBarred_232 : decode cX0_isBarred 232 = .ok (.ifCond .ne 5, 3) := by decide +kernel
theorem dX0_isBarred_235 : decode cX0_isBarred 235 = .ok (.iconst 1, 1) := by decide +kernel
theorem dX0_isBarred_236 : decode cX0_isBarred 236 = .ok (.ireturn, 1) := by decide +kernel
theorem dX0_isBarred_237 : decode cX0_isBarred 237 = .ok (.iinc 10 1, 3) := by decide +kernel
theorem dX0_isBarred_240 : decode cX0_isBarred 240 = .ok (.goto (-138), 3) := by decide +kernel
theorem dX0_isBarred_243 : decode cX0_isBarred 243 = .ok (.iconst 0, 1) := by decide +kernel
theorem dX0_isBarred_244 : decode cX0_isBarred 244 = .ok (.ireturn, 1) := by decide +kernel
theorem dX0_noteHeads_0 : decode cX0_noteHeads 0 = .ok (.iconst 0, 1) := by decide +kernel
theorem dX0_noteHeads_1 : decode cX0_noteHeads 1 = .ok (.istore_n 2, 1) := by decide +kernel
theorem dX0_noteHeads_2 : decode cX0_noteHeads 2 = .ok (.iload_n 2, 1) := by decide +kernel
theorem dX0_noteHeads_3 : decode cX0_noteHeads 3 = .ok (.aload_n 0, 1) := by decide +kernel
theorem dX0_noteHeads_4 : decode cX0_noteHeads 4 = .ok (.getfield 12, 3) := by decide +kernel
theorem dX0_noteHeads_7 : decode cX0_noteHeads 7 = .ok (.getfield 80, 3) := by decide +kernel
theorem dX0_noteHeads_10 : decode cX0_noteHeads 10 = .ok (.getfield 84, 3) := by decide +kernel
theorem dX0_noteHeads_13 : decode cX0_noteHeads 13 = .ok (.if_icmp .ge 90, 3) := by decide +kernel
theorem dX0_noteHeads_16 : decode cX0_noteHeads 16 = .ok (.iload_n 2, 1) := by decide +kernel
theorem dX0_noteHeads_17 : decode cX0_noteHeads 17 = .ok (.iconst 1, 1) := by decide +kernel
theorem dX0_noteHeads_18 : decode cX0_noteHeads 18 = .ok (.iadd, 1) := by decide +kernel
theorem dX0_noteHeads_19 : decode cX0_noteHeads 19 = .ok (.istore_n 3, 1) := by decide +kernel
theorem dX0_noteHeads_20 : decode cX0_noteHeads 20 = .ok (.iload_n 3, 1) := by decide +kernel
theorem dX0_noteHeads_21 : decode cX0_noteHeads 21 = .ok (.aload_n 0, 1) := by decide +kernel
theorem dX0_noteHeads_22 : decode cX0_noteHeads 22 = .ok (.getfield 12, 3) := by decide +kernel
theorem dX0_noteHeads_25 : decode cX0_noteHeads 25 = .ok (.getfield 80, 3) := by decide +kernel
theorem dX0_noteHeads_28 : decode cX0_noteHeads 28 = .ok (.getfield 84, 3) := by decide +kernel
theorem dX0_noteHeads_31 : decode cX0_noteHeads 31 = .ok (.if_icmp .ge 66, 3) := by decide +kernel
theorem dX0_noteHeads_34 : decode cX0_noteHeads 34 = .ok (.aload_n 0, 1) := by decide +kernel
theorem dX0_noteHeads_35 : decode cX0_noteHeads 35 = .ok (.iload_n 2, 1) := by decide +kernel
theorem dX0_noteHeads_36 : decode cX0_noteHeads 36 = .ok (.invokevirtual 153, 3) := by decide +kernel
theorem dX0_noteHeads_39 : decode cX0_noteHeads 39 = .ok (.ifCond .eq 52, 3) := by decide +kernel
theorem dX0_noteHeads_42 : decode cX0_noteHeads 42 = .ok (.aload_n 0, 1) := by decide +kernel
theorem dX0_noteHeads_43 : decode cX0_noteHeads 43 = .ok (.getfield 42, 3) := by decide +kernel
theorem dX0_noteHeads_46 : decode cX0_noteHeads 46 = .ok (.iload_n 2, 1) := by decide +kernel
theorem dX0_noteHeads_47 : decode cX0_noteHeads 47 = .ok (.iaload, 1) := by decide +kernel
theorem dX0_noteHeads_48 : decode cX0_noteHeads 48 = .ok (.aload_n 0, 1) := by decide +kernel
theorem dX0_noteHeads_49 : decode cX0_noteHeads 49 = .ok (.getfield 42, 3) := by decide +kernel
theorem dX0_noteHeads_52 : decode cX0_noteHeads 52 = .ok (.iload_n 3, 1) := by decide +kernel
theorem dX0_noteHeads_53 : decode cX0_noteHeads 53 = .ok (.iaload, 1) := by decide +kernel
theorem dX0_noteHeads_54 : decode cX0_noteHeads 54 = .ok (.if_icmp .ne 37, 3) := by decide +kernel
theorem dX0_noteHeads_57 : decode cX0_noteHeads 57 = .ok (.aload_n 0, 1) := by decide +kernel
theorem dX0_noteHeads_58 : decode cX0_noteHeads 58 = .ok (.getfield 45, 3) := by decide +kernel
theorem dX0_noteHeads_61 : decode cX0_noteHeads 61 = .ok (.iload_n 2, 1) := by decide +kernel
theorem dX0_noteHeads_62 : decode cX0_noteHeads 62 = .ok (.iaload, 1) := by decide +kernel
theorem dX0_noteHeads_63 : decode cX0_noteHeads 63 = .ok (.aload_n 0, 1) := by decide +kernel
theorem dX0_noteHeads_64 : decode cX0_noteHeads 64 = .ok (.getfield 45, 3) := by decide +kernel
theorem dX0_noteHeads_67 : decode cX0_noteHeads 67 = .ok (.iload_n 3, 1) := by decide +kernel
theorem dX0_noteHeads_68 : decode cX0_noteHeads 68 = .ok (.iaload, 1) := by decide +kernel
theorem dX0_noteHeads_69 : decode cX0_noteHeads 69 = .ok (.if_icmp .eq 22, 3) := by decide +kernel
theorem dX0_noteHeads_72 : decode cX0_noteHeads 72 = .ok (.aload_n 0, 1) := by decide +kernel
theorem dX0_noteHeads_73 : decode cX0_noteHeads 73 = .ok (.getfield 21, 3) := by decide +kernel
theorem dX0_noteHeads_76 : decode cX0_noteHeads 76 = .ok (.iload_n 1, 1) := by decide +kernel
theorem dX0_noteHeads_77 : decode cX0_noteHeads 77 = .ok (.aload_n 0, 1) := by decide +kernel
theorem dX0_noteHeads_78 : decode cX0_noteHeads 78 = .ok (.getfield 42, 3) := by decide +kernel
theorem dX0_noteHeads_81 : decode cX0_noteHeads 81 = .ok (.iload_n 2, 1) := by decide +kernel
theorem dX0_noteHeads_82 : decode cX0_noteHeads 82 = .ok (.iaload, 1) := by decide +kernel
theorem dX0_noteHeads_83 : decode cX0_noteHeads 83 = .ok (.bipush 100, 2) := by decide +kernel
theorem dX0_noteHeads_85 : decode cX0_noteHeads 85 = .ok (.isub, 1) := by decide +kernel
theorem dX0_noteHeads_86 : decode cX0_noteHeads 86 = .ok (.iload_n 2, 1) := by decide +kernel
theorem dX0_noteHeads_87 : decode cX0_noteHeads 87 = .ok (.iload_n 3, 1) := by decide +kernel
theorem dX0_noteHeads_88 : decode cX0_noteHeads 88 = .ok (.invokevirtual 238, 3) := by decide +kernel
theorem dX0_noteHeads_91 : decode cX0_noteHeads 91 = .ok (.iinc 3 1, 3) := by decide +kernel
theorem dX0_noteHeads_94 : decode cX0_noteHeads 94 = .ok (.goto (-74), 3) := by decide +kernel
theorem dX0_noteHeads_97 : decode cX0_noteHeads 97 = .ok (.iinc 2 1, 3) := by decide +kernel
theorem dX0_noteHeads_100 : decode cX0_noteHeads 100 = .ok (.goto (-98), 3) := by decide +kernel
theorem dX0_noteHeads_103 : decode cX0_noteHeads 103 = .ok (.return_, 1) := by decide +kernel
theorem dX1_init_0 : decode cX1_init 0 = .ok (.aload_n 0, 1) := by decide +kernel
theorem dX1_init_1 : decode cX1_init 1 = .ok (.invokespecial 3, 3) := by decide +kernel
theorem dX1_init_4 : decode cX1_init 4 = .ok (.aload_n 0, 1) := by decide +kernel
theorem dX1_init_5 : decode cX1_init 5 = .ok (.iconst 0, 1) := by decide +kernel
theorem dX1_init_6 : decode cX1_init 6 = .ok (.putfield 9, 3) := by decide +kernel
theorem dX1_init_9 : decode cX1_init 9 = .ok (.aload_n 0, 1) := by decide +kernel
theorem dX1_init_10 : decode cX1_init 10 = .ok (.sipush 2505, 3) := by decide +kernel
theorem dX1_init_13 : decode cX1_init 13 = .ok (.newarray .short, 2) := by decide +kernel
theorem dX1_init_15 : decode cX1_init 15 = .ok (.putfield 15, 3) := by decide +kernel
theorem dX1_init_18 : decode cX1_init 18 = .ok (.aload_n 0, 1) := by decide +kernel
theorem dX1_init_19 : decode cX1_init 19 = .ok (.sipush 2505, 3) := by decide +kernel
theorem dX1_init_22 : decode cX1_init 22 = .ok (.newarray .byte, 2) := by decide +kernel
theorem dX1_init_24 : decode cX1_init 24 = .ok (.putfield 19, 3) := by decide +kernel
theorem dX1_init_27 : decode cX1_init 27 = .ok (.aload_n 0, 1) := by decide +kernel
theorem dX1_init_28 : decode cX1_init 28 = .ok (.bipush 35, 2) := by decide +kernel
theorem dX1_init_30 : decode cX1_init 30 = .ok (.newarray .int, 2) := by decide +kernel
theorem dX1_init_32 : decode cX1_init 32 = .ok (.putfield 23, 3) := by decide +kernel
theorem dX1_init_35 : decode cX1_init 35 = .ok (.aload_n 0, 1) := by decide +kernel
theorem dX1_init_36 : decode cX1_init 36 = .ok (.bipush 35, 2) := by decide +kernel
theorem dX1_init_38 : decode cX1_init 38 = .ok (.newarray .int, 2) := by decide +kernel
theorem dX1_init_40 : decode cX1_init 40 = .ok (.putfield 27, 3) := by decide +kernel
theorem dX1_init_43 : decode cX1_init 43 = .ok (.aload_n 0, 1) := by decide +kernel
theorem dX1_init_44 : decode cX1_init 44 = .ok (.iconst 0, 1) := by decide +kernel
theorem dX1_init_45 : decode cX1_init 45 = .ok (.putfield 30, 3) := by decide +kernel
theorem dX1_init_48 : decode cX1_init 48 = .ok (.aload_n 0, 1) := by decide +kernel
theorem dX1_init_49 : decode cX1_init 49 = .ok (.iconst 0, 1) := by decide +kernel
theorem dX1_init_50 : decode cX1_init 50 = .ok (.putfield 33, 3) := by decide +kernel
theorem dX1_init_53 : decode cX1_init 53 = .ok (.aload_n 0, 1) := by decide +kernel
theorem dX1_init_54 : decode cX1_init 54 = .ok (.iconst (-1), 1) := by decide +kernel
theorem dX1_init_55 : decode cX1_init 55 = .ok (.putfield 36, 3) := by decide +kernel
theorem dX1_init_58 : decode cX1_init 58 = .ok (.aload_n 0, 1) := by decide +kernel
theorem dX1_init_59 : decode cX1_init 59 = .ok (.iconst (-1), 1) := by decide +kernel
theorem dX1_init_60 : decode cX1_init 60 = .ok (.putfield 39, 3) := by decide +kernel
theorem dX1_init_63 : decode cX1_init 63 = .ok (.aload_n 0, 1) := by decide +kernel
theorem dX1_init_64 : decode cX1_init 64 = .ok (.iconst (-1), 1) := by decide +kernel
theorem dX1_init_65 : decode cX1_init 65 = .ok (.putfield 42, 3) := by decide +kernel
theorem dX1_init_68 : decode cX1_init 68 = .ok (.aload_n 0, 1) := by decide +kernel
theorem dX1_init_69 : decode cX1_init 69 = .ok (.iconst (-1), 1) := by decide +kernel
theorem dX1_init_70 : decode cX1_init 70 = .ok (.putfield 45, 3) := by decide +kernel
theorem dX1_init_73 : decode cX1_init 73 = .ok (.aload_n 0, 1) := by decide +kernel
theorem dX1_init_74 : decode cX1_init 74 = .ok (.iconst 0, 1) := by decide +kernel
theorem dX1_init_75 : decode cX1_init 75 = .ok (.putfield 48, 3) := by decide +kernel
theorem dX1_init_78 : decode cX1_init 78 = .ok (.aload_n 0, 1) := by decide +kernel
theorem dX1_init_79 : decode cX1_init 79 = .ok (.iconst 0, 1) := by decide +kernel
theorem dX1_init_80 : decode cX1_init 80 = .ok (.putfield 51, 3) := by decide +kernel
theorem dX1_init_83 : decode cX1_init 83 = .ok (.return_, 1) := by decide +kernel
theorem dX1_begin_0 : decode cX1_begin 0 = .ok (.aload_n 0, 1) := by decide +kernel
theorem dX1_begin_1 : decode cX1_begin 1 = .ok (.iconst 0, 1) := by decide +kernel
theorem dX1_begin_2 : decode cX1_begin 2 = .ok (.putfield 9, 3) := by decide +kernel
theorem dX1_begin_5 : decode cX1_begin 5 = .ok (.aload_n 0, 1) := by decide +kernel
theorem dX1_begin_6 : decode cX1_begin 6 = .ok (.getfield 23, 3) := by decide +kernel
theorem dX1_begin_9 : decode cX1_begin 9 = .ok (.iconst (-1), 1) := by decide +kernel
theorem dX1_begin_10 : decode cX1_begin 10 = .ok (.invokestatic 54, 3) := by decide +kernel
theorem dX1_begin_13 : decode cX1_begin 13 = .ok (.aload_n 0, 1) := by decide +kernel
theorem dX1_begin_14 : decode cX1_begin 14 = .ok (.getfield 27, 3) := by decide +kernel
theorem dX1_begin_17 : decode cX1_begin 17 = .ok (.iconst (-1), 1) := by decide +kernel
theorem dX1_begin_18 : decode cX1_begin 18 = .ok (.invokestatic 54, 3) := by decide +kernel
theorem dX1_begin_21 : decode cX1_begin 21 = .ok (.aload_n 0, 1) := by decide +kernel
theorem dX1_begin_22 : decode cX1_begin 22 = .ok (.iconst 0, 1) := by decide +kernel
theorem dX1_begin_23 : decode cX1_begin 23 = .ok (.putfield 30, 3) := by decide +kernel
theorem dX1_begin_26 : decode cX1_begin 26 = .ok (.aload_n 0, 1) := by decide +kernel
theorem dX1_begin_27 : decode cX1_begin 27 = .ok (.iconst 0, 1) := by decide +kernel
theorem dX1_begin_28 : decode cX1_begin 28 = .ok (.putfield 33, 3) := by decide +kernel
theorem dX1_begin_31 : decode cX1_begin 31 = .ok (.aload_n 0, 1) := by decide +kernel
theorem dX1_begin_32 : decode cX1_begin 32 = .ok (.iconst 0, 1) := by decide +kernel
theorem dX1_begin_33 : decode cX1_begin 33 = .ok (.putfield 48, 3) := by decide +kernel
theorem dX1_begin_36 : decode cX1_begin 36 = .ok (.aload_n 0, 1) := by decide +kernel
theorem dX1_begin_37 : decode cX1_begin 37 = .ok (.iconst 0, 1) := by decide +kernel
theorem dX1_begin_38 : decode cX1_begin 38 = .ok (.putfield 51, 3) := by decide +kernel
theorem dX1_begin_41 : decode cX1_begin 41 = .ok (.return_, 1) := by decide +kernel
theorem dX1_noteCame_0 : decode cX1_noteCame 0 = .ok (.iload_n 1, 1) := by decide +kernel
theorem dX1_noteCame_1 : decode cX1_noteCame 1 = .ok (.bipush 7, 2) := by decide +kernel
theorem dX1_noteCame_3 : decode cX1_noteCame 3 = .ok (.imul, 1) := by decide +kernel
theorem dX1_noteCame_4 : decode cX1_noteCame 4 = .ok (.iload_n 2, 1) := by decide +kernel
theorem dX1_noteCame_5 : decode cX1_noteCame 5 = .ok (.iadd, 1) := by decide +kernel
theorem dX1_noteCame_6 : decode cX1_noteCame 6 = .ok (.istore 4, 2) := by decide +kernel
theorem dX1_noteCame_8 : decode cX1_noteCame 8 = .ok (.aload_n 0, 1) := by decide +kernel
theorem dX1_noteCame_9 : decode cX1_noteCame 9 = .ok (.getfield 23, 3) := by decide +kernel
theorem dX1_noteCame_12 : decode cX1_noteCame 12 = .ok (.iload 4, 2) := by decide +kernel
theorem dX1_noteCame_14 : decode cX1_noteCame 14 = .ok (.iaload, 1) := by decide +kernel
theorem dX1_noteCame_15 : decode cX1_noteCame 15 = .ok (.iconst (-1), 1) := by decide +kernel
theorem dX1_noteCame_16 : decode cX1_noteCame 16 = .ok (.if_icmp .ne 11, 3) := by decide +kernel
theorem dX1_noteCame_19 : decode cX1_noteCame 19 = .ok (.aload_n 0, 1) := by decide +kernel
theorem dX1_noteCame_20 : decode cX1_noteCame 20 = .ok (.getfield 23, 3) := by decide +kernel
theorem dX1_noteCame_23 : decode cX1_noteCame 23 = .ok (.iload 4, 2) := by decide +kernel
theorem dX1_noteCame_25 : decode cX1_noteCame 25 = .ok (.iload_n 3, 1) := by decide +kernel
theorem dX1_noteCame_26 : decode cX1_noteCame 26 = .ok (.iastore, 1) := by decide +kernel
theorem dX1_noteCame_27 : decode cX1_noteCame 27 = .ok (.return_, 1) := by decide +kernel
theorem dX1_noteLeft_0 : decode cX1_noteLeft 0 = .ok (.iload_n 1, 1) := by decide +kernel
theorem dX1_noteLeft_1 : decode cX1_noteLeft 1 = .ok (.bipush 7, 2) := by decide +kernel
theorem dX1_noteLeft_3 : decode cX1_noteLeft 3 = .ok (.imul, 1) := by decide +kernel
theorem dX1_noteLeft_4 : decode cX1_noteLeft 4 = .ok (.iload_n 2, 1) := by decide +kernel
theorem dX1_noteLeft_5 : decode cX1_noteLeft 5 = .ok (.iadd, 1) := by decide +kernel
theorem dX1_noteLeft_6 : decode cX1_noteLeft 6 = .ok (.istore 4, 2) := by decide +kernel
theorem dX1_noteLeft_8 : decode cX1_noteLeft 8 = .ok (.aload_n 0, 1) := by decide +kernel
theorem dX1_noteLeft_9 : decode cX1_noteLeft 9 = .ok (.getfield 27, 3) := by decide +kernel
theorem dX1_noteLeft_12 : decode cX1_noteLeft 12 = .ok (.iload 4, 2) := by decide +kernel
theorem dX1_noteLeft_14 : decode cX1_noteLeft 14 = .ok (.iaload, 1) := by decide +kernel
theorem dX1_noteLeft_15 : decode cX1_noteLeft 15 = .ok (.iconst (-1), 1) := by decide +kernel
theorem dX1_noteLeft_16 : decode cX1_noteLeft 16 = .ok (.if_icmp .ne 11, 3) := by decide +kernel
theorem dX1_noteLeft_19 : decode cX1_noteLeft 19 = .ok (.aload_n 0, 1) := by decide +kernel
theorem dX1_noteLeft_20 : decode cX1_noteLeft 20 = .ok (.getfield 27, 3) := by decide +kernel
theorem dX1_noteLeft_23 : decode cX1_noteLeft 23 = .ok (.iload 4, 2) := by decide +kernel
theorem dX1_noteLeft_25 : decode cX1_noteLeft 25 = .ok (.iload_n 3, 1) := by decide +kernel
theorem dX1_noteLeft_26 : decode cX1_noteLeft 26 = .ok (.iastore, 1) := by decide +kernel
theorem dX1_noteLeft_27 : decode cX1_noteLeft 27 = .ok (.return_, 1) := by decide +kernel
theorem dX1_noteReason_0 : decode cX1_noteReason 0 = .ok (.aload_n 0, 1) := by decide +kernel
theorem dX1_noteReason_1 : decode cX1_noteReason 1 = .ok (.getfield 19, 3) := by decide +kernel
theorem dX1_noteReason_4 : decode cX1_noteReason 4 = .ok (.iload_n 1, 1) := by decide +kernel
theorem dX1_noteReason_5 : decode cX1_noteReason 5 = .ok (.sipush 501, 3) := by decide +kernel
theorem dX1_noteReason_8 : decode cX1_noteReason 8 = .ok (.imul, 1) := by decide +kernel
theorem dX1_noteReason_9 : decode cX1_noteReason 9 = .ok (.iload_n 2, 1) := by decide +kernel
theorem dX1_noteReason_10 : decode cX1_noteReason 10 = .ok (.iadd, 1) := by decide +kernel
theorem dX1_noteReason_11 : decode cX1_noteReason 11 = .ok (.iload_n 3, 1) := by decide +kernel
theorem dX1_noteReason_12 : decode cX1_noteReason 12 = .ok (.i2b, 1) := by decide +kernel
theorem dX1_noteReason_13 : decode cX1_noteReason 13 = .ok (.bastore, 1) := by decide +kernel
theorem dX1_noteReason_14 : decode cX1_noteReason 14 = .ok (.return_, 1) := by decide +kernel
theorem dX1_notePlace_0 : decode cX1_notePlace 0 = .ok (.aload_n 0, 1) := by decide +kernel
theorem dX1_notePlace_1 : decode cX1_notePlace 1 = .ok (.getfield 15, 3) := by decide +kernel
theorem dX1_notePlace_4 : decode cX1_notePlace 4 = .ok (.iload_n 1, 1) := by decide +kernel
theorem dX1_notePlace_5 : decode cX1_notePlace 5 = .ok (.sipush 501, 3) := by decide +kernel
theorem dX1_notePlace_8 : decode cX1_notePlace 8 = .ok (.imul, 1) := by decide +kernel
theorem dX1_notePlace_9 : decode cX1_notePlace 9 = .ok (.iload_n 2, 1) := by decide +kernel
theorem dX1_notePlace_10 : decode cX1_notePlace 10 = .ok (.iadd, 1) := by decide +kernel
theorem dX1_notePlace_11 : decode cX1_notePlace 11 = .ok (.iload_n 3, 1) := by decide +kernel
theorem dX1_notePlace_12 : decode cX1_notePlace 12 = .ok (.i2s, 1) := by decide +kernel
theorem dX1_notePlace_13 : decode cX1_notePlace 13 = .ok (.sastore, 1) := by decide +kernel
theorem dX1_notePlace_14 : decode cX1_notePlace 14 = .ok (.aload_n 0, 1) := by decide +kernel
theorem dX1_notePlace_15 : decode cX1_notePlace 15 = .ok (.iload_n 2, 1) := by decide +kernel
theorem dX1_notePlace_16 : decode cX1_notePlace 16 = .ok (.iconst 1, 1) := by decide +kernel
theorem dX1_notePlace_17 : decode cX1_notePlace 17 = .ok (.iadd, 1) := by decide +kernel
theorem dX1_notePlace_18 : decode cX1_notePlace 18 = .ok (.putfield 9, 3) := by decide +kernel
theorem dX1_notePlace_21 : decode cX1_notePlace 21 = .ok (.return_, 1) := by decide +kernel
theorem dX1_noteHead_0 : decode cX1_noteHead 0 = .ok (.iconst 1, 1) := by decide +kernel
theorem dX1_noteHead_1 : decode cX1_noteHead 1 = .ok (.iload_n 3, 1) := by decide +kernel
theorem dX1_noteHead_2 : decode cX1_noteHead 2 = .ok (.iconst 5, 1) := by decide +kernel
theorem dX1_noteHead_3 : decode cX1_noteHead 3 = .ok (.imul, 1) := by decide +kernel
theorem dX1_noteHead_4 : decode cX1_noteHead 4 = .ok (.iload 4, 2) := by decide +kernel
theorem dX1_noteHead_6 : decode cX1_noteHead 6 = .ok (.iadd, 1) := by decide +kernel
theorem dX1_noteHead_7 : decode cX1_noteHead 7 = .ok (.ishl, 1) := by decide +kernel
theorem dX1_noteHead_8 : decode cX1_noteHead 8 = .ok (.istore 5, 2) := by decide +kernel
theorem dX1_noteHead_10 : decode cX1_noteHead 10 = .ok (.aload_n 0, 1) := by decide +kernel
theorem dX1_noteHead_11 : decode cX1_noteHead 11 = .ok (.getfield 30, 3) := by decide +kernel
theorem dX1_noteHead_14 : decode cX1_noteHead 14 = .ok (.iload 5, 2) := by decide +kernel
theorem dX1_noteHead_16 : decode cX1_noteHead 16 = .ok (.iand, 1) := by decide +kernel
theorem dX1_noteHead_17 : decode cX1_noteHead 17 = .ok (.ifCond .eq 4, 3) := by decide +kernel
theorem dX1_noteHead_20 : decode cX1_noteHead 20 = .ok (.return_, 1) := by decide +kernel
theorem dX1_noteHead_21 : decode cX1_noteHead 21 = .ok (.aload_n 0, 1) := by decide +kernel
theorem dX1_noteHead_22 : decode cX1_noteHead 22 = .ok (.dup, 1) := by decide +kernel
theorem dX1_noteHead_23 : decode cX1_noteHead 23 = .ok (.getfield 30, 3) := by decide +kernel
theorem dX1_noteHead_26 : decode cX1_noteHead 26 = .ok (.iload 5, 2) := by decide +kernel
theorem dX1_noteHead_28 : decode cX1_noteHead 28 = .ok (.ior, 1) := by decide +kernel
theorem dX1_noteHead_29 : decode cX1_noteHead 29 = .ok (.putfield 30, 3) := by decide +kernel
theorem dX1_noteHead_32 : decode cX1_noteHead 32 = .ok (.aload_n 0, 1) := by decide +kernel
theorem dX1_noteHead_33 : decode cX1_noteHead 33 = .ok (.getfield 33, 3) := by decide +kernel
theorem dX1_noteHead_36 : decode cX1_noteHead 36 = .ok (.ifCond .ne 24, 3) := by decide +kernel
theorem dX1_noteHead_39 : decode cX1_noteHead 39 = .ok (.aload_n 0, 1) := by decide +kernel
theorem dX1_noteHead_40 : decode cX1_noteHead 40 = .ok (.iload_n 1, 1) := by decide +kernel
theorem dX1_noteHead_41 : decode cX1_noteHead 41 = .ok (.putfield 36, 3) := by decide +kernel
theorem dX1_noteHead_44 : decode cX1_noteHead 44 = .ok (.aload_n 0, 1) := by decide +kernel
theorem dX1_noteHead_45 : decode cX1_noteHead 45 = .ok (.iload_n 2, 1) := by decide +kernel
theorem dX1_noteHead_46 : decode cX1_noteHead 46 = .ok (.putfield 39, 3) := by decide +kernel
theorem dX1_noteHead_49 : decode cX1_noteHead 49 = .ok (.aload_n 0, 1) := by decide +kernel
theorem dX1_noteHead_50 : decode cX1_noteHead 50 = .ok (.iload_n 3, 1) := by decide +kernel
theorem dX1_noteHead_51 : decode cX1_noteHead 51 = .ok (.putfield 42, 3) := by decide +kernel
theorem dX1_noteHead_54 : decode cX1_noteHead 54 = .ok (.aload_n 0, 1) := by decide +kernel
theorem dX1_noteHead_55 : decode cX1_noteHead 55 = .ok (.iload 4, 2) := by decide +kernel
theorem dX1_noteHead_57 : decode cX1_noteHead 57 = .ok (.putfield 45, 3) := by decide +kernel
theorem dX1_noteHead_60 : decode cX1_noteHead 60 = .ok (.aload_n 0, 1) := by decide +kernel
theorem dX1_noteHead_61 : decode cX1_noteHead 61 = .ok (.dup, 1) := by decide +kernel
theorem dX1_noteHead_62 : decode cX1_noteHead 62 = .ok (.getfield 33, 3) := by decide +kernel
theorem dX1_noteHead_65 : decode cX1_noteHead 65 = .ok (.iconst 1, 1) := by decide +kernel
theorem dX1_noteHead_66 : decode cX1_noteHead 66 = .ok (.iadd, 1) := by decide +kernel
theorem dX1_noteHead_67 : decode cX1_noteHead 67 = .ok (.putfield 33, 3) := by decide +kernel
theorem dX1_noteHead_70 : decode cX1_noteHead 70 = .ok (.return_, 1) := by decide +kernel
theorem dX1_placeBehind_0 : decode cX1_placeBehind 0 = .ok (.iload_n 2, 1) := by decide +kernel
theorem dX1_placeBehind_1 : decode cX1_placeBehind 1 = .ok (.aload_n 0, 1) := by decide +kernel
theorem dX1_placeBehind_2 : decode cX1_placeBehind 2 = .ok (.getfield 9, 3) := by decide +kernel
theorem dX1_placeBehind_5 : decode cX1_placeBehind 5 = .ok (.if_icmp .ge 18, 3) := by decide +kernel
theorem dX1_placeBehind_8 : decode cX1_placeBehind 8 = .ok (.aload_n 0, 1) := by decide +kernel
theorem dX1_placeBehind_9 : decode cX1_placeBehind 9 = .ok (.getfield 15, 3) := by decide +kernel
theorem dX1_placeBehind_12 : decode cX1_placeBehind 12 = .ok (.iload_n 1, 1) := by decide +kernel
theorem dX1_placeBehind_13 : decode cX1_placeBehind 13 = .ok (.sipush 501, 3) := by decide +kernel
theorem dX1_placeBehind_16 : decode cX1_placeBehind 16 = .ok (.imul, 1) := by decide +kernel
theorem dX1_placeBehind_17 : decode cX1_placeBehind 17 = .ok (.iload_n 2, 1) := by decide +kernel
theorem dX1_placeBehind_18 : decode cX1_placeBehind 18 = .ok (.iadd, 1) := by decide +kernel
theorem dX1_placeBehind_19 : decode cX1_placeBehind 19 = .ok (.saload, 1) := by decide +kernel
theorem dX1_placeBehind_20 : decode cX1_placeBehind 20 = .ok (.goto 6, 3) := by decide +kernel
theorem dX1_placeBehind_23 : decode cX1_placeBehind 23 = .ok (.sipush 300, 3) := by decide +kernel
theorem dX1_placeBehind_26 : decode cX1_placeBehind 26 = .ok (.ireturn, 1) := by decide +kernel
theorem dX1_reasonIn_0 : decode cX1_reasonIn 0 = .ok (.iload_n 2, 1) := by decide +kernel
theorem dX1_reasonIn_1 : decode cX1_reasonIn 1 = .ok (.aload_n 0, 1) := by decide +kernel
theorem dX1_reasonIn_2 : decode cX1_reasonIn 2 = .ok (.getfield 9, 3) := by decide +kernel
theorem dX1_reasonIn_5 : decode cX1_reasonIn 5 = .ok (.if_icmp .ge 18, 3) := by decide +kernel
theorem dX1_reasonIn_8 : decode cX1_reasonIn 8 = .ok (.aload_n 0, 1) := by decide +kernel
theorem dX1_reasonIn_9 : decode cX1_reasonIn 9 = .ok (.getfield 19, 3) := by decide +kernel
theorem dX1_reasonIn_12 : decode cX1_reasonIn 12 = .ok (.iload_n 1, 1) := by decide +kernel
theorem dX1_reasonIn_13 : decode cX1_reasonIn 13 = .ok (.sipush 501, 3) := by decide +kernel
theorem dX1_reasonIn_16 : decode cX1_reasonIn 16 = .ok (.imul, 1) := by decide +kernel
theorem dX1_reasonIn_17 : decode cX1_reasonIn 17 = .ok (.iload_n 2, 1) := by decide +kernel
theorem dX1_reasonIn_18 : decode cX1_reasonIn 18 = .ok (.iadd, 1) := by decide +kernel
theorem dX1_reasonIn_19 : decode cX1_reasonIn 19 = .ok (.baload, 1) := by decide +kernel
theorem dX1_reasonIn_20 : decode cX1_reasonIn 20 = .ok (.goto 4, 3) := by decide +kernel
theorem dX1_reasonIn_23 : decode cX1_reasonIn 23 = .ok (.iconst (-1), 1) := by decide +kernel
theorem dX1_reasonIn_24 : decode cX1_reasonIn 24 = .ok (.ireturn, 1) := by decide +kernel
theorem dX1_tellHead_0 : decode cX1_tellHead 0 = .ok (.iload_n 1, 1) := by decide +kernel
theorem dX1_tellHead_1 : decode cX1_tellHead 1 = .ok (.tableswitch 42 0 2 #[27, 32, 37], 27) := by decide +kernel
theorem dX1_tellHead_28 : decode cX1_tellHead 28 = .ok (.aload_n 0, 1) := by decide +kernel
theorem dX1_tellHead_29 : decode cX1_tellHead 29 = .ok (.getfield 36, 3) := by decide +kernel
theorem dX1_tellHead_32 : decode cX1_tellHead 32 = .ok (.ireturn, 1) := by decide +kernel
theorem dX1_tellHead_33 : decode cX1_tellHead 33 = .ok (.aload_n 0, 1) := by decide +kernel
theorem dX1_tellHead_34 : decode cX1_tellHead 34 = .ok (.getfield 39, 3) := by decide +kernel
theorem dX1_tellHead_37 : decode cX1_tellHead 37 = .ok (.ireturn, 1) := by decide +kernel
theorem dX1_tellHead_38 : decode cX1_tellHead 38 = .ok (.aload_n 0, 1) := by decide +kernel
theorem dX1_tellHead_39 : decode cX1_tellHead 39 = .ok (.getfield 42, 3) := by decide +kernel
theorem dX1_tellHead_42 : decode cX1_tellHead 42 = .ok (.ireturn, 1) := by decide +kernel
theorem dX1_tellHead_43 : decode cX1_tellHead 43 = .ok (.aload_n 0, 1) := by decide +kernel
theorem dX1_tellHead_44 : decode cX1_tellHead 44 = .ok (.getfield 45, 3) := by decide +kernel
theorem dX1_tellHead_47 : decode cX1_tellHead 47 = .ok (.ireturn, 1) := by decide +kernel
theorem dX2_init_0 : decode cX2_init 0 = .ok (.aload_n 0, 1) := by decide +kernel
theorem dX2_init_1 : decode cX2_init 1 = .ok (.invokespecial 3, 3) := by decide +kernel
theorem dX2_init_4 : decode cX2_init 4 = .ok (.aload_n 0, 1) := by decide +kernel
theorem dX2_init_5 : decode cX2_init 5 = .ok (.bipush 16, 2) := by decide +kernel
theorem dX2_init_7 : decode cX2_init 7 = .ok (.anewarray 9, 3) := by decide +kernel
theorem dX2_init_10 : decode cX2_init 10 = .ok (.putfield 11, 3) := by decide +kernel
theorem dX2_init_13 : decode cX2_init 13 = .ok (.aload_n 0, 1) := by decide +kernel
theorem dX2_init_14 : decode cX2_init 14 = .ok (.iconst 0, 1) := by decide +kernel
theorem dX2_init_15 : decode cX2_init 15 = .ok (.putfield 17, 3) := by decide +kernel
theorem dX2_init_18 : decode cX2_init 18 = .ok (.aload_n 0, 1) := by decide +kernel
theorem dX2_init_19 : decode cX2_init 19 = .ok (.iconst 0, 1) := by decide +kernel
theorem dX2_init_20 : decode cX2_init 20 = .ok (.putfield 21, 3) := by decide +kernel
theorem dX2_init_23 : decode cX2_init 23 = .ok (.iconst 0, 1) := by decide +kernel
theorem dX2_init_24 : decode cX2_init 24 = .ok (.istore_n 1, 1) := by decide +kernel
theorem dX2_init_25 : decode cX2_init 25 = .ok (.iload_n 1, 1) := by decide +kernel
theorem dX2_init_26 : decode cX2_init 26 = .ok (.bipush 16, 2) := by decide +kernel
theorem dX2_init_28 : decode cX2_init 28 = .ok (.if_icmp .ge 22, 3) := by decide +kernel
theorem dX2_init_31 : decode cX2_init 31 = .ok (.aload_n 0, 1) := by decide +kernel
theorem dX2_init_32 : decode cX2_init 32 = .ok (.getfield 11, 3) := by decide +kernel
theorem dX2_init_35 : decode cX2_init 35 = .ok (.iload_n 1, 1) := by decide +kernel
theorem dX2_init_36 : decode cX2_init 36 = .ok (.new 9, 3) := by decide +kernel
theorem dX2_init_39 : decode cX2_init 39 = .ok (.dup, 1) := by decide +kernel
theorem dX2_init_40 : decode cX2_init 40 = .ok (.invokespecial 24, 3) := by decide +kernel
theorem dX2_init_43 : decode cX2_init 43 = .ok (.aastore, 1) := by decide +kernel
theorem dX2_init_44 : decode cX2_init 44 = .ok (.iinc 1 1, 3) := by decide +kernel
theorem dX2_init_47 : decode cX2_init 47 = .ok (.goto (-22), 3) := by decide +kernel
theorem dX2_init_50 : decode cX2_init 50 = .ok (.return_, 1) := by decide +kernel
theorem dX2_keep_0 : decode cX2_keep 0 = .ok (.aload_n 0, 1) := by decide +kernel
theorem dX2_keep_1 : decode cX2_keep 1 = .ok (.getfield 11, 3) := by decide +kernel
theorem dX2_keep_4 : decode cX2_keep 4 = .ok (.aload_n 0, 1) := by decide +kernel
theorem dX2_keep_5 : decode cX2_keep 5 = .ok (.getfield 17, 3) := by decide +kernel
theorem dX2_keep_8 : decode cX2_keep 8 = .ok (.aaload, 1) := by decide +kernel
theorem dX2_keep_9 : decode cX2_keep 9 = .ok (.aload_n 1, 1) := by decide +kernel
theorem dX2_keep_10 : decode cX2_keep 10 = .ok (.invokevirtual 25, 3) := by decide +kernel
theorem dX2_keep_13 : decode cX2_keep 13 = .ok (.aload_n 0, 1) := by decide +kernel
theorem dX2_keep_14 : decode cX2_keep 14 = .ok (.aload_n 0, 1) := by decide +kernel
theorem dX2_keep_15 : decode cX2_keep 15 = .ok (.getfield 17, 3) := by decide +kernel
theorem dX2_keep_18 : decode cX2_keep 18 = .ok (.iconst 1, 1) := by decide +kernel
theorem dX2_keep_19 : decode cX2_keep 19 = .ok (.iadd, 1) := by decide +kernel
theorem dX2_keep_20 : decode cX2_keep 20 = .ok (.bipush 16, 2) := by decide +kernel
theorem dX2_keep_22 : decode cX2_keep 22 = .ok (.irem, 1) := by decide +kernel
theorem dX2_keep_23 : decode cX2_keep 23 = .ok (.putfield 17, 3) := by decide +kernel
theorem dX2_keep_26 : decode cX2_keep 26 = .ok (.aload_n 0, 1) := by decide +kernel
theorem dX2_keep_27 : decode cX2_keep 27 = .ok (.aload_n 0, 1) := by decide +kernel
theorem dX2_keep_28 : decode cX2_keep 28 = .ok (.getfield 21, 3) := by decide +kernel
theorem dX2_keep_31 : decode cX2_keep 31 = .ok (.bipush 16, 2) := by decide +kernel
theorem dX2_keep_33 : decode cX2_keep 33 = .ok (.if_icmp .ge 12, 3) := by decide +kernel
theorem dX2_keep_36 : decode cX2_keep 36 = .ok (.aload_n 0, 1) := by decide +kernel
theorem dX2_keep_37 : decode cX2_keep 37 = .ok (.getfield 21, 3) := by decide +kernel
theorem dX2_keep_40 : decode cX2_keep 40 = .ok (.iconst 1, 1) := by decide +kernel
theorem dX2_keep_41 : decode cX2_keep 41 = .ok (.iadd, 1) := by decide +kernel
theorem dX2_keep_42 : decode cX2_keep 42 = .ok (.goto 5, 3) := by decide +kernel
theorem dX2_keep_45 : decode cX2_keep 45 = .ok (.bipush 16, 2) := by decide +kernel
theorem dX2_keep_47 : decode cX2_keep 47 = .ok (.putfield 21, 3) := by decide +kernel
theorem dX2_keep_50 : decode cX2_keep 50 = .ok (.return_, 1) := by decide +kernel
theorem dX2_giveBack_0 : decode cX2_giveBack 0 = .ok (.aload_n 0, 1) := by decide +kernel
theorem dX2_giveBack_1 : decode cX2_giveBack 1 = .ok (.getfield 21, 3) := by decide +kernel
theorem dX2_giveBack_4 : decode cX2_giveBack 4 = .ok (.ifCond .ne 4, 3) := by decide +kernel
theorem dX2_giveBack_7 : decode cX2_giveBack 7 = .ok (.return_, 1) := by decide +kernel
theorem dX2_giveBack_8 : decode cX2_giveBack 8 = .ok (.aload_n 0, 1) := by decide +kernel
theorem dX2_giveBack_9 : decode cX2_giveBack 9 = .ok (.aload_n 0, 1) := by decide +kernel
theorem dX2_giveBack_10 : decode cX2_giveBack 10 = .ok (.getfield 17, 3) := by decide +kernel
theorem dX2_giveBack_13 : decode cX2_giveBack 13 = .ok (.bipush 16, 2) := by decide +kernel
theorem dX2_giveBack_15 : decode cX2_giveBack 15 = .ok (.iadd, 1) := by decide +kernel
theorem dX2_giveBack_16 : decode cX2_giveBack 16 = .ok (.iconst 1, 1) := by decide +kernel
theorem dX2_giveBack_17 : decode cX2_giveBack 17 = .ok (.isub, 1) := by decide +kernel
theorem dX2_giveBack_18 : decode cX2_giveBack 18 = .ok (.bipush 16, 2) := by decide +kernel
theorem dX2_giveBack_20 : decode cX2_giveBack 20 = .ok (.irem, 1) := by decide +kernel
theorem dX2_giveBack_21 : decode cX2_giveBack 21 = .ok (.putfield 17, 3) := by decide +kernel
theorem dX2_giveBack_24 : decode cX2_giveBack 24 = .ok (.aload_n 0, 1) := by decide +kernel
theorem dX2_giveBack_25 : decode cX2_giveBack 25 = .ok (.dup, 1) := by decide +kernel
theorem dX2_giveBack_26 : decode cX2_giveBack 26 = .ok (.getfield 21, 3) := by decide +kernel
theorem dX2_giveBack_29 : decode cX2_giveBack 29 = .ok (.iconst 1, 1) := by decide +kernel
theorem dX2_giveBack_30 : decode cX2_giveBack 30 = .ok (.isub, 1) := by decide +kernel
theorem dX2_giveBack_31 : decode cX2_giveBack 31 = .ok (.putfield 21, 3) := by decide +kernel
theorem dX2_giveBack_34 : decode cX2_giveBack 34 = .ok (.aload_n 1, 1) := by decide +kernel
theorem dX2_giveBack_35 : decode cX2_giveBack 35 = .ok (.aload_n 0, 1) := by decide +kernel
theorem dX2_giveBack_36 : decode cX2_giveBack 36 = .ok (.getfield 11, 3) := by decide +kernel
theorem dX2_giveBack_39 : decode cX2_giveBack 39 = .ok (.aload_n 0, 1) := by decide +kernel
theorem dX2_giveBack_40 : decode cX2_giveBack 40 = .ok (.getfield 17, 3) := by decide +kernel
theorem dX2_giveBack_43 : decode cX2_giveBack 43 = .ok (.aaload, 1) := by decide +kernel
theorem dX2_giveBack_44 : decode cX2_giveBack 44 = .ok (.invokevirtual 25, 3) := by decide +kernel
theorem dX2_giveBack_47 : decode cX2_giveBack 47 = .ok (.return_, 1) := by decide +kernel
theorem dX3_init_0 : decode cX3_init 0 = .ok (.aload_n 0, 1) := by decide +kernel
theorem dX3_init_1 : decode cX3_init 1 = .ok (.invokespecial 3, 3) := by decide +kernel
theorem dX3_init_4 : decode cX3_init 4 = .ok (.aload_n 0, 1) := by decide +kernel
theorem dX3_init_5 : decode cX3_init 5 = .ok (.new 9, 3) := by decide +kernel
theorem dX3_init_8 : decode cX3_init 8 = .ok (.dup, 1) := by decide +kernel
theorem dX3_init_9 : decode cX3_init 9 = .ok (.invokespecial 11, 3) := by decide +kernel
theorem dX3_init_12 : decode cX3_init 12 = .ok (.putfield 12, 3) := by decide +kernel
theorem dX3_init_15 : decode cX3_init 15 = .ok (.aload_n 0, 1) := by decide +kernel
theorem dX3_init_16 : decode cX3_init 16 = .ok (.new 18, 3) := by decide +kernel
theorem dX3_init_19 : decode cX3_init 19 = .ok (.dup, 1) := by decide +kernel
theorem dX3_init_20 : decode cX3_init 20 = .ok (.invokespecial 20, 3) := by decide +kernel
theorem dX3_init_23 : decode cX3_init 23 = .ok (.putfield 21, 3) := by decide +kernel
theorem dX3_init_26 : decode cX3_init 26 = .ok (.aload_n 0, 1) := by decide +kernel
theorem dX3_init_27 : decode cX3_init 27 = .ok (.new 25, 3) := by decide +kernel
theorem dX3_init_30 : decode cX3_init 30 = .ok (.dup, 1) := by decide +kernel
theorem dX3_init_31 : decode cX3_init 31 = .ok (.invokespecial 27, 3) := by decide +kernel
theorem dX3_init_34 : decode cX3_init 34 = .ok (.putfield 28, 3) := by decide +kernel
theorem dX3_init_37 : decode cX3_init 37 = .ok (.aload_n 0, 1) := by decide +kernel
theorem dX3_init_38 : decode cX3_init 38 = .ok (.iconst 0, 1) := by decide +kernel
theorem dX3_init_39 : decode cX3_init 39 = .ok (.putfield 32, 3) := by decide +kernel
theorem dX3_init_42 : decode cX3_init 42 = .ok (.aload_n 0, 1) := by decide +kernel
theorem dX3_init_43 : decode cX3_init 43 = .ok (.bipush 6, 2) := by decide +kernel
theorem dX3_init_45 : decode cX3_init 45 = .ok (.newarray .int, 2) := by decide +kernel
theorem dX3_init_47 : decode cX3_init 47 = .ok (.putfield 36, 3) := by decide +kernel
theorem dX3_init_50 : decode cX3_init 50 = .ok (.aload_n 0, 1) := by decide +kernel
theorem dX3_init_51 : decode cX3_init 51 = .ok (.bipush 6, 2) := by decide +kernel
theorem dX3_init_53 : decode cX3_init 53 = .ok (.newarray .int, 2) := by decide +kernel
theorem dX3_init_55 : decode cX3_init 55 = .ok (.putfield 40, 3) := by decide +kernel
theorem dX3_init_58 : decode cX3_init 58 = .ok (.return_, 1) := by decide +kernel
theorem dX3_needsMoreThan_0 : decode cX3_needsMoreThan 0 = .ok (.aload_n 0, 1) := by decide +kernel
theorem dX3_needsMoreThan_1 : decode cX3_needsMoreThan 1 = .ok (.getfield 21, 3) := by decide +kernel
theorem dX3_needsMoreThan_4 : decode cX3_needsMoreThan 4 = .ok (.iload_n 1, 1) := by decide +kernel
theorem dX3_needsMoreThan_5 : decode cX3_needsMoreThan 5 = .ok (.invokevirtual 43, 3) := by decide +kernel
theorem dX3_needsMoreThan_8 : decode cX3_needsMoreThan 8 = .ok (.ifCond .ne 14, 3) := by decide +kernel
theorem dX3_needsMoreThan_11 : decode cX3_needsMoreThan 11 = .ok (.aload_n 0, 1) := by decide +kernel
theorem dX3_needsMoreThan_12 : decode cX3_needsMoreThan 12 = .ok (.getfield 28, 3) := by decide +kernel
theorem dX3_needsMoreThan_15 : decode cX3_needsMoreThan 15 = .ok (.iload_n 1, 1) := by decide +kernel
theorem dX3_needsMoreThan_16 : decode cX3_needsMoreThan 16 = .ok (.invokevirtual 47, 3) := by decide +kernel
theorem dX3_needsMoreThan_19 : decode cX3_needsMoreThan 19 = .ok (.ifCond .eq 7, 3) := by decide +kernel
theorem dX3_needsMoreThan_22 : decode cX3_needsMoreThan 22 = .ok (.iconst 1, 1) := by decide +kernel
theorem dX3_needsMoreThan_23 : decode cX3_needsMoreThan 23 = .ok (.goto 4, 3) := by decide +kernel
theorem dX3_needsMoreThan_26 : decode cX3_needsMoreThan 26 = .ok (.iconst 0, 1) := by decide +kernel
theorem dX3_needsMoreThan_27 : decode cX3_needsMoreThan 27 = .ok (.ireturn, 1) := by decide +kernel
theorem dX3_dueAt_0 : decode cX3_dueAt 0 = .ok (.aload_n 0, 1) := by decide +kernel
theorem dX3_dueAt_1 : decode cX3_dueAt 1 = .ok (.getfield 21, 3) := by decide +kernel
theorem dX3_dueAt_4 : decode cX3_dueAt 4 = .ok (.getfield 48, 3) := by decide +kernel
theorem dX3_dueAt_7 : decode cX3_dueAt 7 = .ok (.iload_n 1, 1) := by decide +kernel
theorem dX3_dueAt_8 : decode cX3_dueAt 8 = .ok (.iaload, 1) := by decide +kernel
theorem dX3_dueAt_9 : decode cX3_dueAt 9 = .ok (.aload_n 0, 1) := by decide +kernel
theorem dX3_dueAt_10 : decode cX3_dueAt 10 = .ok (.getfield 12, 3) := by decide +kernel
theorem dX3_dueAt_13 : decode cX3_dueAt 13 = .ok (.aload_n 0, 1) := by decide +kernel
theorem dX3_dueAt_14 : decode cX3_dueAt 14 = .ok (.getfield 21, 3) := by decide +kernel
theorem dX3_dueAt_17 : decode cX3_dueAt 17 = .ok (.getfield 51, 3) := by decide +kernel
theorem dX3_dueAt_20 : decode cX3_dueAt 20 = .ok (.iload_n 1, 1) := by decide +kernel
theorem dX3_dueAt_21 : decode cX3_dueAt 21 = .ok (.iaload, 1) := by decide +kernel
theorem dX3_dueAt_22 : decode cX3_dueAt 22 = .ok (.iload_n 2, 1) := by decide +kernel
theorem dX3_dueAt_23 : decode cX3_dueAt 23 = .ok (.invokevirtual 54, 3) := by decide +kernel
theorem dX3_dueAt_26 : decode cX3_dueAt 26 = .ok (.iadd, 1) := by decide +kernel
theorem dX3_dueAt_27 : decode cX3_dueAt 27 = .ok (.ireturn, 1) := by decide +kernel
theorem dX3_addForced_0 : decode cX3_addForced 0 = .ok (.aload_n 0, 1) := by decide +kernel
theorem dX3_addForced_1 : decode cX3_addForced 1 = .ok (.getfield 36, 3) := by decide +kernel
theorem dX3_addForced_4 : decode cX3_addForced 4 = .ok (.aload_n 0, 1) := by decide +kernel
theorem dX3_addForced_5 : decode cX3_addForced 5 = .ok (.getfield 32, 3) := by decide +kernel
theorem dX3_addForced_8 : decode cX3_addForced 8 = .ok (.iload_n 1, 1) := by decide +kernel
theorem dX3_addForced_9 : decode cX3_addForced 9 = .ok (.iastore, 1) := by decide +kernel
theorem dX3_addForced_10 : decode cX3_addForced 10 = .ok (.aload_n 0, 1) := by decide +kernel
theorem dX3_addForced_11 : decode cX3_addForced 11 = .ok (.getfield 40, 3) := by decide +kernel
theorem dX3_addForced_14 : decode cX3_addForced 14 = .ok (.aload_n 0, 1) := by decide +kernel
theorem dX3_addForced_15 : decode cX3_addForced 15 = .ok (.getfield 32, 3) := by decide +kernel
theorem dX3_addForced_18 : decode cX3_addForced 18 = .ok (.iload_n 2, 1) := by decide +kernel
theorem dX3_addForced_19 : decode cX3_addForced 19 = .ok (.iastore, 1) := by decide +kernel
theorem dX3_addForced_20 : decode cX3_addForced 20 = .ok (.aload_n 0, 1) := by decide +kernel
theorem dX3_addForced_21 : decode cX3_addForced 21 = .ok (.dup, 1) := by decide +kernel
theorem dX3_addForced_22 : decode cX3_addForced 22 = .ok (.getfield 32, 3) := by decide +kernel
theorem dX3_addForced_25 : decode cX3_addForced 25 = .ok (.iconst 1, 1) := by decide +kernel
theorem dX3_addForced_26 : decode cX3_addForced 26 = .ok (.iadd, 1) := by decide +kernel
theorem dX3_addForced_27 : decode cX3_addForced 27 = .ok (.putfield 32, 3) := by decide +kernel
theorem dX3_addForced_30 : decode cX3_addForced 30 = .ok (.aload_n 0, 1) := by decide +kernel
theorem dX3_addForced_31 : decode cX3_addForced 31 = .ok (.getfield 32, 3) := by decide +kernel
theorem dX3_addForced_34 : decode cX3_addForced 34 = .ok (.ireturn, 1) := by decide +kernel
theorem dX3_isForced_0 : decode cX3_isForced 0 = .ok (.iconst 0, 1) := by decide +kernel
theorem dX3_isForced_1 : decode cX3_isForced 1 = .ok (.istore_n 3, 1) := by decide +kernel
theorem dX3_isForced_2 : decode cX3_isForced 2 = .ok (.iload_n 3, 1) := by decide +kernel
theorem dX3_isForced_3 : decode cX3_isForced 3 = .ok (.aload_n 0, 1) := by decide +kernel
theorem dX3_isForced_4 : decode cX3_isForced 4 = .ok (.getfield 32, 3) := by decide +kernel
theorem dX3_isForced_7 : decode cX3_isForced 7 = .ok (.if_icmp .ge 31, 3) := by decide +kernel
theorem dX3_isForced_10 : decode cX3_isForced 10 = .ok (.aload_n 0, 1) := by decide +kernel
theorem dX3_isForced_11 : decode cX3_isForced 11 = .ok (.getfield 36, 3) := by decide +kernel
theorem dX3_isForced_14 : decode cX3_isForced 14 = .ok (.iload_n 3, 1) := by decide +kernel
theorem dX3_isForced_15 : decode cX3_isForced 15 = .ok (.iaload, 1) := by decide +kernel
theorem dX3_isForced_16 : decode cX3_isForced 16 = .ok (.iload_n 1, 1) := by decide +kernel
theorem dX3_isForced_17 : decode cX3_isForced 17 = .ok (.if_icmp .ne 15, 3) := by decide +kernel
theorem dX3_isForced_20 : decode cX3_isForced 20 = .ok (.aload_n 0, 1) := by decide +kernel
theorem dX3_isForced_21 : decode cX3_isForced 21 = .ok (.getfield 40, 3) := by decide +kernel
theorem dX3_isForced_24 : decode cX3_isForced 24 = .ok (.iload_n 3, 1) := by decide +kernel
theorem dX3_isForced_25 : decode cX3_isForced 25 = .ok (.iaload, 1) := by decide +kernel
theorem dX3_isForced_26 : decode cX3_isForced 26 = .ok (.iload_n 2, 1) := by decide +kernel
theorem dX3_isForced_27 : decode cX3_isForced 27 = .ok (.if_icmp .ne 5, 3) := by decide +kernel
theorem dX3_isForced_30 : decode cX3_isForced 30 = .ok (.iconst 1, 1) := by decide +kernel
theorem dX3_isForced_31 : decode cX3_isForced 31 = .ok (.ireturn, 1) := by decide +kernel
theorem dX3_isForced_32 : decode cX3_isForced 32 = .ok (.iinc 3 1, 3) := by decide +kernel
theorem dX3_isForced_35 : decode cX3_isForced 35 = .ok (.goto (-33), 3) := by decide +kernel
theorem dX3_isForced_38 : decode cX3_isForced 38 = .ok (.iconst 0, 1) := by decide +kernel
theorem dX3_isForced_39 : decode cX3_isForced 39 = .ok (.ireturn, 1) := by decide +kernel
theorem dX3_takeFrom_0 : decode cX3_takeFrom 0 = .ok (.aload_n 0, 1) := by decide +kernel
theorem dX3_takeFrom_1 : decode cX3_takeFrom 1 = .ok (.getfield 12, 3) := by decide +kernel
theorem dX3_takeFrom_4 : decode cX3_takeFrom 4 = .ok (.aload_n 1, 1) := by decide +kernel
theorem dX3_takeFrom_5 : decode cX3_takeFrom 5 = .ok (.getfield 12, 3) := by decide +kernel
theorem dX3_takeFrom_8 : decode cX3_takeFrom 8 = .ok (.invokevirtual 58, 3) := by decide +kernel
theorem dX3_takeFrom_11 : decode cX3_takeFrom 11 = .ok (.aload_n 0, 1) := by decide +kernel
theorem dX3_takeFrom_12 : decode cX3_takeFrom 12 = .ok (.getfield 21, 3) := by decide +kernel
theorem dX3_takeFrom_15 : decode cX3_takeFrom 15 = .ok (.aload_n 1, 1) := by decide +kernel
theorem dX3_takeFrom_16 : decode cX3_takeFrom 16 = .ok (.getfield 21, 3) := by decide +kernel
theorem dX3_takeFrom_19 : decode cX3_takeFrom 19 = .ok (.invokevirtual 62, 3) := by decide +kernel
theorem dX3_takeFrom_22 : decode cX3_takeFrom 22 = .ok (.aload_n 0, 1) := by decide +kernel
theorem dX3_takeFrom_23 : decode cX3_takeFrom 23 = .ok (.getfield 28, 3) := by decide +kernel
theorem dX3_takeFrom_26 : decode cX3_takeFrom 26 = .ok (.aload_n 1, 1) := by decide +kernel
theorem dX3_takeFrom_27 : decode cX3_takeFrom 27 = .ok (.getfield 28, 3) := by decide +kernel
theorem dX3_takeFrom_30 : decode cX3_takeFrom 30 = .ok (.invokevirtual 65, 3) := by decide +kernel
theorem dX3_takeFrom_33 : decode cX3_takeFrom 33 = .ok (.aload_n 0, 1) := by decide +kernel
theorem dX3_takeFrom_34 : decode cX3_takeFrom 34 = .ok (.aload_n 1, 1) := by decide +kernel
theorem dX3_takeFrom_35 : decode cX3_takeFrom 35 = .ok (.getfield 32, 3) := by decide +kernel

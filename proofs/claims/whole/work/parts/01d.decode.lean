theorem dX10_siding_8 : decode cX10_siding 8 = .ok (.invokevirtual 74, 3) := by decide +kernel
theorem dX10_siding_11 : decode cX10_siding 11 = .ok (.ifCond .eq 13, 3) := by decide +kernel
theorem dX10_siding_14 : decode cX10_siding 14 = .ok (.iload_n 2, 1) := by decide +kernel
theorem dX10_siding_15 : decode cX10_siding 15 = .ok (.iconst 0, 1) := by decide +kernel
theorem dX10_siding_16 : decode cX10_siding 16 = .ok (.bipush 30, 2) := by decide +kernel
theorem dX10_siding_18 : decode cX10_siding 18 = .ok (.invokestatic 46, 3) := by decide +kernel
theorem dX10_siding_21 : decode cX10_siding 21 = .ok (.ifCond .ne 10, 3) := by decide +kernel
theorem dX10_siding_24 : decode cX10_siding 24 = .ok (.aload_n 0, 1) := by decide +kernel
theorem dX10_siding_25 : decode cX10_siding 25 = .ok (.ldc 50, 2) := by decide +kernel
theorem dX10_siding_27 : decode cX10_siding 27 = .ok (.invokevirtual 51, 3) := by decide +kernel
theorem dX10_siding_30 : decode cX10_siding 30 = .ok (.ireturn, 1) := by decide +kernel
theorem dX10_siding_31 : decode cX10_siding 31 = .ok (.aload_n 0, 1) := by decide +kernel
theorem dX10_siding_32 : decode cX10_siding 32 = .ok (.invokevirtual 62, 3) := by decide +kernel
theorem dX10_siding_35 : decode cX10_siding 35 = .ok (.aload_n 0, 1) := by decide +kernel
theorem dX10_siding_36 : decode cX10_siding 36 = .ok (.getfield 27, 3) := by decide +kernel
theorem dX10_siding_39 : decode cX10_siding 39 = .ok (.getfield 65, 3) := by decide +kernel
theorem dX10_siding_42 : decode cX10_siding 42 = .ok (.getfield 77, 3) := by decide +kernel
theorem dX10_siding_45 : decode cX10_siding 45 = .ok (.iload_n 1, 1) := by decide +kernel
theorem dX10_siding_46 : decode cX10_siding 46 = .ok (.iaload, 1) := by decide +kernel
theorem dX10_siding_47 : decode cX10_siding 47 = .ok (.istore_n 3, 1) := by decide +kernel
theorem dX10_siding_48 : decode cX10_siding 48 = .ok (.aload_n 0, 1) := by decide +kernel
theorem dX10_siding_49 : decode cX10_siding 49 = .ok (.getfield 27, 3) := by decide +kernel
theorem dX10_siding_52 : decode cX10_siding 52 = .ok (.getfield 65, 3) := by decide +kernel
theorem dX10_siding_55 : decode cX10_siding 55 = .ok (.getfield 77, 3) := by decide +kernel
theorem dX10_siding_58 : decode cX10_siding 58 = .ok (.iload_n 1, 1) := by decide +kernel
theorem dX10_siding_59 : decode cX10_siding 59 = .ok (.iload_n 2, 1) := by decide +kernel
theorem dX10_siding_60 : decode cX10_siding 60 = .ok (.iastore, 1) := by decide +kernel
theorem dX10_siding_61 : decode cX10_siding 61 = .ok (.iload_n 3, 1) := by decide +kernel
theorem dX10_siding_62 : decode cX10_siding 62 = .ok (.ireturn, 1) := by decide +kernel
theorem dX10_section_0 : decode cX10_section 0 = .ok (.aload_n 0, 1) := by decide +kernel
theorem dX10_section_1 : decode cX10_section 1 = .ok (.getfield 27, 3) := by decide +kernel
theorem dX10_section_4 : decode cX10_section 4 = .ok (.getfield 65, 3) := by decide +kernel
theorem dX10_section_7 : decode cX10_section 7 = .ok (.iload_n 1, 1) := by decide +kernel
theorem dX10_section_8 : decode cX10_section 8 = .ok (.invokevirtual 81, 3) := by decide +kernel
theorem dX10_section_11 : decode cX10_section 11 = .ok (.ifCond .eq 10, 3) := by decide +kernel
theorem dX10_section_14 : decode cX10_section 14 = .ok (.iload_n 2, 1) := by decide +kernel
theorem dX10_section_15 : decode cX10_section 15 = .ok (.invokestatic 84, 3) := by decide +kernel
theorem dX10_section_18 : decode cX10_section 18 = .ok (.ifCond .ne 10, 3) := by decide +kernel
theorem dX10_section_21 : decode cX10_section 21 = .ok (.aload_n 0, 1) := by decide +kernel
theorem dX10_section_22 : decode cX10_section 22 = .ok (.ldc 50, 2) := by decide +kernel
theorem dX10_section_24 : decode cX10_section 24 = .ok (.invokevirtual 51, 3) := by decide +kernel
theorem dX10_section_27 : decode cX10_section 27 = .ok (.ireturn, 1) := by decide +kernel
theorem dX10_section_28 : decode cX10_section 28 = .ok (.aload_n 0, 1) := by decide +kernel
theorem dX10_section_29 : decode cX10_section 29 = .ok (.invokevirtual 62, 3) := by decide +kernel
theorem dX10_section_32 : decode cX10_section 32 = .ok (.aload_n 0, 1) := by decide +kernel
theorem dX10_section_33 : decode cX10_section 33 = .ok (.getfield 27, 3) := by decide +kernel
theorem dX10_section_36 : decode cX10_section 36 = .ok (.getfield 65, 3) := by decide +kernel
theorem dX10_section_39 : decode cX10_section 39 = .ok (.getfield 87, 3) := by decide +kernel
theorem dX10_section_42 : decode cX10_section 42 = .ok (.iload_n 1, 1) := by decide +kernel
theorem dX10_section_43 : decode cX10_section 43 = .ok (.iaload, 1) := by decide +kernel
theorem dX10_section_44 : decode cX10_section 44 = .ok (.istore_n 3, 1) := by decide +kernel
theorem dX10_section_45 : decode cX10_section 45 = .ok (.aload_n 0, 1) := by decide +kernel
theorem dX10_section_46 : decode cX10_section 46 = .ok (.getfield 27, 3) := by decide +kernel
theorem dX10_section_49 : decode cX10_section 49 = .ok (.getfield 65, 3) := by decide +kernel
theorem dX10_section_52 : decode cX10_section 52 = .ok (.getfield 87, 3) := by decide +kernel
theorem dX10_section_55 : decode cX10_section 55 = .ok (.iload_n 1, 1) := by decide +kernel
theorem dX10_section_56 : decode cX10_section 56 = .ok (.iload_n 2, 1) := by decide +kernel
theorem dX10_section_57 : decode cX10_section 57 = .ok (.iastore, 1) := by decide +kernel
theorem dX10_section_58 : decode cX10_section 58 = .ok (.iload_n 3, 1) := by decide +kernel
theorem dX10_section_59 : decode cX10_section 59 = .ok (.ireturn, 1) := by decide +kernel
theorem dX10_train_0 : decode cX10_train 0 = .ok (.iload_n 1, 1) := by decide +kernel
theorem dX10_train_1 : decode cX10_train 1 = .ok (.iconst 0, 1) := by decide +kernel
theorem dX10_train_2 : decode cX10_train 2 = .ok (.iconst 3, 1) := by decide +kernel
theorem dX10_train_3 : decode cX10_train 3 = .ok (.invokestatic 46, 3) := by decide +kernel
theorem dX10_train_6 : decode cX10_train 6 = .ok (.ifCond .eq 54, 3) := by decide +kernel
theorem dX10_train_9 : decode cX10_train 9 = .ok (.aload_n 0, 1) := by decide +kernel
theorem dX10_train_10 : decode cX10_train 10 = .ok (.getfield 27, 3) := by decide +kernel
theorem dX10_train_13 : decode cX10_train 13 = .ok (.getfield 65, 3) := by decide +kernel
theorem dX10_train_16 : decode cX10_train 16 = .ok (.iload_n 2, 1) := by decide +kernel
theorem dX10_train_17 : decode cX10_train 17 = .ok (.invokevirtual 74, 3) := by decide +kernel
theorem dX10_train_20 : decode cX10_train 20 = .ok (.ifCond .eq 40, 3) := by decide +kernel
theorem dX10_train_23 : decode cX10_train 23 = .ok (.aload_n 0, 1) := by decide +kernel
theorem dX10_train_24 : decode cX10_train 24 = .ok (.getfield 27, 3) := by decide +kernel
theorem dX10_train_27 : decode cX10_train 27 = .ok (.getfield 65, 3) := by decide +kernel
theorem dX10_train_30 : decode cX10_train 30 = .ok (.iload_n 3, 1) := by decide +kernel
theorem dX10_train_31 : decode cX10_train 31 = .ok (.invokevirtual 74, 3) := by decide +kernel
theorem dX10_train_34 : decode cX10_train 34 = .ok (.ifCond .eq 26, 3) := by decide +kernel
theorem dX10_train_37 : decode cX10_train 37 = .ok (.iload 4, 2) := by decide +kernel
theorem dX10_train_39 : decode cX10_train 39 = .ok (.iconst 1, 1) := by decide +kernel
theorem dX10_train_40 : decode cX10_train 40 = .ok (.bipush 30, 2) := by decide +kernel
theorem dX10_train_42 : decode cX10_train 42 = .ok (.invokestatic 46, 3) := by decide +kernel
theorem dX10_train_45 : decode cX10_train 45 = .ok (.ifCond .eq 15, 3) := by decide +kernel
theorem dX10_train_48 : decode cX10_train 48 = .ok (.iload 5, 2) := by decide +kernel
theorem dX10_train_50 : decode cX10_train 50 = .ok (.iconst 0, 1) := by decide +kernel
theorem dX10_train_51 : decode cX10_train 51 = .ok (.sipush 300, 3) := by decide +kernel
theorem dX10_train_54 : decode cX10_train 54 = .ok (.invokestatic 46, 3) := by decide +kernel
theorem dX10_train_57 : decode cX10_train 57 = .ok (.ifCond .ne 10, 3) := by decide +kernel
theorem dX10_train_60 : decode cX10_train 60 = .ok (.aload_n 0, 1) := by decide +kernel
theorem dX10_train_61 : decode cX10_train 61 = .ok (.ldc 50, 2) := by decide +kernel
theorem dX10_train_63 : decode cX10_train 63 = .ok (.invokevirtual 51, 3) := by decide +kernel
theorem dX10_train_66 : decode cX10_train 66 = .ok (.ireturn, 1) := by decide +kernel
theorem dX10_train_67 : decode cX10_train 67 = .ok (.iload_n 2, 1) := by decide +kernel
theorem dX10_train_68 : decode cX10_train 68 = .ok (.iload_n 3, 1) := by decide +kernel
theorem dX10_train_69 : decode cX10_train 69 = .ok (.if_icmp .ne 10, 3) := by decide +kernel
theorem dX10_train_72 : decode cX10_train 72 = .ok (.aload_n 0, 1) := by decide +kernel
theorem dX10_train_73 : decode cX10_train 73 = .ok (.ldc 90, 2) := by decide +kernel
theorem dX10_train_75 : decode cX10_train 75 = .ok (.invokevirtual 51, 3) := by decide +kernel
theorem dX10_train_78 : decode cX10_train 78 = .ok (.ireturn, 1) := by decide +kernel
theorem dX10_train_79 : decode cX10_train 79 = .ok (.aload_n 0, 1) := by decide +kernel
theorem dX10_train_80 : decode cX10_train 80 = .ok (.getfield 27, 3) := by decide +kernel
theorem dX10_train_83 : decode cX10_train 83 = .ok (.getfield 91, 3) := by decide +kernel
theorem dX10_train_86 : decode cX10_train 86 = .ok (.getfield 95, 3) := by decide +kernel
theorem dX10_train_89 : decode cX10_train 89 = .ok (.iconst 5, 1) := by decide +kernel
theorem dX10_train_90 : decode cX10_train 90 = .ok (.if_icmp .lt 10, 3) := by decide +kernel
theorem dX10_train_93 : decode cX10_train 93 = .ok (.aload_n 0, 1) := by decide +kernel
theorem dX10_train_94 : decode cX10_train 94 = .ok (.ldc 98, 2) := by decide +kernel
theorem dX10_train_96 : decode cX10_train 96 = .ok (.invokevirtual 51, 3) := by decide +kernel
theorem dX10_train_99 : decode cX10_train 99 = .ok (.ireturn, 1) := by decide +kernel
theorem dX10_train_100 : decode cX10_train 100 = .ok (.aload_n 0, 1) := by decide +kernel
theorem dX10_train_101 : decode cX10_train 101 = .ok (.invokevirtual 62, 3) := by decide +kernel
theorem dX10_train_104 : decode cX10_train 104 = .ok (.aload_n 0, 1) := by decide +kernel
theorem dX10_train_105 : decode cX10_train 105 = .ok (.getfield 27, 3) := by decide +kernel
theorem dX10_train_108 : decode cX10_train 108 = .ok (.getfield 91, 3) := by decide +kernel
theorem dX10_train_111 : decode cX10_train 111 = .ok (.iload_n 1, 1) := by decide +kernel
theorem dX10_train_112 : decode cX10_train 112 = .ok (.iload_n 2, 1) := by decide +kernel
theorem dX10_train_113 : decode cX10_train 113 = .ok (.iload_n 3, 1) := by decide +kernel
theorem dX10_train_114 : decode cX10_train 114 = .ok (.iload 4, 2) := by decide +kernel
theorem dX10_train_116 : decode cX10_train 116 = .ok (.iload 5, 2) := by decide +kernel
theorem dX10_train_118 : decode cX10_train 118 = .ok (.invokevirtual 99, 3) := by decide +kernel
theorem dX10_train_121 : decode cX10_train 121 = .ok (.ireturn, 1) := by decide +kernel
theorem dX10_as_0 : decode cX10_as 0 = .ok (.aload_n 0, 1) := by decide +kernel
theorem dX10_as_1 : decode cX10_as 1 = .ok (.getfield 27, 3) := by decide +kernel
theorem dX10_as_4 : decode cX10_as 4 = .ok (.getfield 91, 3) := by decide +kernel
theorem dX10_as_7 : decode cX10_as 7 = .ok (.iload_n 1, 1) := by decide +kernel
theorem dX10_as_8 : decode cX10_as 8 = .ok (.invokevirtual 103, 3) := by decide +kernel
theorem dX10_as_11 : decode cX10_as 11 = .ok (.ifCond .eq 12, 3) := by decide +kernel
theorem dX10_as_14 : decode cX10_as 14 = .ok (.iload_n 2, 1) := by decide +kernel
theorem dX10_as_15 : decode cX10_as 15 = .ok (.iconst 0, 1) := by decide +kernel
theorem dX10_as_16 : decode cX10_as 16 = .ok (.iconst 3, 1) := by decide +kernel
theorem dX10_as_17 : decode cX10_as 17 = .ok (.invokestatic 46, 3) := by decide +kernel
theorem dX10_as_20 : decode cX10_as 20 = .ok (.ifCond .ne 10, 3) := by decide +kernel
theorem dX10_as_23 : decode cX10_as 23 = .ok (.aload_n 0, 1) := by decide +kernel
theorem dX10_as_24 : decode cX10_as 24 = .ok (.ldc 50, 2) := by decide +kernel
theorem dX10_as_26 : decode cX10_as 26 = .ok (.invokevirtual 51, 3) := by decide +kernel
theorem dX10_as_29 : decode cX10_as 29 = .ok (.ireturn, 1) := by decide +kernel
theorem dX10_as_30 : decode cX10_as 30 = .ok (.aload_n 0, 1) := by decide +kernel
theorem dX10_as_31 : decode cX10_as 31 = .ok (.getfield 27, 3) := by decide +kernel
theorem dX10_as_34 : decode cX10_as 34 = .ok (.getfield 91, 3) := by decide +kernel
theorem dX10_as_37 : decode cX10_as 37 = .ok (.iload_n 1, 1) := by decide +kernel
theorem dX10_as_38 : decode cX10_as 38 = .ok (.iload_n 2, 1) := by decide +kernel
theorem dX10_as_39 : decode cX10_as 39 = .ok (.invokevirtual 106, 3) := by decide +kernel
theorem dX10_as_42 : decode cX10_as 42 = .ok (.ifCond .eq 7, 3) := by decide +kernel
theorem dX10_as_45 : decode cX10_as 45 = .ok (.iload_n 1, 1) := by decide +kernel
theorem dX10_as_46 : decode cX10_as 46 = .ok (.goto 9, 3) := by decide +kernel
theorem dX10_as_49 : decode cX10_as 49 = .ok (.aload_n 0, 1) := by decide +kernel
theorem dX10_as_50 : decode cX10_as 50 = .ok (.ldc 110, 2) := by decide +kernel
theorem dX10_as_52 : decode cX10_as 52 = .ok (.invokevirtual 51, 3) := by decide +kernel
theorem dX10_as_55 : decode cX10_as 55 = .ok (.ireturn, 1) := by decide +kernel
theorem dX10_of_0 : decode cX10_of 0 = .ok (.aload_n 0, 1) := by decide +kernel
theorem dX10_of_1 : decode cX10_of 1 = .ok (.getfield 27, 3) := by decide +kernel
theorem dX10_of_4 : decode cX10_of 4 = .ok (.getfield 91, 3) := by decide +kernel
theorem dX10_of_7 : decode cX10_of 7 = .ok (.iload_n 1, 1) := by decide +kernel
theorem dX10_of_8 : decode cX10_of 8 = .ok (.invokevirtual 103, 3) := by decide +kernel
theorem dX10_of_11 : decode cX10_of 11 = .ok (.ifCond .eq 12, 3) := by decide +kernel
theorem dX10_of_14 : decode cX10_of 14 = .ok (.iload_n 2, 1) := by decide +kernel
theorem dX10_of_15 : decode cX10_of 15 = .ok (.iconst 0, 1) := by decide +kernel
theorem dX10_of_16 : decode cX10_of 16 = .ok (.iconst 5, 1) := by decide +kernel
theorem dX10_of_17 : decode cX10_of 17 = .ok (.invokestatic 46, 3) := by decide +kernel
theorem dX10_of_20 : decode cX10_of 20 = .ok (.ifCond .ne 10, 3) := by decide +kernel
theorem dX10_of_23 : decode cX10_of 23 = .ok (.aload_n 0, 1) := by decide +kernel
theorem dX10_of_24 : decode cX10_of 24 = .ok (.ldc 50, 2) := by decide +kernel
theorem dX10_of_26 : decode cX10_of 26 = .ok (.invokevirtual 51, 3) := by decide +kernel
theorem dX10_of_29 : decode cX10_of 29 = .ok (.ireturn, 1) := by decide +kernel
theorem dX10_of_30 : decode cX10_of 30 = .ok (.aload_n 0, 1) := by decide +kernel
theorem dX10_of_31 : decode cX10_of 31 = .ok (.getfield 27, 3) := by decide +kernel
theorem dX10_of_34 : decode cX10_of 34 = .ok (.getfield 91, 3) := by decide +kernel
theorem dX10_of_37 : decode cX10_of 37 = .ok (.iload_n 1, 1) := by decide +kernel
theorem dX10_of_38 : decode cX10_of 38 = .ok (.iload_n 2, 1) := by decide +kernel
theorem dX10_of_39 : decode cX10_of 39 = .ok (.invokevirtual 111, 3) := by decide +kernel
theorem dX10_of_42 : decode cX10_of 42 = .ok (.ireturn, 1) := by decide +kernel
theorem dX10_time_0 : decode cX10_time 0 = .ok (.aload_n 0, 1) := by decide +kernel
theorem dX10_time_1 : decode cX10_time 1 = .ok (.getfield 27, 3) := by decide +kernel
theorem dX10_time_4 : decode cX10_time 4 = .ok (.getfield 91, 3) := by decide +kernel
theorem dX10_time_7 : decode cX10_time 7 = .ok (.iload_n 1, 1) := by decide +kernel
theorem dX10_time_8 : decode cX10_time 8 = .ok (.invokevirtual 103, 3) := by decide +kernel
theorem dX10_time_11 : decode cX10_time 11 = .ok (.ifCond .eq 14, 3) := by decide +kernel
theorem dX10_time_14 : decode cX10_time 14 = .ok (.iload_n 2, 1) := by decide +kernel
theorem dX10_time_15 : decode cX10_time 15 = .ok (.iconst 0, 1) := by decide +kernel
theorem dX10_time_16 : decode cX10_time 16 = .ok (.sipush 300, 3) := by decide +kernel
theorem dX10_time_19 : decode cX10_time 19 = .ok (.invokestatic 46, 3) := by decide +kernel
theorem dX10_time_22 : decode cX10_time 22 = .ok (.ifCond .ne 10, 3) := by decide +kernel
theorem dX10_time_25 : decode cX10_time 25 = .ok (.aload_n 0, 1) := by decide +kernel
theorem dX10_time_26 : decode cX10_time 26 = .ok (.ldc 50, 2) := by decide +kernel
theorem dX10_time_28 : decode cX10_time 28 = .ok (.invokevirtual 51, 3) := by decide +kernel
theorem dX10_time_31 : decode cX10_time 31 = .ok (.ireturn, 1) := by decide +kernel
theorem dX10_time_32 : decode cX10_time 32 = .ok (.aload_n 0, 1) := by decide +kernel
theorem dX10_time_33 : decode cX10_time 33 = .ok (.invokevirtual 62, 3) := by decide +kernel
theorem dX10_time_36 : decode cX10_time 36 = .ok (.aload_n 0, 1) := by decide +kernel
theorem dX10_time_37 : decode cX10_time 37 = .ok (.getfield 27, 3) := by decide +kernel
theorem dX10_time_40 : decode cX10_time 40 = .ok (.getfield 91, 3) := by decide +kernel
theorem dX10_time_43 : decode cX10_time 43 = .ok (.getfield 115, 3) := by decide +kernel
theorem dX10_time_46 : decode cX10_time 46 = .ok (.iload_n 1, 1) := by decide +kernel
theorem dX10_time_47 : decode cX10_time 47 = .ok (.iaload, 1) := by decide +kernel
theorem dX10_time_48 : decode cX10_time 48 = .ok (.istore_n 3, 1) := by decide +kernel
theorem dX10_time_49 : decode cX10_time 49 = .ok (.aload_n 0, 1) := by decide +kernel
theorem dX10_time_50 : decode cX10_time 50 = .ok (.getfield 27, 3) := by decide +kernel
theorem dX10_time_53 : decode cX10_time 53 = .ok (.getfield 91, 3) := by decide +kernel
theorem dX10_time_56 : decode cX10_time 56 = .ok (.getfield 115, 3) := by decide +kernel
theorem dX10_time_59 : decode cX10_time 59 = .ok (.iload_n 1, 1) := by decide +kernel
theorem dX10_time_60 : decode cX10_time 60 = .ok (.iload_n 2, 1) := by decide +kernel
theorem dX10_time_61 : decode cX10_time 61 = .ok (.iastore, 1) := by decide +kernel
theorem dX10_time_62 : decode cX10_time 62 = .ok (.iload_n 3, 1) := by decide +kernel
theorem dX10_time_63 : decode cX10_time 63 = .ok (.ireturn, 1) := by decide +kernel
theorem dX10_due_0 : decode cX10_due 0 = .ok (.aload_n 0, 1) := by decide +kernel
theorem dX10_due_1 : decode cX10_due 1 = .ok (.getfield 27, 3) := by decide +kernel
theorem dX10_due_4 : decode cX10_due 4 = .ok (.getfield 91, 3) := by decide +kernel
theorem dX10_due_7 : decode cX10_due 7 = .ok (.iload_n 1, 1) := by decide +kernel
theorem dX10_due_8 : decode cX10_due 8 = .ok (.invokevirtual 103, 3) := by decide +kernel
theorem dX10_due_11 : decode cX10_due 11 = .ok (.ifCond .eq 17, 3) := by decide +kernel
theorem dX10_due_14 : decode cX10_due 14 = .ok (.aload_n 0, 1) := by decide +kernel
theorem dX10_due_15 : decode cX10_due 15 = .ok (.getfield 27, 3) := by decide +kernel
theorem dX10_due_18 : decode cX10_due 18 = .ok (.getfield 65, 3) := by decide +kernel
theorem dX10_due_21 : decode cX10_due 21 = .ok (.iload_n 2, 1) := by decide +kernel
theorem dX10_due_22 : decode cX10_due 22 = .ok (.invokevirtual 74, 3) := by decide +kernel
theorem dX10_due_25 : decode cX10_due 25 = .ok (.ifCond .ne 10, 3) := by decide +kernel
theorem dX10_due_28 : decode cX10_due 28 = .ok (.aload_n 0, 1) := by decide +kernel
theorem dX10_due_29 : decode cX10_due 29 = .ok (.ldc 50, 2) := by decide +kernel
theorem dX10_due_31 : decode cX10_due 31 = .ok (.invokevirtual 51, 3) := by decide +kernel
theorem dX10_due_34 : decode cX10_due 34 = .ok (.ireturn, 1) := by decide +kernel
theorem dX10_due_35 : decode cX10_due 35 = .ok (.aload_n 0, 1) := by decide +kernel
theorem dX10_due_36 : decode cX10_due 36 = .ok (.getfield 27, 3) := by decide +kernel
theorem dX10_due_39 : decode cX10_due 39 = .ok (.getfield 91, 3) := by decide +kernel
theorem dX10_due_42 : decode cX10_due 42 = .ok (.iload_n 1, 1) := by decide +kernel
theorem dX10_due_43 : decode cX10_due 43 = .ok (.iload_n 2, 1) := by decide +kernel
theorem dX10_due_44 : decode cX10_due 44 = .ok (.invokevirtual 118, 3) := by decide +kernel
theorem dX10_due_47 : decode cX10_due 47 = .ok (.ifCond .ne 10, 3) := by decide +kernel
theorem dX10_due_50 : decode cX10_due 50 = .ok (.aload_n 0, 1) := by decide +kernel
theorem dX10_due_51 : decode cX10_due 51 = .ok (.ldc 121, 2) := by decide +kernel
theorem dX10_due_53 : decode cX10_due 53 = .ok (.invokevirtual 51, 3) := by decide +kernel
theorem dX10_due_56 : decode cX10_due 56 = .ok (.ireturn, 1) := by decide +kernel
theorem dX10_due_57 : decode cX10_due 57 = .ok (.aload_n 0, 1) := by decide +kernel
theorem dX10_due_58 : decode cX10_due 58 = .ok (.getfield 27, 3) := by decide +kernel
theorem dX10_due_61 : decode cX10_due 61 = .ok (.iload_n 1, 1) := by decide +kernel
theorem dX10_due_62 : decode cX10_due 62 = .ok (.iload_n 2, 1) := by decide +kernel
theorem dX10_due_63 : decode cX10_due 63 = .ok (.invokevirtual 122, 3) := by decide +kernel
theorem dX10_due_66 : decode cX10_due 66 = .ok (.ireturn, 1) := by decide +kernel
theorem dX10_over_0 : decode cX10_over 0 = .ok (.aload_n 0, 1) := by decide +kernel
theorem dX10_over_1 : decode cX10_over 1 = .ok (.getfield 27, 3) := by decide +kernel
theorem dX10_over_4 : decode cX10_over 4 = .ok (.getfield 91, 3) := by decide +kernel
theorem dX10_over_7 : decode cX10_over 7 = .ok (.iload_n 1, 1) := by decide +kernel
theorem dX10_over_8 : decode cX10_over 8 = .ok (.invokevirtual 103, 3) := by decide +kernel
theorem dX10_over_11 : decode cX10_over 11 = .ok (.ifCond .eq 17, 3) := by decide +kernel
theorem dX10_over_14 : decode cX10_over 14 = .ok (.aload_n 0, 1) := by decide +kernel
theorem dX10_over_15 : decode cX10_over 15 = .ok (.getfield 27, 3) := by decide +kernel
theorem dX10_over_18 : decode cX10_over 18 = .ok (.getfield 91, 3) := by decide +kernel
theorem dX10_over_21 : decode cX10_over 21 = .ok (.iload_n 2, 1) := by decide +kernel
theorem dX10_over_22 : decode cX10_over 22 = .ok (.invokevirtual 103, 3) := by decide +kernel
theorem dX10_over_25 : decode cX10_over 25 = .ok (.ifCond .ne 10, 3) := by decide +kernel
theorem dX10_over_28 : decode cX10_over 28 = .ok (.aload_n 0, 1) := by decide +kernel
theorem dX10_over_29 : decode cX10_over 29 = .ok (.ldc 50, 2) := by decide +kernel
theorem dX10_over_31 : decode cX10_over 31 = .ok (.invokevirtual 51, 3) := by decide +kernel
theorem dX10_over_34 : decode cX10_over 34 = .ok (.ireturn, 1) := by decide +kernel
theorem dX10_over_35 : decode cX10_over 35 = .ok (.aload_n 0, 1) := by decide +kernel
theorem dX10_over_36 : decode cX10_over 36 = .ok (.getfield 27, 3) := by decide +kernel
theorem dX10_over_39 : decode cX10_over 39 = .ok (.getfield 91, 3) := by decide +kernel
theorem dX10_over_42 : decode cX10_over 42 = .ok (.iload_n 1, 1) := by decide +kernel
theorem dX10_over_43 : decode cX10_over 43 = .ok (.iload_n 2, 1) := by decide +kernel
theorem dX10_over_44 : decode cX10_over 44 = .ok (.invokevirtual 125, 3) := by decide +kernel
theorem dX10_over_47 : decode cX10_over 47 = .ok (.ifCond .ne 10, 3) := by decide +kernel
theorem dX10_over_50 : decode cX10_over 50 = .ok (.aload_n 0, 1) := by decide +kernel
theorem dX10_over_51 : decode cX10_over 51 = .ok (.ldc 90, 2) := by decide +kernel
theorem dX10_over_53 : decode cX10_over 53 = .ok (.invokevirtual 51, 3) := by decide +kernel
theorem dX10_over_56 : decode cX10_over 56 = .ok (.ireturn, 1) := by decide +kernel
theorem dX10_over_57 : decode cX10_over 57 = .ok (.aload_n 0, 1) := by decide +kernel
theorem dX10_over_58 : decode cX10_over 58 = .ok (.getfield 27, 3) := by decide +kernel
theorem dX10_over_61 : decode cX10_over 61 = .ok (.getfield 91, 3) := by decide +kernel
theorem dX10_over_64 : decode cX10_over 64 = .ok (.astore_n 3, 1) := by decide +kernel
theorem dX10_over_65 : decode cX10_over 65 = .ok (.aload_n 3, 1) := by decide +kernel
theorem dX10_over_66 : decode cX10_over 66 = .ok (.iload_n 1, 1) := by decide +kernel
theorem dX10_over_67 : decode cX10_over 67 = .ok (.aload_n 3, 1) := by decide +kernel
theorem dX10_over_68 : decode cX10_over 68 = .ok (.iload_n 1, 1) := by decide +kernel
theorem dX10_over_69 : decode cX10_over 69 = .ok (.invokevirtual 128, 3) := by decide +kernel
theorem dX10_over_72 : decode cX10_over 72 = .ok (.invokevirtual 131, 3) := by decide +kernel
theorem dX10_over_75 : decode cX10_over 75 = .ok (.istore 4, 2) := by decide +kernel
theorem dX10_over_77 : decode cX10_over 77 = .ok (.iload 4, 2) := by decide +kernel
theorem dX10_over_79 : decode cX10_over 79 = .ok (.aload_n 3, 1) := by decide +kernel
theorem dX10_over_80 : decode cX10_over 80 = .ok (.iload_n 2, 1) := by decide +kernel
theorem dX10_over_81 : decode cX10_over 81 = .ok (.aload_n 3, 1) := by decide +kernel
theorem dX10_over_82 : decode cX10_over 82 = .ok (.iload_n 2, 1) := by decide +kernel
theorem dX10_over_83 : decode cX10_over 83 = .ok (.invokevirtual 128, 3) := by decide +kernel
theorem dX10_over_86 : decode cX10_over 86 = .ok (.invokevirtual 131, 3) := by decide +kernel
theorem dX10_over_89 : decode cX10_over 89 = .ok (.if_icmp .le 7, 3) := by decide +kernel
theorem dX10_over_92 : decode cX10_over 92 = .ok (.iconst 1, 1) := by decide +kernel
theorem dX10_over_93 : decode cX10_over 93 = .ok (.goto 4, 3) := by decide +kernel
theorem dX10_over_96 : decode cX10_over 96 = .ok (.iconst 0, 1) := by decide +kernel
theorem dX10_over_97 : decode cX10_over 97 = .ok (.ireturn, 1) := by decide +kernel
theorem dX10_meet_0 : decode cX10_meet 0 = .ok (.aload_n 0, 1) := by decide +kernel
theorem dX10_meet_1 : decode cX10_meet 1 = .ok (.iload_n 1, 1) := by decide +kernel
theorem dX10_meet_2 : decode cX10_meet 2 = .ok (.iload_n 2, 1) := by decide +kernel
theorem dX10_meet_3 : decode cX10_meet 3 = .ok (.iload_n 3, 1) := by decide +kernel
theorem dX10_meet_4 : decode cX10_meet 4 = .ok (.invokevirtual 134, 3) := by decide +kernel
theorem dX10_meet_7 : decode cX10_meet 7 = .ok (.istore 4, 2) := by decide +kernel
theorem dX10_meet_9 : decode cX10_meet 9 = .ok (.iload 4, 2) := by decide +kernel
theorem dX10_meet_11 : decode cX10_meet 11 = .ok (.ifCond .eq 10, 3) := by decide +kernel
theorem dX10_meet_14 : decode cX10_meet 14 = .ok (.aload_n 0, 1) := by decide +kernel
theorem dX10_meet_15 : decode cX10_meet 15 = .ok (.iload 4, 2) := by decide +kernel
theorem dX10_meet_17 : decode cX10_meet 17 = .ok (.invokevirtual 51, 3) := by decide +kernel
theorem dX10_meet_20 : decode cX10_meet 20 = .ok (.ireturn, 1) := by decide +kernel
theorem dX10_meet_21 : decode cX10_meet 21 = .ok (.aload_n 0, 1) := by decide +kernel
theorem dX10_meet_22 : decode cX10_meet 22 = .ok (.iconst 0, 1) := by decide +kernel
theorem dX10_meet_23 : decode cX10_meet 23 = .ok (.iload_n 1, 1) := by decide +kernel
theorem dX10_meet_24 : decode cX10_meet 24 = .ok (.iload_n 2, 1) := by decide +kernel
theorem dX10_meet_25 : decode cX10_meet 25 = .ok (.iload_n 3, 1) := by decide +kernel
theorem dX10_meet_26 : decode cX10_meet 26 = .ok (.iconst 0, 1) := by decide +kernel
theorem dX10_meet_27 : decode cX10_meet 27 = .ok (.invokevirtual 138, 3) := by decide +kernel
theorem dX10_meet_30 : decode cX10_meet 30 = .ok (.ireturn, 1) := by decide +kernel
theorem dX10_late_0 : decode cX10_late 0 = .ok (.aload_n 0, 1) := by decide +kernel
theorem dX10_late_1 : decode cX10_late 1 = .ok (.getfield 27, 3) := by decide +kernel
theorem dX10_late_4 : decode cX10_late 4 = .ok (.getfield 91, 3) := by decide +kernel
theorem dX10_late_7 : decode cX10_late 7 = .ok (.iload_n 1, 1) := by decide +kernel
theorem dX10_late_8 : decode cX10_late 8 = .ok (.invokevirtual 103, 3) := by decide +kernel
theorem dX10_late_11 : decode cX10_late 11 = .ok (.ifCond .eq 13, 3) := by decide +kernel
theorem dX10_late_14 : decode cX10_late 14 = .ok (.iload_n 2, 1) := by decide +kernel
theorem dX10_late_15 : decode cX10_late 15 = .ok (.iconst 1, 1) := by decide +kernel
theorem dX10_late_16 : decode cX10_late 16 = .ok (.bipush 120, 2) := by decide +kernel
theorem dX10_late_18 : decode cX10_late 18 = .ok (.invokestatic 46, 3) := by decide +kernel
theorem dX10_late_21 : decode cX10_late 21 = .ok (.ifCond .ne 10, 3) := by decide +kernel
theorem dX10_late_24 : decode cX10_late 24 = .ok (.aload_n 0, 1) := by decide +kernel
theorem dX10_late_25 : decode cX10_late 25 = .ok (.ldc 50, 2) := by decide +kernel
theorem dX10_late_27 : decode cX10_late 27 = .ok (.invokevirtual 51, 3) := by decide +kernel
theorem dX10_late_30 : decode cX10_late 30 = .ok (.ireturn, 1) := by decide +kernel
theorem dX10_late_31 : decode cX10_late 31 = .ok (.aload_n 0, 1) := by decide +kernel
theorem dX10_late_32 : decode cX10_late 32 = .ok (.iconst 1, 1) := by decide +kernel
theorem dX10_late_33 : decode cX10_late 33 = .ok (.iload_n 1, 1) := by decide +kernel
theorem dX10_late_34 : decode cX10_late 34 = .ok (.iconst (-1), 1) := by decide +kernel
theorem dX10_late_35 : decode cX10_late 35 = .ok (.iconst (-1), 1) := by decide +kernel
theorem dX10_late_36 : decode cX10_late 36 = .ok (.iload_n 2, 1) := by decide +kernel
theorem dX10_late_37 : decode cX10_late 37 = .ok (.invokevirtual 138, 3) := by decide +kernel
theorem dX10_late_40 : decode cX10_late 40 = .ok (.ireturn, 1) := by decide +kernel
theorem dX10_wait_0 : decode cX10_wait 0 = .ok (.aload_n 0, 1) := by decide +kernel
theorem dX10_wait_1 : decode cX10_wait 1 = .ok (.getfield 27, 3) := by decide +kernel
theorem dX10_wait_4 : decode cX10_wait 4 = .ok (.getfield 91, 3) := by decide +kernel
theorem dX10_wait_7 : decode cX10_wait 7 = .ok (.iload_n 1, 1) := by decide +kernel
theorem dX10_wait_8 : decode cX10_wait 8 = .ok (.invokevirtual 103, 3) := by decide +kernel
theorem dX10_wait_11 : decode cX10_wait 11 = .ok (.ifCond .eq 28, 3) := by decide +kernel
theorem dX10_wait_14 : decode cX10_wait 14 = .ok (.aload_n 0, 1) := by decide +kernel
theorem dX10_wait_15 : decode cX10_wait 15 = .ok (.getfield 27, 3) := by decide +kernel
theorem dX10_wait_18 : decode cX10_wait 18 = .ok (.getfield 65, 3) := by decide +kernel
theorem dX10_wait_21 : decode cX10_wait 21 = .ok (.iload_n 2, 1) := by decide +kernel
theorem dX10_wait_22 : decode cX10_wait 22 = .ok (.invokevirtual 74, 3) := by decide +kernel
theorem dX10_wait_25 : decode cX10_wait 25 = .ok (.ifCond .eq 14, 3) := by decide +kernel
theorem dX10_wait_28 : decode cX10_wait 28 = .ok (.iload_n 3, 1) := by decide +kernel
theorem dX10_wait_29 : decode cX10_wait 29 = .ok (.iconst 0, 1) := by decide +kernel
theorem dX10_wait_30 : decode cX10_wait 30 = .ok (.sipush 400, 3) := by decide +kernel
theorem dX10_wait_33 : decode cX10_wait 33 = .ok (.invokestatic 46, 3) := by decide +kernel
theorem dX10_wait_36 : decode cX10_wait 36 = .ok (.ifCond .ne 10, 3) := by decide +kernel
theorem dX10_wait_39 : decode cX10_wait 39 = .ok (.aload_n 0, 1) := by decide +kernel
theorem dX10_wait_40 : decode cX10_wait 40 = .ok (.ldc 50, 2) := by decide +kernel
theorem dX10_wait_42 : decode cX10_wait 42 = .ok (.invokevirtual 51, 3) := by decide +kernel
theorem dX10_wait_45 : decode cX10_wait 45 = .ok (.ireturn, 1) := by decide +kernel
theorem dX10_wait_46 : decode cX10_wait 46 = .ok (.aload_n 0, 1) := by decide +kernel
theorem dX10_wait_47 : decode cX10_wait 47 = .ok (.iconst 2, 1) := by decide +kernel
theorem dX10_wait_48 : decode cX10_wait 48 = .ok (.iload_n 1, 1) := by decide +kernel
theorem dX10_wait_49 : decode cX10_wait 49 = .ok (.iconst (-1), 1) := by decide +kernel
theorem dX10_wait_50 : decode cX10_wait 50 = .ok (.iload_n 2, 1) := by decide +kernel
theorem dX10_wait_51 : decode cX10_wait 51 = .ok (.iload_n 3, 1) := by decide +kernel
theorem dX10_wait_52 : decode cX10_wait 52 = .ok (.invokevirtual 138, 3) := by decide +kernel
theorem dX10_wait_55 : decode cX10_wait 55 = .ok (.ireturn, 1) := by decide +kernel
theorem dX10_run_0 : decode cX10_run 0 = .ok (.aload_n 0, 1) := by decide +kernel
theorem dX10_run_1 : decode cX10_run 1 = .ok (.getfield 27, 3) := by decide +kernel
theorem dX10_run_4 : decode cX10_run 4 = .ok (.getfield 91, 3) := by decide +kernel
theorem dX10_run_7 : decode cX10_run 7 = .ok (.iload_n 1, 1) := by decide +kernel
theorem dX10_run_8 : decode cX10_run 8 = .ok (.invokevirtual 103, 3) := by decide +kernel
theorem dX10_run_11 : decode cX10_run 11 = .ok (.ifCond .eq 14, 3) := by decide +kernel
theorem dX10_run_14 : decode cX10_run 14 = .ok (.iload_n 2, 1) := by decide +kernel
theorem dX10_run_15 : decode cX10_run 15 = .ok (.iconst 0, 1) := by decide +kernel
theorem dX10_run_16 : decode cX10_run 16 = .ok (.sipush 400, 3) := by decide +kernel
theorem dX10_run_19 : decode cX10_run 19 = .ok (.invokestatic 46, 3) := by decide +kernel
theorem dX10_run_22 : decode cX10_run 22 = .ok (.ifCond .ne 10, 3) := by decide +kernel
theorem dX10_run_25 : decode cX10_run 25 = .ok (.aload_n 0, 1) := by decide +kernel
theorem dX10_run_26 : decode cX10_run 26 = .ok (.ldc 50, 2) := by decide +kernel
theorem dX10_run_28 : decode cX10_run 28 = .ok (.invokevirtual 51, 3) := by decide +kernel
theorem dX10_run_31 : decode cX10_run 31 = .ok (.ireturn, 1) := by decide +kernel
theorem dX10_run_32 : decode cX10_run 32 = .ok (.aload_n 0, 1) := by decide +kernel
theorem dX10_run_33 : decode cX10_run 33 = .ok (.iconst 3, 1) := by decide +kernel
theorem dX10_run_34 : decode cX10_run 34 = .ok (.iload_n 1, 1) := by decide +kernel
theorem dX10_run_35 : decode cX10_run 35 = .ok (.iconst (-1), 1) := by decide +kernel
theorem dX10_run_36 : decode cX10_run 36 = .ok (.iconst (-1), 1) := by decide +kernel
theorem dX10_run_37 : decode cX10_run 37 = .ok (.iload_n 2, 1) := by decide +kernel
theorem dX10_run_38 : decode cX10_run 38 = .ok (.invokevirtual 138, 3) := by decide +kernel
theorem dX10_run_41 : decode cX10_run 41 = .ok (.ireturn, 1) := by decide +kernel
theorem dX10_annul_0 : decode cX10_annul 0 = .ok (.aload_n 0, 1) := by decide +kernel
theorem dX10_annul_1 : decode cX10_annul 1 = .ok (.getfield 27, 3) := by decide +kernel
theorem dX10_annul_4 : decode cX10_annul 4 = .ok (.getfield 141, 3) := by decide +kernel
theorem dX10_annul_7 : decode cX10_annul 7 = .ok (.iload_n 1, 1) := by decide +kernel
theorem dX10_annul_8 : decode cX10_annul 8 = .ok (.invokevirtual 145, 3) := by decide +kernel
theorem dX10_annul_11 : decode cX10_annul 11 = .ok (.ifCond .ne 10, 3) := by decide +kernel
theorem dX10_annul_14 : decode cX10_annul 14 = .ok (.aload_n 0, 1) := by decide +kernel
theorem dX10_annul_15 : decode cX10_annul 15 = .ok (.ldc 50, 2) := by decide +kernel
theorem dX10_annul_17 : decode cX10_annul 17 = .ok (.invokevirtual 51, 3) := by decide +kernel
theorem dX10_annul_20 : decode cX10_annul 20 = .ok (.ireturn, 1) := by decide +kernel
theorem dX10_annul_21 : decode cX10_annul 21 = .ok (.aload_n 0, 1) := by decide +kernel
theorem dX10_annul_22 : decode cX10_annul 22 = .ok (.iconst 4, 1) := by decide +kernel
theorem dX10_annul_23 : decode cX10_annul 23 = .ok (.iload_n 1, 1) := by decide +kernel
theorem dX10_annul_24 : decode cX10_annul 24 = .ok (.iconst (-1), 1) := by decide +kernel
theorem dX10_annul_25 : decode cX10_annul 25 = .ok (.iconst (-1), 1) := by decide +kernel
theorem dX10_annul_26 : decode cX10_annul 26 = .ok (.iconst 0, 1) := by decide +kernel
theorem dX10_annul_27 : decode cX10_annul 27 = .ok (.invokevirtual 138, 3) := by decide +kernel
theorem dX10_annul_30 : decode cX10_annul 30 = .ok (.ireturn, 1) := by decide +kernel
theorem dX10_hand_0 : decode cX10_hand 0 = .ok (.aload_n 0, 1) := by decide +kernel
theorem dX10_hand_1 : decode cX10_hand 1 = .ok (.getfield 27, 3) := by decide +kernel
theorem dX10_hand_4 : decode cX10_hand 4 = .ok (.getfield 141, 3) := by decide +kernel
theorem dX10_hand_7 : decode cX10_hand 7 = .ok (.iload_n 1, 1) := by decide +kernel
theorem dX10_hand_8 : decode cX10_hand 8 = .ok (.invokevirtual 145, 3) := by decide +kernel
theorem dX10_hand_11 : decode cX10_hand 11 = .ok (.ifCond .eq 28, 3) := by decide +kernel
theorem dX10_hand_14 : decode cX10_hand 14 = .ok (.aload_n 0, 1) := by decide +kernel
theorem dX10_hand_15 : decode cX10_hand 15 = .ok (.getfield 27, 3) := by decide +kernel
theorem dX10_hand_18 : decode cX10_hand 18 = .ok (.getfield 91, 3) := by decide +kernel
theorem dX10_hand_21 : decode cX10_hand 21 = .ok (.iload_n 2, 1) := by decide +kernel
theorem dX10_hand_22 : decode cX10_hand 22 = .ok (.invokevirtual 103, 3) := by decide +kernel
theorem dX10_hand_25 : decode cX10_hand 25 = .ok (.ifCond .eq 14, 3) := by decide +kernel
theorem dX10_hand_28 : decode cX10_hand 28 = .ok (.iload_n 3, 1) := by decide +kernel
theorem dX10_hand_29 : decode cX10_hand 29 = .ok (.iconst 0, 1) := by decide +kernel
theorem dX10_hand_30 : decode cX10_hand 30 = .ok (.sipush 400, 3) := by decide +kernel
theorem dX10_hand_33 : decode cX10_hand 33 = .ok (.invokestatic 46, 3) := by decide +kernel
theorem dX10_hand_36 : decode cX10_hand 36 = .ok (.ifCond .ne 10, 3) := by decide +kernel
theorem dX10_hand_39 : decode cX10_hand 39 = .ok (.aload_n 0, 1) := by decide +kernel
theorem dX10_hand_40 : decode cX10_hand 40 = .ok (.ldc 50, 2) := by decide +kernel
theorem dX10_hand_42 : decode cX10_hand 42 = .ok (.invokevirtual 51, 3) := by decide +kernel
theorem dX10_hand_45 : decode cX10_hand 45 = .ok (.ireturn, 1) := by decide +kernel
theorem dX10_hand_46 : decode cX10_hand 46 = .ok (.aload_n 0, 1) := by decide +kernel
theorem dX10_hand_47 : decode cX10_hand 47 = .ok (.invokevirtual 62, 3) := by decide +kernel
theorem dX10_hand_50 : decode cX10_hand 50 = .ok (.aload_n 0, 1) := by decide +kernel
theorem dX10_hand_51 : decode cX10_hand 51 = .ok (.getfield 27, 3) := by decide +kernel
theorem dX10_hand_54 : decode cX10_hand 54 = .ok (.getfield 141, 3) := by decide +kernel
theorem dX10_hand_57 : decode cX10_hand 57 = .ok (.iload_n 1, 1) := by decide +kernel
theorem dX10_hand_58 : decode cX10_hand 58 = .ok (.iload_n 2, 1) := by decide +kernel
theorem dX10_hand_59 : decode cX10_hand 59 = .ok (.iload_n 3, 1) := by decide +kernel
theorem dX10_hand_60 : decode cX10_hand 60 = .ok (.invokevirtual 148, 3) := by decide +kernel
theorem dX10_hand_63 : decode cX10_hand 63 = .ok (.ireturn, 1) := by decide +kernel
theorem dX10_holds_0 : decode cX10_holds 0 = .ok (.aload_n 0, 1) := by decide +kernel
theorem dX10_holds_1 : decode cX10_holds 1 = .ok (.getfield 27, 3) := by decide +kernel
theorem dX10_holds_4 : decode cX10_holds 4 = .ok (.getfield 91, 3) := by decide +kernel
theorem dX10_holds_7 : decode cX10_holds 7 = .ok (.iload_n 1, 1) := by decide +kernel
theorem dX10_holds_8 : decode cX10_holds 8 = .ok (.invokevirtual 103, 3) := by decide +kernel
theorem dX10_holds_11 : decode cX10_holds 11 = .ok (.ifCond .eq 28, 3) := by decide +kernel
theorem dX10_holds_14 : decode cX10_holds 14 = .ok (.aload_n 0, 1) := by decide +kernel
theorem dX10_holds_15 : decode cX10_holds 15 = .ok (.getfield 27, 3) := by decide +kernel
theorem dX10_holds_18 : decode cX10_holds 18 = .ok (.getfield 141, 3) := by decide +kernel
theorem dX10_holds_21 : decode cX10_holds 21 = .ok (.iload_n 2, 1) := by decide +kernel
theorem dX10_holds_22 : decode cX10_holds 22 = .ok (.invokevirtual 145, 3) := by decide +kernel
theorem dX10_holds_25 : decode cX10_holds 25 = .ok (.ifCond .eq 14, 3) := by decide +kernel
theorem dX10_holds_28 : decode cX10_holds 28 = .ok (.iload_n 3, 1) := by decide +kernel
theorem dX10_holds_29 : decode cX10_holds 29 = .ok (.iconst 0, 1) := by decide +kernel
theorem dX10_holds_30 : decode cX10_holds 30 = .ok (.sipush 500, 3) := by decide +kernel
theorem dX10_holds_33 : decode cX10_holds 33 = .ok (.invokestatic 46, 3) := by decide +kernel
theorem dX10_holds_36 : decode cX10_holds 36 = .ok (.ifCond .ne 10, 3) := by decide +kernel
theorem dX10_holds_39 : decode cX10_holds 39 = .ok (.aload_n 0, 1) := by decide +kernel
theorem dX10_holds_40 : decode cX10_holds 40 = .ok (.ldc 50, 2) := by decide +kernel
theorem dX10_holds_42 : decode cX10_holds 42 = .ok (.invokevirtual 51, 3) := by decide +kernel
theorem dX10_holds_45 : decode cX10_holds 45 = .ok (.ireturn, 1) := by decide +kernel
theorem dX10_holds_46 : decode cX10_holds 46 = .ok (.aload_n 0, 1) := by decide +kernel
theorem dX10_holds_47 : decode cX10_holds 47 = .ok (.getfield 27, 3) := by decide +kernel
theorem dX10_holds_50 : decode cX10_holds 50 = .ok (.getfield 141, 3) := by decide +kernel
theorem dX10_holds_53 : decode cX10_holds 53 = .ok (.iload_n 1, 1) := by decide +kernel
theorem dX10_holds_54 : decode cX10_holds 54 = .ok (.iload_n 3, 1) := by decide +kernel
theorem dX10_holds_55 : decode cX10_holds 55 = .ok (.invokevirtual 151, 3) := by decide +kernel
theorem dX10_holds_58 : decode cX10_holds 58 = .ok (.iload_n 2, 1) := by decide +kernel
theorem dX10_holds_59 : decode cX10_holds 59 = .ok (.ishr, 1) := by decide +kernel
theorem dX10_holds_60 : decode cX10_holds 60 = .ok (.iconst 1, 1) := by decide +kernel
theorem dX10_holds_61 : decode cX10_holds 61 = .ok (.iand, 1) := by decide +kernel
theorem dX10_holds_62 : decode cX10_holds 62 = .ok (.ireturn, 1) := by decide +kernel
theorem dX10_order_0 : decode cX10_order 0 = .ok (.aload_n 0, 1) := by decide +kernel
theorem dX10_order_1 : decode cX10_order 1 = .ok (.getfield 27, 3) := by decide +kernel
theorem dX10_order_4 : decode cX10_order 4 = .ok (.getfield 141, 3) := by decide +kernel
theorem dX10_order_7 : decode cX10_order 7 = .ok (.iload_n 1, 1) := by decide +kernel
theorem dX10_order_8 : decode cX10_order 8 = .ok (.invokevirtual 145, 3) := by decide +kernel
theorem dX10_order_11 : decode cX10_order 11 = .ok (.ifCond .eq 12, 3) := by decide +kernel
theorem dX10_order_14 : decode cX10_order 14 = .ok (.iload_n 2, 1) := by decide +kernel
theorem dX10_order_15 : decode cX10_order 15 = .ok (.iconst 0, 1) := by decide +kernel
theorem dX10_order_16 : decode cX10_order 16 = .ok (.iconst 5, 1) := by decide +kernel
theorem dX10_order_17 : decode cX10_order 17 = .ok (.invokestatic 46, 3) := by decide +kernel
theorem dX10_order_20 : decode cX10_order 20 = .ok (.ifCond .ne 10, 3) := by decide +kernel
theorem dX10_order_23 : decode cX10_order 23 = .ok (.aload_n 0, 1) := by decide +kernel
theorem dX10_order_24 : decode cX10_order 24 = .ok (.ldc 50, 2) := by decide +kernel
theorem dX10_order_26 : decode cX10_order 26 = .ok (.invokevirtual 51, 3) := by decide +kernel
theorem dX10_order_29 : decode cX10_order 29 = .ok (.ireturn, 1) := by decide +kernel
theorem dX10_order_30 : decode cX10_order 30 = .ok (.aload_n 0, 1) := by decide +kernel
theorem dX10_order_31 : decode cX10_order 31 = .ok (.getfield 27, 3) := by decide +kernel
theorem dX10_order_34 : decode cX10_order 34 = .ok (.getfield 141, 3) := by decide +kernel
theorem dX10_order_37 : decode cX10_order 37 = .ok (.iload_n 1, 1) := by decide +kernel
theorem dX10_order_38 : decode cX10_order 38 = .ok (.iload_n 2, 1) := by decide +kernel
theorem dX10_order_39 : decode cX10_order 39 = .ok (.invokevirtual 154, 3) := by decide +kernel
theorem dX10_order_42 : decode cX10_order 42 = .ok (.ireturn, 1) := by decide +kernel
theorem dX10_force_0 : decode cX10_force 0 = .ok (.aload_n 0, 1) := by decide +kernel
theorem dX10_force_1 : decode cX10_force 1 = .ok (.getfield 27, 3) := by decide +kernel
theorem dX10_force_4 : decode cX10_force 4 = .ok (.getfield 91, 3) := by decide +kernel
theorem dX10_force_7 : decode cX10_force 7 = .ok (.iload_n 1, 1) := by decide +kernel
theorem dX10_force_8 : decode cX10_force 8 = .ok (.invokevirtual 103, 3) := by decide +kernel
theorem dX10_force_11 : decode cX10_force 11 = .ok (.ifCond .eq 14, 3) := by decide +kernel
theorem dX10_force_14 : decode cX10_force 14 = .ok (.iload_n 2, 1) := by decide +kernel
theorem dX10_force_15 : decode cX10_force 15 = .ok (.iconst 0, 1) := by decide +kernel
theorem dX10_force_16 : decode cX10_force 16 = .ok (.sipush 500, 3) := by decide +kernel
theorem dX10_force_19 : decode cX10_force 19 = .ok (.invokestatic 46, 3) := by decide +kernel
theorem dX10_force_22 : decode cX10_force 22 = .ok (.ifCond .ne 10, 3) := by decide +kernel
theorem dX10_force_25 : decode cX10_force 25 = .ok (.aload_n 0, 1) := by decide +kernel
theorem dX10_force_26 : decode cX10_force 26 = .ok (.ldc 50, 2) := by decide +kernel
theorem dX10_force_28 : decode cX10_force 28 = .ok (.invokevirtual 51, 3) := by decide +kernel
theorem dX10_force_31 : decode cX10_force 31 = .ok (.ireturn, 1) := by decide +kernel
theorem dX10_force_32 : decode cX10_force 32 = .ok (.aload_n 0, 1) := by decide +kernel
theorem dX10_force_33 : decode cX10_force 33 = .ok (.getfield 27, 3) := by decide +kernel
theorem dX10_force_36 : decode cX10_force 36 = .ok (.getfield 155, 3) := by decide +kernel
theorem dX10_force_39 : decode cX10_force 39 = .ok (.bipush 6, 2) := by decide +kernel
theorem dX10_force_41 : decode cX10_force 41 = .ok (.if_icmp .lt 10, 3) := by decide +kernel
theorem dX10_force_44 : decode cX10_force 44 = .ok (.aload_n 0, 1) := by decide +kernel
theorem dX10_force_45 : decode cX10_force 45 = .ok (.ldc 98, 2) := by decide +kernel
theorem dX10_force_47 : decode cX10_force 47 = .ok (.invokevirtual 51, 3) := by decide +kernel
theorem dX10_force_50 : decode cX10_force 50 = .ok (.ireturn, 1) := by decide +kernel
theorem dX10_force_51 : decode cX10_force 51 = .ok (.aload_n 0, 1) := by decide +kernel
theorem dX10_force_52 : decode cX10_force 52 = .ok (.invokevirtual 62, 3) := by decide +kernel
theorem dX10_force_55 : decode cX10_force 55 = .ok (.aload_n 0, 1) := by decide +kernel
theorem dX10_force_56 : decode cX10_force 56 = .ok (.getfield 27, 3) := by decide +kernel
theorem dX10_force_59 : decode cX10_force 59 = .ok (.iload_n 1, 1) := by decide +kernel
theorem dX10_force_60 : decode cX10_force 60 = .ok (.iload_n 2, 1) := by decide +kernel
theorem dX10_force_61 : decode cX10_force 61 = .ok (.invokevirtual 158, 3) := by decide +kernel
theorem dX10_force_64 : decode cX10_force 64 = .ok (.ireturn, 1) := by decide +kernel
theorem dX10_where_0 : decode cX10_where 0 = .ok (.aload_n 0, 1) := by decide +kernel
theorem dX10_where_1 : decode cX10_where 1 = .ok (.getfield 27, 3) := by decide +kernel
theorem dX10_where_4 : decode cX10_where 4 = .ok (.getfield 91, 3) := by decide +kernel
theorem dX10_where_7 : decode cX10_where 7 = .ok (.iload_n 1, 1) := by decide +kernel
theorem dX10_where_8 : decode cX10_where 8 = .ok (.invokevirtual 103, 3) := by decide +kernel
theorem dX10_where_11 : decode cX10_where 11 = .ok (.ifCond .eq 14, 3) := by decide +kernel
theorem dX10_where_14 : decode cX10_where 14 = .ok (.iload_n 2, 1) := by decide +kernel
theorem dX10_where_15 : decode cX10_where 15 = .ok (.iconst 0, 1) := by decide +kernel
theorem dX10_where_16 : decode cX10_where 16 = .ok (.sipush 500, 3) := by decide +kernel
theorem dX10_where_19 : decode cX10_where 19 = .ok (.invokestatic 46, 3) := by decide +kernel
theorem dX10_where_22 : decode cX10_where 22 = .ok (.ifCond .ne 10, 3) := by decide +kernel
theorem dX10_where_25 : decode cX10_where 25 = .ok (.aload_n 0, 1) := by decide +kernel
theorem dX10_where_26 : decode cX10_where 26 = .ok (.ldc 50, 2) := by decide +kernel
theorem dX10_where_28 : decode cX10_where 28 = .ok (.invokevirtual 51, 3) := by decide +kernel
theorem dX10_where_31 : decode cX10_where 31 = .ok (.ireturn, 1) := by decide +kernel
theorem dX10_where_32 : decode cX10_where 32 = .ok (.aload_n 0, 1) := by decide +kernel
theorem dX10_where_33 : decode cX10_where 33 = .ok (.getfield 20, 3) := by decide +kernel
theorem dX10_where_36 : decode cX10_where 36 = .ok (.invokevirtual 161, 3) := by decide +kernel
theorem dX10_where_39 : decode cX10_where 39 = .ok (.iload_n 1, 1) := by decide +kernel
theorem dX10_where_40 : decode cX10_where 40 = .ok (.iload_n 2, 1) := by decide +kernel
theorem dX10_where_41 : decode cX10_where 41 = .ok (.invokevirtual 165, 3) := by decide +kernel
theorem dX10_where_44 : decode cX10_where 44 = .ok (.ireturn, 1) := by decide +kernel
theorem dX10_came_0 : decode cX10_came 0 = .ok (.aload_n 0, 1) := by decide +kernel
theorem dX10_came_1 : decode cX10_came 1 = .ok (.getfield 27, 3) := by decide +kernel
theorem dX10_came_4 : decode cX10_came 4 = .ok (.getfield 91, 3) := by decide +kernel
theorem dX10_came_7 : decode cX10_came 7 = .ok (.iload_n 1, 1) := by decide +kernel
theorem dX10_came_8 : decode cX10_came 8 = .ok (.invokevirtual 103, 3) := by decide +kernel
theorem dX10_came_11 : decode cX10_came 11 = .ok (.ifCond .eq 17, 3) := by decide +kernel
theorem dX10_came_14 : decode cX10_came 14 = .ok (.aload_n 0, 1) := by decide +kernel
theorem dX10_came_15 : decode cX10_came 15 = .ok (.getfield 27, 3) := by decide +kernel
theorem dX10_came_18 : decode cX10_came 18 = .ok (.getfield 65, 3) := by decide +kernel
theorem dX10_came_21 : decode cX10_came 21 = .ok (.iload_n 2, 1) := by decide +kernel
theorem dX10_came_22 : decode cX10_came 22 = .ok (.invokevirtual 74, 3) := by decide +kernel
theorem dX10_came_25 : decode cX10_came 25 = .ok (.ifCond .ne 10, 3) := by decide +kernel
theorem dX10_came_28 : decode cX10_came 28 = .ok (.aload_n 0, 1) := by decide +kernel
theorem dX10_came_29 : decode cX10_came 29 = .ok (.ldc 50, 2) := by decide +kernel
theorem dX10_came_31 : decode cX10_came 31 = .ok (.invokevirtual 51, 3) := by decide +kernel
theorem dX10_came_34 : decode cX10_came 34 = .ok (.ireturn, 1) := by decide +kernel
theorem dX10_came_35 : decode cX10_came 35 = .ok (.aload_n 0, 1) := by decide +kernel
theorem dX10_came_36 : decode cX10_came 36 = .ok (.getfield 20, 3) := by decide +kernel
theorem dX10_came_39 : decode cX10_came 39 = .ok (.invokevirtual 161, 3) := by decide +kernel
theorem dX10_came_42 : decode cX10_came 42 = .ok (.getfield 170, 3) := by decide +kernel
theorem dX10_came_45 : decode cX10_came 45 = .ok (.iload_n 1, 1) := by decide +kernel
theorem dX10_came_46 : decode cX10_came 46 = .ok (.bipush 7, 2) := by decide +kernel
theorem dX10_came_48 : decode cX10_came 48 = .ok (.imul, 1) := by decide +kernel
theorem dX10_came_49 : decode cX10_came 49 = .ok (.iload_n 2, 1) := by decide +kernel
theorem dX10_came_50 : decode cX10_came 50 = .ok (.iadd, 1) := by decide +kernel
theorem dX10_came_51 : decode cX10_came 51 = .ok (.iaload, 1) := by decide +kernel
theorem dX10_came_52 : decode cX10_came 52 = .ok (.istore_n 3, 1) := by decide +kernel
theorem dX10_came_53 : decode cX10_came 53 = .ok (.iload_n 3, 1) := by decide +kernel
theorem dX10_came_54 : decode cX10_came 54 = .ok (.iconst (-1), 1) := by decide +kernel
theorem dX10_came_55 : decode cX10_came 55 = .ok (.if_icmp .ne 12, 3) := by decide +kernel
theorem dX10_came_58 : decode cX10_came 58 = .ok (.aload_n 0, 1) := by decide +kernel
theorem dX10_came_59 : decode cX10_came 59 = .ok (.ldc 121, 2) := by decide +kernel
theorem dX10_came_61 : decode cX10_came 61 = .ok (.invokevirtual 51, 3) := by decide +kernel
theorem dX10_came_64 : decode cX10_came 64 = .ok (.goto 4, 3) := by decide +kernel
theorem dX10_came_67 : decode cX10_came 67 = .ok (.iload_n 3, 1) := by decide +kernel
theorem dX10_came_68 : decode cX10_came 68 = .ok (.ireturn, 1) := by decide +kernel
theorem dX10_left_0 : decode cX10_left 0 = .ok (.aload_n 0, 1) := by decide +kernel
theorem dX10_left_1 : decode cX10_left 1 = .ok (.getfield 27, 3) := by decide +kernel
theorem dX10_left_4 : decode cX10_left 4 = .ok (.getfield 91, 3) := by decide +kernel
theorem dX10_left_7 : decode cX10_left 7 = .ok (.iload_n 1, 1) := by decide +kernel
theorem dX10_left_8 : decode cX10_left 8 = .ok (.invokevirtual 103, 3) := by decide +kernel
theorem dX10_left_11 : decode cX10_left 11 = .ok (.ifCond .eq 17, 3) := by decide +kernel
theorem dX10_left_14 : decode cX10_left 14 = .ok (.aload_n 0, 1) := by decide +kernel
theorem dX10_left_15 : decode cX10_left 15 = .ok (.getfield 27, 3) := by decide +kernel
theorem dX10_left_18 : decode cX10_left 18 = .ok (.getfield 65, 3) := by decide +kernel
theorem dX10_left_21 : decode cX10_left 21 = .ok (.iload_n 2, 1) := by decide +kernel
theorem dX10_left_22 : decode cX10_left 22 = .ok (.invokevirtual 74, 3) := by decide +kernel
theorem dX10_left_25 : decode cX10_left 25 = .ok (.ifCond .ne 10, 3) := by decide +kernel
theorem dX10_left_28 : decode cX10_left 28 = .ok (.aload_n 0, 1) := by decide +kernel
theorem dX10_left_29 : decode cX10_left 29 = .ok (.ldc 50, 2) := by decide +kernel
theorem dX10_left_31 : decode cX10_left 31 = .ok (.invokevirtual 51, 3) := by decide +kernel
theorem dX10_left_34 : decode cX10_left 34 = .ok (.ireturn, 1) := by decide +kernel
theorem dX10_left_35 : decode cX10_left 35 = .ok (.aload_n 0, 1) := by decide +kernel
theorem dX10_left_36 : decode cX10_left 36 = .ok (.getfield 20, 3) := by decide +kernel
theorem dX10_left_39 : decode cX10_left 39 = .ok (.invokevirtual 161, 3) := by decide +kernel
theorem dX10_left_42 : decode cX10_left 42 = .ok (.getfield 173, 3) := by decide +kernel
theorem dX10_left_45 : decode cX10_left 45 = .ok (.iload_n 1, 1) := by decide +kernel
theorem dX10_left_46 : decode cX10_left 46 = .ok (.bipush 7, 2) := by decide +kernel
theorem dX10_left_48 : decode cX10_left 48 = .ok (.imul, 1) := by decide +kernel
theorem dX10_left_49 : decode cX10_left 49 = .ok (.iload_n 2, 1) := by decide +kernel
theorem dX10_left_50 : decode cX10_left 50 = .ok (.iadd, 1) := by decide +kernel
theorem dX10_left_51 : decode cX10_left 51 = .ok (.iaload, 1) := by decide +kernel
theorem dX10_left_52 : decode cX10_left 52 = .ok (.istore_n 3, 1) := by decide +kernel
theorem dX10_left_53 : decode cX10_left 53 = .ok (.iload_n 3, 1) := by decide +kernel
theorem dX10_left_54 : decode cX10_left 54 = .ok (.iconst (-1), 1) := by decide +kernel
theorem dX10_left_55 : decode cX10_left 55 = .ok (.if_icmp .ne 12, 3) := by decide +kernel
theorem dX10_left_58 : decode cX10_left 58 = .ok (.aload_n 0, 1) := by decide +kernel
theorem dX10_left_59 : decode cX10_left 59 = .ok (.ldc 121, 2) := by decide +kernel
theorem dX10_left_61 : decode cX10_left 61 = .ok (.invokevirtual 51, 3) := by decide +kernel
theorem dX10_left_64 : decode cX10_left 64 = .ok (.goto 4, 3) := by decide +kernel
theorem dX10_left_67 : decode cX10_left 67 = .ok (.iload_n 3, 1) := by decide +kernel
theorem dX10_left_68 : decode cX10_left 68 = .ok (.ireturn, 1) := by decide +kernel
theorem dX10_why_0 : decode cX10_why 0 = .ok (.aload_n 0, 1) := by decide +kernel
theorem dX10_why_1 : decode cX10_why 1 = .ok (.getfield 27, 3) := by decide +kernel
theorem dX10_why_4 : decode cX10_why 4 = .ok (.getfield 91, 3) := by decide +kernel
theorem dX10_why_7 : decode cX10_why 7 = .ok (.iload_n 1, 1) := by decide +kernel
theorem dX10_why_8 : decode cX10_why 8 = .ok (.invokevirtual 103, 3) := by decide +kernel
theorem dX10_why_11 : decode cX10_why 11 = .ok (.ifCond .eq 14, 3) := by decide +kernel
theorem dX10_why_14 : decode cX10_why 14 = .ok (.iload_n 2, 1) := by decide +kernel
theorem dX10_why_15 : decode cX10_why 15 = .ok (.iconst 0, 1) := by decide +kernel
theorem dX10_why_16 : decode cX10_why 16 = .ok (.sipush 500, 3) := by decide +kernel
theorem dX10_why_19 : decode cX10_why 19 = .ok (.invokestatic 46, 3) := by decide +kernel
theorem dX10_why_22 : decode cX10_why 22 = .ok (.ifCond .ne 10, 3) := by decide +kernel
theorem dX10_why_25 : decode cX10_why 25 = .ok (.aload_n 0, 1) := by decide +kernel
theorem dX10_why_26 : decode cX10_why 26 = .ok (.ldc 50, 2) := by decide +kernel
theorem dX10_why_28 : decode cX10_why 28 = .ok (.invokevirtual 51, 3) := by decide +kernel
theorem dX10_why_31 : decode cX10_why 31 = .ok (.ireturn, 1) := by decide +kernel
theorem dX10_why_32 : decode cX10_why 32 = .ok (.aload_n 0, 1) := by decide +kernel
theorem dX10_why_33 : decode cX10_why 33 = .ok (.getfield 20, 3) := by decide +kernel
theorem dX10_why_36 : decode cX10_why 36 = .ok (.invokevirtual 161, 3) := by decide +kernel
theorem dX10_why_39 : decode cX10_why 39 = .ok (.iload_n 1, 1) := by decide +kernel
theorem dX10_why_40 : decode cX10_why 40 = .ok (.iload_n 2, 1) := by decide +kernel
theorem dX10_why_41 : decode cX10_why 41 = .ok (.invokevirtual 176, 3) := by decide +kernel
theorem dX10_why_44 : decode cX10_why 44 = .ok (.istore_n 3, 1) := by decide +kernel
theorem dX10_why_45 : decode cX10_why 45 = .ok (.iload_n 3, 1) := by decide +kernel
theorem dX10_why_46 : decode cX10_why 46 = .ok (.iconst (-1), 1) := by decide +kernel
theorem dX10_why_47 : decode cX10_why 47 = .ok (.if_icmp .ne 12, 3) := by decide +kernel
theorem dX10_why_50 : decode cX10_why 50 = .ok (.aload_n 0, 1) := by decide +kernel
theorem dX10_why_51 : decode cX10_why 51 = .ok (.ldc 121, 2) := by decide +kernel
theorem dX10_why_53 : decode cX10_why 53 = .ok (.invokevirtual 51, 3) := by decide +kernel
theorem dX10_why_56 : decode cX10_why 56 = .ok (.goto 4, 3) := by decide +kernel
theorem dX10_why_59 : decode cX10_why 59 = .ok (.iload_n 3, 1) := by decide +kernel
theorem dX10_why_60 : decode cX10_why 60 = .ok (.ireturn, 1) := by decide +kernel
theorem dX10_heads_0 : decode cX10_heads 0 = .ok (.aload_n 0, 1) := by decide +kernel
theorem dX10_heads_1 : decode cX10_heads 1 = .ok (.getfield 20, 3) := by decide +kernel
theorem dX10_heads_4 : decode cX10_heads 4 = .ok (.invokevirtual 161, 3) := by decide +kernel
theorem dX10_heads_7 : decode cX10_heads 7 = .ok (.getfield 179, 3) := by decide +kernel
theorem dX10_heads_10 : decode cX10_heads 10 = .ok (.ireturn, 1) := by decide +kernel
theorem dX10_head_0 : decode cX10_head 0 = .ok (.aload_n 0, 1) := by decide +kernel
theorem dX10_head_1 : decode cX10_head 1 = .ok (.getfield 20, 3) := by decide +kernel
theorem dX10_head_4 : decode cX10_head 4 = .ok (.invokevirtual 161, 3) := by decide +kernel
theorem dX10_head_7 : decode cX10_head 7 = .ok (.astore_n 2, 1) := by decide +kernel
theorem dX10_head_8 : decode cX10_head 8 = .ok (.aload_n 2, 1) := by decide +kernel
theorem dX10_head_9 : decode cX10_head 9 = .ok (.getfield 179, 3) := by decide +kernel
theorem dX10_head_12 : decode cX10_head 12 = .ok (.ifCond .ne 10, 3) := by decide +kernel
theorem dX10_head_15 : decode cX10_head 15 = .ok (.aload_n 0, 1) := by decide +kernel
theorem dX10_head_16 : decode cX10_head 16 = .ok (.ldc 121, 2) := by decide +kernel
theorem dX10_head_18 : decode cX10_head 18 = .ok (.invokevirtual 51, 3) := by decide +kernel
theorem dX10_head_21 : decode cX10_head 21 = .ok (.ireturn, 1) := by decide +kernel
theorem dX10_head_22 : decode cX10_head 22 = .ok (.iload_n 1, 1) := by decide +kernel
theorem dX10_head_23 : decode cX10_head 23 = .ok (.iconst 0, 1) := by decide +kernel
theorem dX10_head_24 : decode cX10_head 24 = .ok (.iconst 3, 1) := by decide +kernel
theorem dX10_head_25 : decode cX10_head 25 = .ok (.invokestatic 46, 3) := by decide +kernel
theorem dX10_head_28 : decode cX10_head 28 = .ok (.ifCond .ne 10, 3) := by decide +kernel
theorem dX10_head_31 : decode cX10_head 31 = .ok (.aload_n 0, 1) := by decide +kernel
theorem dX10_head_32 : decode cX10_head 32 = .ok (.ldc 50, 2) := by decide +kernel
theorem dX10_head_34 : decode cX10_head 34 = .ok (.invokevirtual 51, 3) := by decide +kernel
theorem dX10_head_37 : decode cX10_head 37 = .ok (.ireturn, 1) := by decide +kernel
theorem dX10_head_38 : decode cX10_head 38 = .ok (.aload_n 2, 1) := by decide +kernel
theorem dX10_head_39 : decode cX10_head 39 = .ok (.iload_n 1, 1) := by decide +kernel
theorem dX10_head_40 : decode cX10_head 40 = .ok (.invokevirtual 182, 3) := by decide +kernel
theorem dX10_head_43 : decode cX10_head 43 = .ok (.ireturn, 1) := by decide +kernel
theorem dX10_cause_0 : decode cX10_cause 0 = .ok (.aload_n 0, 1) := by decide +kernel
theorem dX10_cause_1 : decode cX10_cause 1 = .ok (.getfield 20, 3) := by decide +kernel
theorem dX10_cause_4 : decode cX10_cause 4 = .ok (.invokevirtual 161, 3) := by decide +kernel
theorem dX10_cause_7 : decode cX10_cause 7 = .ok (.astore_n 1, 1) := by decide +kernel
theorem dX10_cause_8 : decode cX10_cause 8 = .ok (.aload_n 1, 1) := by decide +kernel
theorem dX10_cause_9 : decode cX10_cause 9 = .ok (.getfield 179, 3) := by decide +kernel
theorem dX10_cause_12 : decode cX10_cause 12 = .ok (.ifCond .ne 10, 3) := by decide +kernel
theorem dX10_cause_15 : decode cX10_cause 15 = .ok (.aload_n 0, 1) := by decide +kernel
theorem dX10_cause_16 : decode cX10_cause 16 = .ok (.ldc 121, 2) := by decide +kernel
theorem dX10_cause_18 : decode cX10_cause 18 = .ok (.invokevirtual 51, 3) := by decide +kernel
theorem dX10_cause_21 : decode cX10_cause 21 = .ok (.ireturn, 1) := by decide +kernel
theorem dX10_cause_22 : decode cX10_cause 22 = .ok (.aload_n 0, 1) := by decide +kernel
theorem dX10_cause_23 : decode cX10_cause 23 = .ok (.getfield 27, 3) := by decide +kernel
theorem dX10_cause_26 : decode cX10_cause 26 = .ok (.getfield 141, 3) := by decide +kernel
theorem dX10_cause_29 : decode cX10_cause 29 = .ok (.aload_n 1, 1) := by decide +kernel
theorem dX10_cause_30 : decode cX10_cause 30 = .ok (.getfield 185, 3) := by decide +kernel
theorem dX10_cause_33 : decode cX10_cause 33 = .ok (.aload_n 1, 1) := by decide +kernel
theorem dX10_cause_34 : decode cX10_cause 34 = .ok (.getfield 188, 3) := by decide +kernel
theorem dX10_cause_37 : decode cX10_cause 37 = .ok (.aload_n 1, 1) := by decide +kernel
theorem dX10_cause_38 : decode cX10_cause 38 = .ok (.getfield 191, 3) := by decide +kernel
theorem dX10_cause_41 : decode cX10_cause 41 = .ok (.invokevirtual 194, 3) := by decide +kernel
theorem dX10_cause_44 : decode cX10_cause 44 = .ok (.istore_n 2, 1) := by decide +kernel
theorem dX10_cause_45 : decode cX10_cause 45 = .ok (.iload_n 2, 1) := by decide +kernel
theorem dX10_cause_46 : decode cX10_cause 46 = .ok (.bipush 12, 2) := by decide +kernel
theorem dX10_cause_48 : decode cX10_cause 48 = .ok (.if_icmp .ne 12, 3) := by decide +kernel
theorem dX10_cause_51 : decode cX10_cause 51 = .ok (.aload_n 0, 1) := by decide +kernel
theorem dX10_cause_52 : decode cX10_cause 52 = .ok (.ldc 121, 2) := by decide +kernel
theorem dX10_cause_54 : decode cX10_cause 54 = .ok (.invokevirtual 51, 3) := by decide +kernel
theorem dX10_cause_57 : decode cX10_cause 57 = .ok (.goto 4, 3) := by decide +kernel
theorem dX10_cause_60 : decode cX10_cause 60 = .ok (.iload_n 2, 1) := by decide +kernel
theorem dX10_cause_61 : decode cX10_cause 61 = .ok (.ireturn, 1) := by decide +kernel
theorem dX10_fouls_0 : decode cX10_fouls 0 = .ok (.aload_n 0, 1) := by decide +kernel
theorem dX10_fouls_1 : decode cX10_fouls 1 = .ok (.getfield 20, 3) := by decide +kernel
theorem dX10_fouls_4 : decode cX10_fouls 4 = .ok (.invokevirtual 161, 3) := by decide +kernel
theorem dX10_fouls_7 : decode cX10_fouls 7 = .ok (.getfield 197, 3) := by decide +kernel
theorem dX10_fouls_10 : decode cX10_fouls 10 = .ok (.ireturn, 1) := by decide +kernel
theorem dX10_delay_0 : decode cX10_delay 0 = .ok (.aload_n 0, 1) := by decide +kernel
theorem dX10_delay_1 : decode cX10_delay 1 = .ok (.getfield 20, 3) := by decide +kernel
theorem dX10_delay_4 : decode cX10_delay 4 = .ok (.invokevirtual 161, 3) := by decide +kernel
theorem dX10_delay_7 : decode cX10_delay 7 = .ok (.getfield 200, 3) := by decide +kernel
theorem dX10_delay_10 : decode cX10_delay 10 = .ok (.ireturn, 1) := by decide +kernel
theorem dX10_best_0 : decode cX10_best 0 = .ok (.aload_n 0, 1) := by decide +kernel
theorem dX10_best_1 : decode cX10_best 1 = .ok (.getfield 12, 3) := by decide +kernel
theorem dX10_best_4 : decode cX10_best 4 = .ok (.invokevirtual 203, 3) := by decide +kernel
theorem dX10_best_7 : decode cX10_best 7 = .ok (.ifCond .ne 10, 3) := by decide +kernel
theorem dX10_best_10 : decode cX10_best 10 = .ok (.aload_n 0, 1) := by decide +kernel
theorem dX10_best_11 : decode cX10_best 11 = .ok (.ldc 121, 2) := by decide +kernel
theorem dX10_best_13 : decode cX10_best 13 = .ok (.invokevirtual 51, 3) := by decide +kernel
theorem dX10_best_16 : decode cX10_best 16 = .ok (.ireturn, 1) := by decide +kernel
theorem dX10_best_17 : decode cX10_best 17 = .ok (.iload_n 1, 1) := by decide +kernel
theorem dX10_best_18 : decode cX10_best 18 = .ok (.iconst 0, 1) := by decide +kernel
theorem dX10_best_19 : decode cX10_best 19 = .ok (.iconst 3, 1) := by decide +kernel
theorem dX10_best_20 : decode cX10_best 20 = .ok (.invokestatic 46, 3) := by decide +kernel
theorem dX10_best_23 : decode cX10_best 23 = .ok (.ifCond .ne 10, 3) := by decide +kernel
theorem dX10_best_26 : decode cX10_best 26 = .ok (.aload_n 0, 1) := by decide +kernel
theorem dX10_best_27 : decode cX10_best 27 = .ok (.ldc 50, 2) := by decide +kernel
theorem dX10_best_29 : decode cX10_best 29 = .ok (.invokevirtual 51, 3) := by decide +kernel
theorem dX10_best_32 : decode cX10_best 32 = .ok (.ireturn, 1) := by decide +kernel
theorem dX10_best_33 : decode cX10_best 33 = .ok (.aload_n 0, 1) := by decide +kernel
theorem dX10_best_34 : decode cX10_best 34 = .ok (.getfield 12, 3) := by decide +kernel
theorem dX10_best_37 : decode cX10_best 37 = .ok (.invokevirtual 207, 3) := by decide +kernel
theorem dX10_best_40 : decode cX10_best 40 = .ok (.istore_n 2, 1) := by decide +kernel
theorem dX10_best_41 : decode cX10_best 41 = .ok (.iload_n 1, 1) := by decide +kernel
theorem dX10_best_42 : decode cX10_best 42 = .ok (.tableswitch 41 0 2 #[26, 31, 36], 26) := by decide +kernel
theorem dX10_best_68 : decode cX10_best 68 = .ok (.iload_n 2, 1) := by decide +kernel
theorem dX10_best_69 : decode cX10_best 69 = .ok (.invokestatic 210, 3) := by decide +kernel
theorem dX10_best_72 : decode cX10_best 72 = .ok (.ireturn, 1) := by decide +kernel
theorem dX10_best_73 : decode cX10_best 73 = .ok (.iload_n 2, 1) := by decide +kernel
theorem dX10_best_74 : decode cX10_best 74 = .ok (.invokestatic 213, 3) := by decide +kernel
theorem dX10_best_77 : decode cX10_best 77 = .ok (.ireturn, 1) := by decide +kernel
theorem dX10_best_78 : decode cX10_best 78 = .ok (.iload_n 2, 1) := by decide +kernel
theorem dX10_best_79 : decode cX10_best 79 = .ok (.invokestatic 216, 3) := by decide +kernel
theorem dX10_best_82 : decode cX10_best 82 = .ok (.ireturn, 1) := by decide +kernel
theorem dX10_best_83 : decode cX10_best 83 = .ok (.aload_n 0, 1) := by decide +kernel
theorem dX10_best_84 : decode cX10_best 84 = .ok (.getfield 12, 3) := by decide +kernel
theorem dX10_best_87 : decode cX10_best 87 = .ok (.iload_n 2, 1) := by decide +kernel
theorem dX10_best_88 : decode cX10_best 88 = .ok (.invokevirtual 219, 3) := by decide +kernel
theorem dX10_best_91 : decode cX10_best 91 = .ok (.ireturn, 1) := by decide +kernel
theorem dX10_price_0 : decode cX10_price 0 = .ok (.aload_n 0, 1) := by decide +kernel
theorem dX10_price_1 : decode cX10_price 1 = .ok (.iload_n 1, 1) := by decide +kernel
theorem dX10_price_2 : decode cX10_price 2 = .ok (.iload_n 2, 1) := by decide +kernel
theorem dX10_price_3 : decode cX10_price 3 = .ok (.iload_n 3, 1) := by decide +kernel
theorem dX10_price_4 : decode cX10_price 4 = .ok (.invokevirtual 134, 3) := by decide +kernel
theorem dX10_price_7 : decode cX10_price 7 = .ok (.istore 4, 2) := by decide +kernel
theorem dX10_price_9 : decode cX10_price 9 = .ok (.iload 4, 2) := by decide +kernel
theorem dX10_price_11 : decode cX10_price 11 = .ok (.ifCond .eq 10, 3) := by decide +kernel
theorem dX10_price_14 : decode cX10_price 14 = .ok (.aload_n 0, 1) := by decide +kernel
theorem dX10_price_15 : decode cX10_price 15 = .ok (.iload 4, 2) := by decide +kernel
theorem dX10_price_17 : decode cX10_price 17 = .ok (.invokevirtual 51, 3) := by decide +kernel
theorem dX10_price_20 : decode cX10_price 20 = .ok (.ireturn, 1) := by decide +kernel
theorem dX10_price_21 : decode cX10_price 21 = .ok (.aload_n 0, 1) := by decide +kernel
theorem dX10_price_22 : decode cX10_price 22 = .ok (.getfield 12, 3) := by decide +kernel
theorem dX10_price_25 : decode cX10_price 25 = .ok (.iload_n 1, 1) := by decide +kernel
theorem dX10_price_26 : decode cX10_price 26 = .ok (.iload_n 2, 1) := by decide +kernel
theorem dX10_price_27 : decode cX10_price 27 = .ok (.iload_n 3, 1) := by decide +kernel
theorem dX10_price_28 : decode cX10_price 28 = .ok (.invokestatic 222, 3) := by decide +kernel
theorem dX10_price_31 : decode cX10_price 31 = .ok (.invokevirtual 219, 3) := by decide +kernel
theorem dX10_price_34 : decode cX10_price 34 = .ok (.ireturn, 1) := by decide +kernel
theorem dX10_proves_0 : decode cX10_proves 0 = .ok (.iload 4, 2) := by decide +kernel
theorem dX10_proves_2 : decode cX10_proves 2 = .ok (.invokestatic 225, 3) := by decide +kernel
theorem dX10_proves_5 : decode cX10_proves 5 = .ok (.ifCond .eq 13, 3) := by decide +kernel
theorem dX10_proves_8 : decode cX10_proves 8 = .ok (.aload_n 0, 1) := by decide +kernel
theorem dX10_proves_9 : decode cX10_proves 9 = .ok (.iload_n 1, 1) := by decide +kernel
theorem dX10_proves_10 : decode cX10_proves 10 = .ok (.iload_n 2, 1) := by decide +kernel
theorem dX10_proves_11 : decode cX10_proves 11 = .ok (.iload_n 3, 1) := by decide +kernel
theorem dX10_proves_12 : decode cX10_proves 12 = .ok (.invokevirtual 134, 3) := by decide +kernel
theorem dX10_proves_15 : decode cX10_proves 15 = .ok (.goto 5, 3) := by decide +kernel
theorem dX10_proves_18 : decode cX10_proves 18 = .ok (.ldc 50, 2) := by decide +kernel
theorem dX10_proves_20 : decode cX10_proves 20 = .ok (.istore 5, 2) := by decide +kernel
theorem dX10_proves_22 : decode cX10_proves 22 = .ok (.iload 5, 2) := by decide +kernel
theorem dX10_proves_24 : decode cX10_proves 24 = .ok (.ifCond .eq 10, 3) := by decide +kernel
theorem dX10_proves_27 : decode cX10_proves 27 = .ok (.aload_n 0, 1) := by decide +kernel
theorem dX10_proves_28 : decode cX10_proves 28 = .ok (.iload 5, 2) := by decide +kernel
theorem dX10_proves_30 : decode cX10_proves 30 = .ok (.invokevirtual 51, 3) := by decide +kernel
theorem dX10_proves_33 : decode cX10_proves 33 = .ok (.ireturn, 1) := by decide +kernel
theorem dX10_proves_34 : decode cX10_proves 34 = .ok (.aload_n 0, 1) := by decide +kernel
theorem dX10_proves_35 : decode cX10_proves 35 = .ok (.getfield 37, 3) := by decide +kernel
theorem dX10_proves_38 : decode cX10_proves 38 = .ok (.iload 4, 2) := by decide +kernel
theorem dX10_proves_40 : decode cX10_proves 40 = .ok (.aaload, 1) := by decide +kernel
theorem dX10_proves_41 : decode cX10_proves 41 = .ok (.invokevirtual 228, 3) := by decide +kernel
theorem dX10_proves_44 : decode cX10_proves 44 = .ok (.ifCond .eq 10, 3) := by decide +kernel
theorem dX10_proves_47 : decode cX10_proves 47 = .ok (.aload_n 0, 1) := by decide +kernel
theorem dX10_proves_48 : decode cX10_proves 48 = .ok (.ldc 232, 2) := by decide +kernel
theorem dX10_proves_50 : decode cX10_proves 50 = .ok (.invokevirtual 51, 3) := by decide +kernel
theorem dX10_proves_53 : decode cX10_proves 53 = .ok (.ireturn, 1) := by decide +kernel
theorem dX10_proves_54 : decode cX10_proves 54 = .ok (.aload_n 0, 1) := by decide +kernel
theorem dX10_proves_55 : decode cX10_proves 55 = .ok (.getfield 12, 3) := by decide +kernel
theorem dX10_proves_58 : decode cX10_proves 58 = .ok (.invokevirtual 207, 3) := by decide +kernel
theorem dX10_proves_61 : decode cX10_proves 61 = .ok (.iload_n 1, 1) := by decide +kernel
theorem dX10_proves_62 : decode cX10_proves 62 = .ok (.iload_n 2, 1) := by decide +kernel
theorem dX10_proves_63 : decode cX10_proves 63 = .ok (.iload_n 3, 1) := by decide +kernel
theorem dX10_proves_64 : decode cX10_proves 64 = .ok (.invokestatic 222, 3) := by decide +kernel
theorem dX10_proves_67 : decode cX10_proves 67 = .ok (.if_icmp .eq 10, 3) := by decide +kernel
theorem dX10_proves_70 : decode cX10_proves 70 = .ok (.aload_n 0, 1) := by decide +kernel
theorem dX10_proves_71 : decode cX10_proves 71 = .ok (.ldc 110, 2) := by decide +kernel
theorem dX10_proves_73 : decode cX10_proves 73 = .ok (.invokevirtual 51, 3) := by decide +kernel
theorem dX10_proves_76 : decode cX10_proves 76 = .ok (.ireturn, 1) := by decide +kernel
theorem dX10_proves_77 : decode cX10_proves 77 = .ok (.aload_n 0, 1) := by decide +kernel
theorem dX10_proves_78 : decode cX10_proves 78 = .ok (.getfield 12, 3) := by decide +kernel
theorem dX10_proves_81 : decode cX10_proves 81 = .ok (.invokevirtual 203, 3) := by decide +kernel
theorem dX10_proves_84 : decode cX10_proves 84 = .ok (.istore 6, 2) := by decide +kernel
theorem dX10_proves_86 : decode cX10_proves 86 = .ok (.aload_n 0, 1) := by decide +kernel
theorem dX10_proves_87 : decode cX10_proves 87 = .ok (.getfield 37, 3) := by decide +kernel
theorem dX10_proves_90 : decode cX10_proves 90 = .ok (.iload 4, 2) := by decide +kernel
theorem dX10_proves_92 : decode cX10_proves 92 = .ok (.aaload, 1) := by decide +kernel
theorem dX10_proves_93 : decode cX10_proves 93 = .ok (.getfield 233, 3) := by decide +kernel
theorem dX10_proves_96 : decode cX10_proves 96 = .ok (.iload 6, 2) := by decide +kernel
theorem dX10_proves_98 : decode cX10_proves 98 = .ok (.if_icmp .ne 20, 3) := by decide +kernel
theorem dX10_proves_101 : decode cX10_proves 101 = .ok (.aload_n 0, 1) := by decide +kernel
theorem dX10_proves_102 : decode cX10_proves 102 = .ok (.getfield 12, 3) := by decide +kernel
theorem dX10_proves_105 : decode cX10_proves 105 = .ok (.aload_n 0, 1) := by decide +kernel
theorem dX10_proves_106 : decode cX10_proves 106 = .ok (.getfield 37, 3) := by decide +kernel
theorem dX10_proves_109 : decode cX10_proves 109 = .ok (.iload 4, 2) := by decide +kernel
theorem dX10_proves_111 : decode cX10_proves 111 = .ok (.aaload, 1) := by decide +kernel
theorem dX10_proves_112 : decode cX10_proves 112 = .ok (.invokevirtual 234, 3) := by decide +kernel
theorem dX10_proves_115 : decode cX10_proves 115 = .ok (.goto 5, 3) := by decide +kernel
theorem dX10_proves_118 : decode cX10_proves 118 = .ok (.iload 6, 2) := by decide +kernel
theorem dX10_proves_120 : decode cX10_proves 120 = .ok (.ireturn, 1) := by decide +kernel
theorem dX10_sheet_0 : decode cX10_sheet 0 = .ok (.iload_n 1, 1) := by decide +kernel
theorem dX10_sheet_1 : decode cX10_sheet 1 = .ok (.invokestatic 225, 3) := by decide +kernel
theorem dX10_sheet_4 : decode cX10_sheet 4 = .ok (.ifCond .eq 10, 3) := by decide +kernel
theorem dX10_sheet_7 : decode cX10_sheet 7 = .ok (.iload_n 2, 1) := by decide +kernel
theorem dX10_sheet_8 : decode cX10_sheet 8 = .ok (.invokestatic 238, 3) := by decide +kernel
theorem dX10_sheet_11 : decode cX10_sheet 11 = .ok (.ifCond .ne 10, 3) := by decide +kernel
theorem dX10_sheet_14 : decode cX10_sheet 14 = .ok (.aload_n 0, 1) := by decide +kernel
theorem dX10_sheet_15 : decode cX10_sheet 15 = .ok (.ldc 50, 2) := by decide +kernel
theorem dX10_sheet_17 : decode cX10_sheet 17 = .ok (.invokevirtual 51, 3) := by decide +kernel
theorem dX10_sheet_20 : decode cX10_sheet 20 = .ok (.ireturn, 1) := by decide +kernel
theorem dX10_sheet_21 : decode cX10_sheet 21 = .ok (.iload_n 3, 1) := by decide +kernel
theorem dX10_sheet_22 : decode cX10_sheet 22 = .ok (.ifCond .ge 10, 3) := by decide +kernel
theorem dX10_sheet_25 : decode cX10_sheet 25 = .ok (.aload_n 0, 1) := by decide +kernel
theorem dX10_sheet_26 : decode cX10_sheet 26 = .ok (.ldc 90, 2) := by decide +kernel
theorem dX10_sheet_28 : decode cX10_sheet 28 = .ok (.invokevirtual 51, 3) := by decide +kernel
theorem dX10_sheet_31 : decode cX10_sheet 31 = .ok (.ireturn, 1) := by decide +kernel
theorem dX10_sheet_32 : decode cX10_sheet 32 = .ok (.iload_n 3, 1) := by decide +kernel
theorem dX10_sheet_33 : decode cX10_sheet 33 = .ok (.bipush 60, 2) := by decide +kernel
theorem dX10_sheet_35 : decode cX10_sheet 35 = .ok (.if_icmp .le 10, 3) := by decide +kernel
theorem dX10_sheet_38 : decode cX10_sheet 38 = .ok (.aload_n 0, 1) := by decide +kernel
theorem dX10_sheet_39 : decode cX10_sheet 39 = .ok (.ldc 50, 2) := by decide +kernel
theorem dX10_sheet_41 : decode cX10_sheet 41 = .ok (.invokevirtual 51, 3) := by decide +kernel
theorem dX10_sheet_44 : decode cX10_sheet 44 = .ok (.ireturn, 1) := by decide +kernel
theorem dX10_sheet_45 : decode cX10_sheet 45 = .ok (.aload_n 0, 1) := by decide +kernel
theorem dX10_sheet_46 : decode cX10_sheet 46 = .ok (.getfield 37, 3) := by decide +kernel
theorem dX10_sheet_49 : decode cX10_sheet 49 = .ok (.iload_n 1, 1) := by decide +kernel
theorem dX10_sheet_50 : decode cX10_sheet 50 = .ok (.aaload, 1) := by decide +kernel
theorem dX10_sheet_51 : decode cX10_sheet 51 = .ok (.iload_n 2, 1) := by decide +kernel
theorem dX10_sheet_52 : decode cX10_sheet 52 = .ok (.iload_n 3, 1) := by decide +kernel
theorem dX10_sheet_53 : decode cX10_sheet 53 = .ok (.invokevirtual 241, 3) := by decide +kernel
theorem dX10_sheet_56 : decode cX10_sheet 56 = .ok (.aload_n 0, 1) := by decide +kernel
theorem dX10_sheet_57 : decode cX10_sheet 57 = .ok (.getfield 37, 3) := by decide +kernel
theorem dX10_sheet_60 : decode cX10_sheet 60 = .ok (.iload_n 1, 1) := by decide +kernel
theorem dX10_sheet_61 : decode cX10_sheet 61 = .ok (.aaload, 1) := by decide +kernel
theorem dX10_sheet_62 : decode cX10_sheet 62 = .ok (.getfield 233, 3) := by decide +kernel
theorem dX10_sheet_65 : decode cX10_sheet 65 = .ok (.ireturn, 1) := by decide +kernel
theorem dX10_put_0 : decode cX10_put 0 = .ok (.iload_n 1, 1) := by decide +kernel
theorem dX10_put_1 : decode cX10_put 1 = .ok (.invokestatic 225, 3) := by decide +kernel
theorem dX10_put_4 : decode cX10_put 4 = .ok (.ifCond .ne 10, 3) := by decide +kernel
theorem dX10_put_7 : decode cX10_put 7 = .ok (.aload_n 0, 1) := by decide +kernel
theorem dX10_put_8 : decode cX10_put 8 = .ok (.ldc 50, 2) := by decide +kernel
theorem dX10_put_10 : decode cX10_put 10 = .ok (.invokevirtual 51, 3) := by decide +kernel
theorem dX10_put_13 : decode cX10_put 13 = .ok (.ireturn, 1) := by decide +kernel
theorem dX10_put_14 : decode cX10_put 14 = .ok (.aload_n 0, 1) := by decide +kernel
theorem dX10_put_15 : decode cX10_put 15 = .ok (.getfield 37, 3) := by decide +kernel
theorem dX10_put_18 : decode cX10_put 18 = .ok (.iload_n 1, 1) := by decide +kernel
theorem dX10_put_19 : decode cX10_put 19 = .ok (.aaload, 1) := by decide +kernel
theorem dX10_put_20 : decode cX10_put 20 = .ok (.invokevirtual 228, 3) := by decide +kernel
theorem dX10_put_23 : decode cX10_put 23 = .ok (.ifCond .eq 10, 3) := by decide +kernel
theorem dX10_put_26 : decode cX10_put 26 = .ok (.aload_n 0, 1) := by decide +kernel
theorem dX10_put_27 : decode cX10_put 27 = .ok (.ldc 232, 2) := by decide +kernel
theorem dX10_put_29 : decode cX10_put 29 = .ok (.invokevirtual 51, 3) := by decide +kernel
theorem dX10_put_32 : decode cX10_put 32 = .ok (.ireturn, 1) := by decide +kernel
theorem dX10_put_33 : decode cX10_put 33 = .ok (.iload_n 2, 1) := by decide +kernel
theorem dX10_put_34 : decode cX10_put 34 = .ok (.iconst 0, 1) := by decide +kernel
theorem dX10_put_35 : decode cX10_put 35 = .ok (.aload_n 0, 1) := by decide +kernel
theorem dX10_put_36 : decode cX10_put 36 = .ok (.getfield 37, 3) := by decide +kernel
theorem dX10_put_39 : decode cX10_put 39 = .ok (.iload_n 1, 1) := by decide +kernel
theorem dX10_put_40 : decode cX10_put 40 = .ok (.aaload, 1) := by decide +kernel
theorem dX10_put_41 : decode cX10_put 41 = .ok (.getfield 233, 3) := by decide +kernel
theorem dX10_put_44 : decode cX10_put 44 = .ok (.iconst 1, 1) := by decide +kernel
theorem dX10_put_45 : decode cX10_put 45 = .ok (.isub, 1) := by decide +kernel
theorem dX10_put_46 : decode cX10_put 46 = .ok (.invokestatic 46, 3) := by decide +kernel
theorem dX10_put_49 : decode cX10_put 49 = .ok (.ifCond .ne 10, 3) := by decide +kernel
theorem dX10_put_52 : decode cX10_put 52 = .ok (.aload_n 0, 1) := by decide +kernel
theorem dX10_put_53 : decode cX10_put 53 = .ok (.ldc 50, 2) := by decide +kernel
theorem dX10_put_55 : decode cX10_put 55 = .ok (.invokevirtual 51, 3) := by decide +kernel
theorem dX10_put_58 : decode cX10_put 58 = .ok (.ireturn, 1) := by decide +kernel
theorem dX10_put_59 : decode cX10_put 59 = .ok (.aload_n 0, 1) := by decide +kernel
theorem dX10_put_60 : decode cX10_put 60 = .ok (.getfield 37, 3) := by decide +kernel
theorem dX10_put_63 : decode cX10_put 63 = .ok (.iload_n 1, 1) := by decide +kernel
theorem dX10_put_64 : decode cX10_put 64 = .ok (.aaload, 1) := by decide +kernel
theorem dX10_put_65 : decode cX10_put 65 = .ok (.getfield 245, 3) := by decide +kernel
theorem dX10_put_68 : decode cX10_put 68 = .ok (.iload_n 2, 1) := by decide +kernel
theorem dX10_put_69 : decode cX10_put 69 = .ok (.iload_n 3, 1) := by decide +kernel
theorem dX10_put_70 : decode cX10_put 70 = .ok (.aload_n 0, 1) := by decide +kernel
theorem dX10_put_71 : decode cX10_put 71 = .ok (.getfield 37, 3) := by decide +kernel
theorem dX10_put_74 : decode cX10_put 74 = .ok (.iload_n 1, 1) := by decide +kernel
theorem dX10_put_75 : decode cX10_put 75 = .ok (.aaload, 1) := by decide +kernel
theorem dX10_put_76 : decode cX10_put 76 = .ok (.invokevirtual 248, 3) := by decide +kernel
theorem dX10_put_79 : decode cX10_put 79 = .ok (.iand, 1) := by decide +kernel
theorem dX10_put_80 : decode cX10_put 80 = .ok (.iastore, 1) := by decide +kernel
theorem dX10_put_81 : decode cX10_put 81 = .ok (.iconst 0, 1) := by decide +kernel
theorem dX10_put_82 : decode cX10_put 82 = .ok (.ireturn, 1) := by decide +kernel
theorem dX10_copy_0 : decode cX10_copy 0 = .ok (.iload_n 1, 1) := by decide +kernel
theorem dX10_copy_1 : decode cX10_copy 1 = .ok (.invokestatic 225, 3) := by decide +kernel
theorem dX10_copy_4 : decode cX10_copy 4 = .ok (.ifCond .eq 10, 3) := by decide +kernel
theorem dX10_copy_7 : decode cX10_copy 7 = .ok (.iload_n 3, 1) := by decide +kernel
theorem dX10_copy_8 : decode cX10_copy 8 = .ok (.invokestatic 225, 3) := by decide +kernel
theorem dX10_copy_11 : decode cX10_copy 11 = .ok (.ifCond .ne 10, 3) := by decide +kernel
theorem dX10_copy_14 : decode cX10_copy 14 = .ok (.aload_n 0, 1) := by decide +kernel
theorem dX10_copy_15 : decode cX10_copy 15 = .ok (.ldc 50, 2) := by decide +kernel
theorem dX10_copy_17 : decode cX10_copy 17 = .ok (.invokevirtual 51, 3) := by decide +kernel
theorem dX10_copy_20 : decode cX10_copy 20 = .ok (.ireturn, 1) := by decide +kernel
theorem dX10_copy_21 : decode cX10_copy 21 = .ok (.aload_n 0, 1) := by decide +kernel
theorem dX10_copy_22 : decode cX10_copy 22 = .ok (.getfield 37, 3) := by decide +kernel
theorem dX10_copy_25 : decode cX10_copy 25 = .ok (.iload_n 1, 1) := by decide +kernel
theorem dX10_copy_26 : decode cX10_copy 26 = .ok (.aaload, 1) := by decide +kernel
theorem dX10_copy_27 : decode cX10_copy 27 = .ok (.invokevirtual 228, 3) := by decide +kernel
theorem dX10_copy_30 : decode cX10_copy 30 = .ok (.ifCond .ne 15, 3) := by decide +kernel
theorem dX10_copy_33 : decode cX10_copy 33 = .ok (.aload_n 0, 1) := by decide +kernel
theorem dX10_copy_34 : decode cX10_copy 34 = .ok (.getfield 37, 3) := by decide +kernel
theorem dX10_copy_37 : decode cX10_copy 37 = .ok (.iload_n 3, 1) := by decide +kernel
theorem dX10_copy_38 : decode cX10_copy 38 = .ok (.aaload, 1) := by decide +kernel
theorem dX10_copy_39 : decode cX10_copy 39 = .ok (.invokevirtual 228, 3) := by decide +kernel
theorem dX10_copy_42 : decode cX10_copy 42 = .ok (.ifCond .eq 10, 3) := by decide +kernel
theorem dX10_copy_45 : decode cX10_copy 45 = .ok (.aload_n 0, 1) := by decide +kernel
theorem dX10_copy_46 : decode cX10_copy 46 = .ok (.ldc 232, 2) := by decide +kernel
theorem dX10_copy_48 : decode cX10_copy 48 = .ok (.invokevirtual 51, 3) := by decide +kernel
theorem dX10_copy_51 : decode cX10_copy 51 = .ok (.ireturn, 1) := by decide +kernel
theorem dX10_copy_52 : decode cX10_copy 52 = .ok (.aload_n 0, 1) := by decide +kernel
theorem dX10_copy_53 : decode cX10_copy 53 = .ok (.getfield 37, 3) := by decide +kernel
theorem dX10_copy_56 : decode cX10_copy 56 = .ok (.iload_n 1, 1) := by decide +kernel
theorem dX10_copy_57 : decode cX10_copy 57 = .ok (.aaload, 1) := by decide +kernel
theorem dX10_copy_58 : decode cX10_copy 58 = .ok (.getfield 251, 3) := by decide +kernel
theorem dX10_copy_61 : decode cX10_copy 61 = .ok (.aload_n 0, 1) := by decide +kernel
theorem dX10_copy_62 : decode cX10_copy 62 = .ok (.getfield 37, 3) := by decide +kernel
theorem dX10_copy_65 : decode cX10_copy 65 = .ok (.iload_n 3, 1) := by decide +kernel
theorem dX10_copy_66 : decode cX10_copy 66 = .ok (.aaload, 1) := by decide +kernel
theorem dX10_copy_67 : decode cX10_copy 67 = .ok (.getfield 251, 3) := by decide +kernel
theorem dX10_copy_70 : decode cX10_copy 70 = .ok (.if_icmp .eq 10, 3) := by decide +kernel
theorem dX10_copy_73 : decode cX10_copy 73 = .ok (.aload_n 0, 1) := by decide +kernel
theorem dX10_copy_74 : decode cX10_copy 74 = .ok (.ldc 110, 2) := by decide +kernel
theorem dX10_copy_76 : decode cX10_copy 76 = .ok (.invokevirtual 51, 3) := by decide +kernel
theorem dX10_copy_79 : decode cX10_copy 79 = .ok (.ireturn, 1) := by decide +kernel
theorem dX10_copy_80 : decode cX10_copy 80 = .ok (.aload_n 0, 1) := by decide +kernel
theorem dX10_copy_81 : decode cX10_copy 81 = .ok (.getfield 37, 3) := by decide +kernel
theorem dX10_copy_84 : decode cX10_copy 84 = .ok (.iload_n 1, 1) := by decide +kernel
theorem dX10_copy_85 : decode cX10_copy 85 = .ok (.aaload, 1) := by decide +kernel
theorem dX10_copy_86 : decode cX10_copy 86 = .ok (.iload_n 2, 1) := by decide +kernel
theorem dX10_copy_87 : decode cX10_copy 87 = .ok (.iload 5, 2) := by decide +kernel
theorem dX10_copy_89 : decode cX10_copy 89 = .ok (.invokevirtual 254, 3) := by decide +kernel
theorem dX10_copy_92 : decode cX10_copy 92 = .ok (.ifCond .eq 19, 3) := by decide +kernel
theorem dX10_copy_95 : decode cX10_copy 95 = .ok (.aload_n 0, 1) := by decide +kernel
theorem dX10_copy_96 : decode cX10_copy 96 = .ok (.getfield 37, 3) := by decide +kernel
theorem dX10_copy_99 : decode cX10_copy 99 = .ok (.iload_n 3, 1) := by decide +kernel
theorem dX10_copy_100 : decode cX10_copy 100 = .ok (.aaload, 1) := by decide +kernel
theorem dX10_copy_101 : decode cX10_copy 101 = .ok (.iload 4, 2) := by decide +kernel
theorem dX10_copy_103 : decode cX10_copy 103 = .ok (.iload 5, 2) := by decide +kernel
theorem dX10_copy_105 : decode cX10_copy 105 = .ok (.invokevirtual 254, 3) := by decide +kernel
theorem dX10_copy_108 : decode cX10_copy 108 = .ok (.ifCond .ne 10, 3) := by decide +kernel
theorem dX10_copy_111 : decode cX10_copy 111 = .ok (.aload_n 0, 1) := by decide +kernel
theorem dX10_copy_112 : decode cX10_copy 112 = .ok (.ldc 50, 2) := by decide +kernel
theorem dX10_copy_114 : decode cX10_copy 114 = .ok (.invokevirtual 51, 3) := by decide +kernel
theorem dX10_copy_117 : decode cX10_copy 117 = .ok (.ireturn, 1) := by decide +kernel
theorem dX10_copy_118 : decode cX10_copy 118 = .ok (.aload_n 0, 1) := by decide +kernel
theorem dX10_copy_119 : decode cX10_copy 119 = .ok (.getfield 37, 3) := by decide +kernel
theorem dX10_copy_122 : decode cX10_copy 122 = .ok (.iload_n 1, 1) := by decide +kernel
theorem dX10_copy_123 : decode cX10_copy 123 = .ok (.aaload, 1) := by decide +kernel
theorem dX10_copy_124 : decode cX10_copy 124 = .ok (.getfield 245, 3) := by decide +kernel
theorem dX10_copy_127 : decode cX10_copy 127 = .ok (.iload_n 2, 1) := by decide +kernel
theorem dX10_copy_128 : decode cX10_copy 128 = .ok (.aload_n 0, 1) := by decide +kernel
theorem dX10_copy_129 : decode cX10_copy 129 = .ok (.getfield 37, 3) := by decide +kernel
theorem dX10_copy_132 : decode cX10_copy 132 = .ok (.iload_n 3, 1) := by decide +kernel
theorem dX10_copy_133 : decode cX10_copy 133 = .ok (.aaload, 1) := by decide +kernel
theorem dX10_copy_134 : decode cX10_copy 134 = .ok (.getfield 245, 3) := by decide +kernel
theorem dX10_copy_137 : decode cX10_copy 137 = .ok (.iload 4, 2) := by decide +kernel
theorem dX10_copy_139 : decode cX10_copy 139 = .ok (.iload 5, 2) := by decide +kernel
theorem dX10_copy_141 : decode cX10_copy 141 = .ok (.invokestatic 257, 3) := by decide +kernel
theorem dX10_copy_144 : decode cX10_copy 144 = .ok (.iload 5, 2) := by decide +kernel
theorem dX10_copy_146 : decode cX10_copy 146 = .ok (.ireturn, 1) := by decide +kernel
theorem dX10_grades_0 : decode cX10_grades 0 = .ok (.iload_n 1, 1) := by decide +kernel
theorem dX10_grades_1 : decode cX10_grades 1 = .ok (.invokestatic 225, 3) := by decide +kernel
theorem dX10_grades_4 : decode cX10_grades 4 = .ok (.ifCond .ne 10, 3) := by decide +kernel
theorem dX10_grades_7 : decode cX10_grades 7 = .ok (.aload_n 0, 1) := by decide +kernel
theorem dX10_grades_8 : decode cX10_grades 8 = .ok (.ldc 50, 2) := by decide +kernel
theorem dX10_grades_10 : decode cX10_grades 10 = .ok (.invokevirtual 51, 3) := by decide +kernel
theorem dX10_grades_13 : decode cX10_grades 13 = .ok (.ireturn, 1) := by decide +kernel
theorem dX10_grades_14 : decode cX10_grades 14 = .ok (.aload_n 0, 1) := by decide +kernel
theorem dX10_grades_15 : decode cX10_grades 15 = .ok (.getfield 37, 3) := by decide +kernel
theorem dX10_grades_18 : decode cX10_grades 18 = .ok (.iload_n 1, 1) := by decide +kernel
theorem dX10_grades_19 : decode cX10_grades 19 = .ok (.aaload, 1) := by decide +kernel
theorem dX10_grades_20 : decode cX10_grades 20 = .ok (.astore_n 2, 1) := by decide +kernel
theorem dX10_grades_21 : decode cX10_grades 21 = .ok (.aload_n 2, 1) := by decide +kernel
theorem dX10_grades_22 : decode cX10_grades 22 = .ok (.invokevirtual 228, 3) := by decide +kernel
theorem dX10_grades_25 : decode cX10_grades 25 = .ok (.ifCond .eq 10, 3) := by decide +kernel
theorem dX10_grades_28 : decode cX10_grades 28 = .ok (.aload_n 0, 1) := by decide +kernel
theorem dX10_grades_29 : decode cX10_grades 29 = .ok (.ldc 232, 2) := by decide +kernel
theorem dX10_grades_31 : decode cX10_grades 31 = .ok (.invokevirtual 51, 3) := by decide +kernel
theorem dX10_grades_34 : decode cX10_grades 34 = .ok (.ireturn, 1) := by decide +kernel
theorem dX10_grades_35 : decode cX10_grades 35 = .ok (.aload_n 2, 1) := by decide +kernel
theorem dX10_grades_36 : decode cX10_grades 36 = .ok (.getfield 233, 3) := by decide +kernel
theorem dX10_grades_39 : decode cX10_grades 39 = .ok (.aload_n 0, 1) := by decide +kernel
theorem dX10_grades_40 : decode cX10_grades 40 = .ok (.getfield 27, 3) := by decide +kernel
theorem dX10_grades_43 : decode cX10_grades 43 = .ok (.getfield 65, 3) := by decide +kernel
theorem dX10_grades_46 : decode cX10_grades 46 = .ok (.getfield 69, 3) := by decide +kernel
theorem dX10_grades_49 : decode cX10_grades 49 = .ok (.iconst 1, 1) := by decide +kernel
theorem dX10_grades_50 : decode cX10_grades 50 = .ok (.isub, 1) := by decide +kernel
theorem dX10_grades_51 : decode cX10_grades 51 = .ok (.invokestatic 263, 3) := by decide +kernel
theorem dX10_grades_54 : decode cX10_grades 54 = .ok (.istore_n 3, 1) := by decide +kernel
theorem dX10_grades_55 : decode cX10_grades 55 = .ok (.iconst 0, 1) := by decide +kernel
theorem dX10_grades_56 : decode cX10_grades 56 = .ok (.istore 4, 2) := by decide +kernel
theorem dX10_grades_58 : decode cX10_grades 58 = .ok (.iload 4, 2) := by decide +kernel
theorem dX10_grades_60 : decode cX10_grades 60 = .ok (.iload_n 3, 1) := by decide +kernel
theorem dX10_grades_61 : decode cX10_grades 61 = .ok (.if_icmp .ge 29, 3) := by decide +kernel
theorem dX10_grades_64 : decode cX10_grades 64 = .ok (.aload_n 2, 1) := by decide +kernel
theorem dX10_grades_65 : decode cX10_grades 65 = .ok (.getfield 245, 3) := by decide +kernel
theorem dX10_grades_68 : decode cX10_grades 68 = .ok (.iload 4, 2) := by decide +kernel
theorem dX10_grades_70 : decode cX10_grades 70 = .ok (.iaload, 1) := by decide +kernel
theorem dX10_grades_71 : decode cX10_grades 71 = .ok (.invokestatic 84, 3) := by decide +kernel
theorem dX10_grades_74 : decode cX10_grades 74 = .ok (.ifCond .ne 10, 3) := by decide +kernel
theorem dX10_grades_77 : decode cX10_grades 77 = .ok (.aload_n 0, 1) := by decide +kernel
theorem dX10_grades_78 : decode cX10_grades 78 = .ok (.ldc 50, 2) := by decide +kernel
theorem dX10_grades_80 : decode cX10_grades 80 = .ok (.invokevirtual 51, 3) := by decide +kernel
theorem dX10_grades_83 : decode cX10_grades 83 = .ok (.ireturn, 1) := by decide +kernel
theorem dX10_grades_84 : decode cX10_grades 84 = .ok (.iinc 4 1, 3) := by decide +kernel
theorem dX10_grades_87 : decode cX10_grades 87 = .ok (.goto (-29), 3) := by decide +kernel
theorem dX10_grades_90 : decode cX10_grades 90 = .ok (.aload_n 0, 1) := by decide +kernel
theorem dX10_grades_91 : decode cX10_grades 91 = .ok (.invokevirtual 62, 3) := by decide +kernel
theorem dX10_grades_94 : decode cX10_grades 94 = .ok (.aload_n 2, 1) := by decide +kernel
theorem dX10_grades_95 : decode cX10_grades 95 = .ok (.getfield 245, 3) := by decide +kernel
theorem dX10_grades_98 : decode cX10_grades 98 = .ok (.iconst 0, 1) := by decide +kernel
theorem dX10_grades_99 : decode cX10_grades 99 = .ok (.aload_n 0, 1) := by decide +kernel
theorem dX10_grades_100 : decode cX10_grades 100 = .ok (.getfield 27, 3) := by decide +kernel
theorem dX10_grades_103 : decode cX10_grades 103 = .ok (.getfield 65, 3) := by decide +kernel
theorem dX10_grades_106 : decode cX10_grades 106 = .ok (.getfield 87, 3) := by decide +kernel
theorem dX10_grades_109 : decode cX10_grades 109 = .ok (.iconst 0, 1) := by decide +kernel
theorem dX10_grades_110 : decode cX10_grades 110 = .ok (.iload_n 3, 1) := by decide +kernel
theorem dX10_grades_111 : decode cX10_grades 111 = .ok (.invokestatic 257, 3) := by decide +kernel
theorem dX10_grades_114 : decode cX10_grades 114 = .ok (.iload_n 3, 1) := by decide +kernel
theorem dX10_grades_115 : decode cX10_grades 115 = .ok (.ireturn, 1) := by decide +kernel
theorem dX10_undo_0 : decode cX10_undo 0 = .ok (.aload_n 0, 1) := by decide +kernel
theorem dX10_undo_1 : decode cX10_undo 1 = .ok (.getfield 31, 3) := by decide +kernel
theorem dX10_undo_4 : decode cX10_undo 4 = .ok (.getfield 268, 3) := by decide +kernel
theorem dX10_undo_7 : decode cX10_undo 7 = .ok (.ifCond .ne 10, 3) := by decide +kernel
theorem dX10_undo_10 : decode cX10_undo 10 = .ok (.aload_n 0, 1) := by decide +kernel
theorem dX10_undo_11 : decode cX10_undo 11 = .ok (.ldc 121, 2) := by decide +kernel
theorem dX10_undo_13 : decode cX10_undo 13 = .ok (.invokevirtual 51, 3) := by decide +kernel
theorem dX10_undo_16 : decode cX10_undo 16 = .ok (.ireturn, 1) := by decide +kernel
theorem dX10_undo_17 : decode cX10_undo 17 = .ok (.aload_n 0, 1) := by decide +kernel
theorem dX10_undo_18 : decode cX10_undo 18 = .ok (.getfield 31, 3) := by decide +kernel
theorem dX10_undo_21 : decode cX10_undo 21 = .ok (.aload_n 0, 1) := by decide +kernel
theorem dX10_undo_22 : decode cX10_undo 22 = .ok (.getfield 27, 3) := by decide +kernel
theorem dX10_undo_25 : decode cX10_undo 25 = .ok (.invokevirtual 269, 3) := by decide +kernel
theorem dX10_undo_28 : decode cX10_undo 28 = .ok (.aload_n 0, 1) := by decide +kernel
theorem dX10_undo_29 : decode cX10_undo 29 = .ok (.invokevirtual 273, 3) := by decide +kernel
theorem dX10_undo_32 : decode cX10_undo 32 = .ok (.aload_n 0, 1) := by decide +kernel
theorem dX10_undo_33 : decode cX10_undo 33 = .ok (.getfield 31, 3) := by decide +kernel
theorem dX10_undo_36 : decode cX10_undo 36 = .ok (.getfield 268, 3) := by decide +kernel
theorem dX10_undo_39 : decode cX10_undo 39 = .ok (.ireturn, 1) := by decide +kernel
theorem dX10_all_0 : decode cX10_all 0 = .ok (.iload_n 1, 1) := by decide +kernel
theorem dX10_all_1 : decode cX10_all 1 = .ok (.tableswitch 81 0 4 #[35, 46, 57, 68, 76], 35) := by decide +kernel
theorem dX10_all_36 : decode cX10_all 36 = .ok (.aload_n 0, 1) := by decide +kernel
theorem dX10_all_37 : decode cX10_all 37 = .ok (.getfield 27, 3) := by decide +kernel
theorem dX10_all_40 : decode cX10_all 40 = .ok (.getfield 65, 3) := by decide +kernel
theorem dX10_all_43 : decode cX10_all 43 = .ok (.getfield 69, 3) := by decide +kernel
theorem dX10_all_46 : decode cX10_all 46 = .ok (.ireturn, 1) := by decide +kernel
theorem dX10_all_47 : decode cX10_all 47 = .ok (.aload_n 0, 1) := by decide +kernel
theorem dX10_all_48 : decode cX10_all 48 = .ok (.getfield 27, 3) := by decide +kernel
theorem dX10_all_51 : decode cX10_all 51 = .ok (.getfield 91, 3) := by decide +kernel
theorem dX10_all_54 : decode cX10_all 54 = .ok (.getfield 95, 3) := by decide +kernel
theorem dX10_all_57 : decode cX10_all 57 = .ok (.ireturn, 1) := by decide +kernel
theorem dX10_all_58 : decode cX10_all 58 = .ok (.aload_n 0, 1) := by decide +kernel
theorem dX10_all_59 : decode cX10_all 59 = .ok (.getfield 27, 3) := by decide +kernel
theorem dX10_all_62 : decode cX10_all 62 = .ok (.getfield 141, 3) := by decide +kernel
theorem dX10_all_65 : decode cX10_all 65 = .ok (.getfield 276, 3) := by decide +kernel
theorem dX10_all_68 : decode cX10_all 68 = .ok (.ireturn, 1) := by decide +kernel
theorem dX10_all_69 : decode cX10_all 69 = .ok (.aload_n 0, 1) := by decide +kernel
theorem dX10_all_70 : decode cX10_all 70 = .ok (.getfield 27, 3) := by decide +kernel
theorem dX10_all_73 : decode cX10_all 73 = .ok (.getfield 155, 3) := by decide +kernel
theorem dX10_all_76 : decode cX10_all 76 = .ok (.ireturn, 1) := by decide +kernel
theorem dX10_all_77 : decode cX10_all 77 = .ok (.aload_n 0, 1) := by decide +kernel
theorem dX10_all_78 : decode cX10_all 78 = .ok (.getfield 41, 3) := by decide +kernel
theorem dX10_all_81 : decode cX10_all 81 = .ok (.ireturn, 1) := by decide +kernel
theorem dX10_all_82 : decode cX10_all 82 = .ok (.aload_n 0, 1) := by decide +kernel
theorem dX10_all_83 : decode cX10_all 83 = .ok (.ldc 50, 2) := by decide +kernel
theorem dX10_all_85 : decode cX10_all 85 = .ok (.invokevirtual 51, 3) := by decide +kernel
theorem dX10_all_88 : decode cX10_all 88 = .ok (.ireturn, 1) := by decide +kernel
theorem dX10_finding_0 : decode cX10_finding 0 = .ok (.aload_n 0, 1) := by decide +kernel
theorem dX10_finding_1 : decode cX10_finding 1 = .ok (.dup, 1) := by decide +kernel
theorem dX10_finding_2 : decode cX10_finding 2 = .ok (.getfield 41, 3) := by decide +kernel
theorem dX10_finding_5 : decode cX10_finding 5 = .ok (.iconst 1, 1) := by decide +kernel
theorem dX10_finding_6 : decode cX10_finding 6 = .ok (.iadd, 1) := by decide +kernel
theorem dX10_finding_7 : decode cX10_finding 7 = .ok (.putfield 41, 3) := by decide +kernel
theorem dX10_finding_10 : decode cX10_finding 10 = .ok (.iload_n 1, 1) := by decide +kernel
theorem dX10_finding_11 : decode cX10_finding 11 = .ok (.ireturn, 1) := by decide +kernel
theorem dX10_isWithin_0 : decode cX10_isWithin 0 = .ok (.iload_n 0, 1) := by decide +kernel
theorem dX10_isWithin_1 : decode cX10_isWithin 1 = .ok (.iload_n 1, 1) := by decide +kernel
theorem dX10_isWithin_2 : decode cX10_isWithin 2 = .ok (.if_icmp .lt 12, 3) := by decide +kernel
theorem dX10_isWithin_5 : decode cX10_isWithin 5 = .ok (.iload_n 0, 1) := by decide +kernel
theorem dX10_isWithin_6 : decode cX10_isWithin 6 = .ok (.iload_n 2, 1) := by decide +kernel
theorem dX10_isWithin_7 : decode cX10_isWithin 7 = .ok (.if_icmp .gt 7, 3) := by decide +kernel
theorem dX10_isWithin_10 : decode cX10_isWithin 10 = .ok (.iconst 1, 1) := by decide +kernel
theorem dX10_isWithin_11 : decode cX10_isWithin 11 = .ok (.goto 4, 3) := by decide +kernel
theorem dX10_isWithin_14 : decode cX10_isWithin 14 = .ok (.iconst 0, 1) := by decide +kernel
theorem dX10_isWithin_15 : decode cX10_isWithin 15 = .ok (.ireturn, 1) := by decide +kernel
theorem dX10_isSheet_0 : decode cX10_isSheet 0 = .ok (.iload_n 0, 1) := by decide +kernel
theorem dX10_isSheet_1 : decode cX10_isSheet 1 = .ok (.iconst 0, 1) := by decide +kernel
theorem dX10_isSheet_2 : decode cX10_isSheet 2 = .ok (.iconst 3, 1) := by decide +kernel
theorem dX10_isSheet_3 : decode cX10_isSheet 3 = .ok (.invokestatic 46, 3) := by decide +kernel
theorem dX10_isSheet_6 : decode cX10_isSheet 6 = .ok (.ireturn, 1) := by decide +kernel
theorem dX10_refusalOfMeet_0 : decode cX10_refusalOfMeet 0 = .ok (.aload_n 0, 1) := by decide +kernel
theorem dX10_refusalOfMeet_1 : decode cX10_refusalOfMeet 1 = .ok (.getfield 27, 3) := by decide +kernel
theorem dX10_refusalOfMeet_4 : decode cX10_refusalOfMeet 4 = .ok (.getfield 91, 3) := by decide +kernel
theorem dX10_refusalOfMeet_7 : decode cX10_refusalOfMeet 7 = .ok (.iload_n 1, 1) := by decide +kernel
theorem dX10_refusalOfMeet_8 : decode cX10_refusalOfMeet 8 = .ok (.invokevirtual 103, 3) := by decide +kernel
theorem dX10_refusalOfMeet_11 : decode cX10_refusalOfMeet 11 = .ok (.ifCond .eq 31, 3) := by decide +kernel
theorem dX10_refusalOfMeet_14 : decode cX10_refusalOfMeet 14 = .ok (.aload_n 0, 1) := by decide +kernel
theorem dX10_refusalOfMeet_15 : decode cX10_refusalOfMeet 15 = .ok (.getfield 27, 3) := by decide +kernel
theorem dX10_refusalOfMeet_18 : decode cX10_refusalOfMeet 18 = .ok (.getfield 91, 3) := by decide +kernel
theorem dX10_refusalOfMeet_21 : decode cX10_refusalOfMeet 21 = .ok (.iload_n 2, 1) := by decide +kernel
theorem dX10_refusalOfMeet_22 : decode cX10_refusalOfMeet 22 = .ok (.invokevirtual 103, 3) := by decide +kernel
theorem dX10_refusalOfMeet_25 : decode cX10_refusalOfMeet 25 = .ok (.ifCond .eq 17, 3) := by decide +kernel
theorem dX10_refusalOfMeet_28 : decode cX10_refusalOfMeet 28 = .ok (.aload_n 0, 1) := by decide +kernel
theorem dX10_refusalOfMeet_29 : decode cX10_refusalOfMeet 29 = .ok (.getfield 27, 3) := by decide +kernel
theorem dX10_refusalOfMeet_32 : decode cX10_refusalOfMeet 32 = .ok (.getfield 65, 3) := by decide +kernel
theorem dX10_refusalOfMeet_35 : decode cX10_refusalOfMeet 35 = .ok (.iload_n 3, 1) := by decide +kernel
theorem dX10_refusalOfMeet_36 : decode cX10_refusalOfMeet 36 = .ok (.invokevirtual 74, 3) := by decide +kernel
theorem dX10_refusalOfMeet_39 : decode cX10_refusalOfMeet 39 = .ok (.ifCond .ne 6, 3) := by decide +kernel
theorem dX10_refusalOfMeet_42 : decode cX10_refusalOfMeet 42 = .ok (.ldc 50, 2) := by decide +kernel
theorem dX10_refusalOfMeet_44 : decode cX10_refusalOfMeet 44 = .ok (.ireturn, 1) := by decide +kernel
theorem dX10_refusalOfMeet_45 : decode cX10_refusalOfMeet 45 = .ok (.aload_n 0, 1) := by decide +kernel
theorem dX10_refusalOfMeet_46 : decode cX10_refusalOfMeet 46 = .ok (.getfield 27, 3) := by decide +kernel
theorem dX10_refusalOfMeet_49 : decode cX10_refusalOfMeet 49 = .ok (.getfield 91, 3) := by decide +kernel
theorem dX10_refusalOfMeet_52 : decode cX10_refusalOfMeet 52 = .ok (.iload_n 1, 1) := by decide +kernel
theorem dX10_refusalOfMeet_53 : decode cX10_refusalOfMeet 53 = .ok (.iload_n 2, 1) := by decide +kernel
theorem dX10_refusalOfMeet_54 : decode cX10_refusalOfMeet 54 = .ok (.invokevirtual 125, 3) := by decide +kernel
theorem dX10_refusalOfMeet_57 : decode cX10_refusalOfMeet 57 = .ok (.ifCond .eq 7, 3) := by decide +kernel
theorem dX10_refusalOfMeet_60 : decode cX10_refusalOfMeet 60 = .ok (.iconst 0, 1) := by decide +kernel
theorem dX10_refusalOfMeet_61 : decode cX10_refusalOfMeet 61 = .ok (.goto 5, 3) := by decide +kernel
theorem dX10_refusalOfMeet_64 : decode cX10_refusalOfMeet 64 = .ok (.ldc 90, 2) := by decide +kernel
theorem dX10_refusalOfMeet_66 : decode cX10_refusalOfMeet 66 = .ok (.ireturn, 1) := by decide +kernel
theorem dX10_write_0 : decode cX10_write 0 = .ok (.aload_n 0, 1) := by decide +kernel
theorem dX10_write_1 : decode cX10_write 1 = .ok (.getfield 27, 3) := by decide +kernel
theorem dX10_write_4 : decode cX10_write 4 = .ok (.getfield 141, 3) := by decide +kernel
theorem dX10_write_7 : decode cX10_write 7 = .ok (.getfield 276, 3) := by decide +kernel
theorem dX10_write_10 : decode cX10_write 10 = .ok (.bipush 12, 2) := by decide +kernel
theorem dX10_write_12 : decode cX10_write 12 = .ok (.if_icmp .lt 10, 3) := by decide +kernel
theorem dX10_write_15 : decode cX10_write 15 = .ok (.aload_n 0, 1) := by decide +kernel
theorem dX10_write_16 : decode cX10_write 16 = .ok (.ldc 98, 2) := by decide +kernel
theorem dX10_write_18 : decode cX10_write 18 = .ok (.invokevirtual 51, 3) := by decide +kernel
theorem dX10_write_21 : decode cX10_write 21 = .ok (.ireturn, 1) := by decide +kernel
theorem dX10_write_22 : decode cX10_write 22 = .ok (.aload_n 0, 1) := by decide +kernel
theorem dX10_write_23 : decode cX10_write 23 = .ok (.invokevirtual 62, 3) := by decide +kernel
theorem dX10_write_26 : decode cX10_write 26 = .ok (.aload_n 0, 1) := by decide +kernel
theorem dX10_write_27 : decode cX10_write 27 = .ok (.getfield 27, 3) := by decide +kernel
theorem dX10_write_30 : decode cX10_write 30 = .ok (.getfield 141, 3) := by decide +kernel
theorem dX10_write_33 : decode cX10_write 33 = .ok (.iload_n 1, 1) := by decide +kernel
theorem dX10_write_34 : decode cX10_write 34 = .ok (.iload_n 2, 1) := by decide +kernel
theorem dX10_write_35 : decode cX10_write 35 = .ok (.iload_n 3, 1) := by decide +kernel
theorem dX10_write_36 : decode cX10_write 36 = .ok (.iload 4, 2) := by decide +kernel
theorem dX10_write_38 : decode cX10_write 38 = .ok (.iload 5, 2) := by decide +kernel
theorem dX10_write_40 : decode cX10_write 40 = .ok (.invokevirtual 277, 3) := by decide +kernel
theorem dX10_write_43 : decode cX10_write 43 = .ok (.ireturn, 1) := by decide +kernel
theorem dX10_keepForUndo_0 : decode cX10_keepForUndo 0 = .ok (.aload_n 0, 1) := by decide +kernel
theorem dX10_keepForUndo_1 : decode cX10_keepForUndo 1 = .ok (.getfield 31, 3) := by decide +kernel
theorem dX10_keepForUndo_4 : decode cX10_keepForUndo 4 = .ok (.aload_n 0, 1) := by decide +kernel
theorem dX10_keepForUndo_5 : decode cX10_keepForUndo 5 = .ok (.getfield 27, 3) := by decide +kernel
theorem dX10_keepForUndo_8 : decode cX10_keepForUndo 8 = .ok (.invokevirtual 278, 3) := by decide +kernel
theorem dX10_keepForUndo_11 : decode cX10_keepForUndo 11 = .ok (.aload_n 0, 1) := by decide +kernel
theorem dX10_keepForUndo_12 : decode cX10_keepForUndo 12 = .ok (.invokevirtual 273, 3) := by decide +kernel
theorem dX10_keepForUndo_15 : decode cX10_keepForUndo 15 = .ok (.return_, 1) := by decide +kernel
theorem dX10_forgetTheDay_0 : decode cX10_forgetTheDay 0 = .ok (.aload_n 0, 1) := by decide +kernel
theorem dX10_forgetTheDay_1 : decode cX10_forgetTheDay 1 = .ok (.getfield 20, 3) := by decide +kernel
theorem dX10_forgetTheDay_4 : decode cX10_forgetTheDay 4 = .ok (.invokevirtual 281, 3) := by decide +kernel
theorem dX10_forgetTheDay_7 : decode cX10_forgetTheDay 7 = .ok (.aload_n 0, 1) := by decide +kernel
theorem dX10_forgetTheDay_8 : decode cX10_forgetTheDay 8 = .ok (.getfield 12, 3) := by decide +kernel
theorem dX10_forgetTheDay_11 : decode cX10_forgetTheDay 11 = .ok (.invokevirtual 284, 3) := by decide +kernel
theorem dX10_forgetTheDay_14 : decode cX10_forgetTheDay 14 = .ok (.return_, 1) := by decide +kernel
theorem dX11_init_0 : decode cX11_init 0 = .ok (.aload_n 0, 1) := by decide +kernel
theorem dX11_init_1 : decode cX11_init 1 = .ok (.invokespecial 1, 3) := by decide +kernel
theorem dX11_init_4 : decode cX11_init 4 = .ok (.aload_n 0, 1) := by decide +kernel
theorem dX11_init_5 : decode cX11_init 5 = .ok (.sipush 174, 3) := by decide +kernel
theorem dX11_init_8 : decode cX11_init 8 = .ok (.newarray .int, 2) := by decide +kernel
theorem dX11_init_10 : decode cX11_init 10 = .ok (.putfield 7, 3) := by decide +kernel
theorem dX11_init_13 : decode cX11_init 13 = .ok (.aload_n 0, 1) := by decide +kernel
theorem dX11_init_14 : decode cX11_init 14 = .ok (.sipush 2784, 3) := by decide +kernel
theorem dX11_init_17 : decode cX11_init 17 = .ok (.newarray .int, 2) := by decide +kernel
theorem dX11_init_19 : decode cX11_init 19 = .ok (.putfield 13, 3) := by decide +kernel
theorem dX11_init_22 : decode cX11_init 22 = .ok (.aload_n 0, 1) := by decide +kernel
theorem dX11_init_23 : decode cX11_init 23 = .ok (.iconst 4, 1) := by decide +kernel
theorem dX11_init_24 : decode cX11_init 24 = .ok (.newarray .int, 2) := by decide +kernel
theorem dX11_init_26 : decode cX11_init 26 = .ok (.putfield 16, 3) := by decide +kernel
theorem dX11_init_29 : decode cX11_init 29 = .ok (.aload_n 0, 1) := by decide +kernel
theorem dX11_init_30 : decode cX11_init 30 = .ok (.iconst 4, 1) := by decide +kernel
theorem dX11_init_31 : decode cX11_init 31 = .ok (.newarray .int, 2) := by decide +kernel
theorem dX11_init_33 : decode cX11_init 33 = .ok (.putfield 19, 3) := by decide +kernel
theorem dX11_init_36 : decode cX11_init 36 = .ok (.aload_n 0, 1) := by decide +kernel
theorem dX11_init_37 : decode cX11_init 37 = .ok (.sipush 240, 3) := by decide +kernel
theorem dX11_init_40 : decode cX11_init 40 = .ok (.newarray .int, 2) := by decide +kernel
theorem dX11_init_42 : decode cX11_init 42 = .ok (.putfield 22, 3) := by decide +kernel
theorem dX11_init_45 : decode cX11_init 45 = .ok (.aload_n 0, 1) := by decide +kernel
theorem dX11_init_46 : decode cX11_init 46 = .ok (.bipush 60, 2) := by decide +kernel
theorem dX11_init_48 : decode cX11_init 48 = .ok (.newarray .int, 2) := by decide +kernel
theorem dX11_init_50 : decode cX11_init 50 = .ok (.putfield 25, 3) := by decide +kernel
theorem dX11_init_53 : decode cX11_init 53 = .ok (.aload_n 0, 1) := by decide +kernel
theorem dX11_init_54 : decode cX11_init 54 = .ok (.bipush 12, 2) := by decide +kernel
theorem dX11_init_56 : decode cX11_init 56 = .ok (.newarray .boolean, 2) := by decide +kernel
theorem dX11_init_58 : decode cX11_init 58 = .ok (.putfield 28, 3) := by decide +kernel
theorem dX11_init_61 : decode cX11_init 61 = .ok (.aload_n 0, 1) := by decide +kernel
theorem dX11_init_62 : decode cX11_init 62 = .ok (.iconst 5, 1) := by decide +kernel
theorem dX11_init_63 : decode cX11_init 63 = .ok (.newarray .int, 2) := by decide +kernel
theorem dX11_init_65 : decode cX11_init 65 = .ok (.putfield 32, 3) := by decide +kernel
theorem dX11_init_68 : decode cX11_init 68 = .ok (.aload_n 0, 1) := by decide +kernel
theorem dX11_init_69 : decode cX11_init 69 = .ok (.iconst 5, 1) := by decide +kernel
theorem dX11_init_70 : decode cX11_init 70 = .ok (.newarray .int, 2) := by decide +kernel
theorem dX11_init_72 : decode cX11_init 72 = .ok (.putfield 35, 3) := by decide +kernel
theorem dX11_init_75 : decode cX11_init 75 = .ok (.aload_n 0, 1) := by decide +kernel
theorem dX11_init_76 : decode cX11_init 76 = .ok (.iconst 5, 1) := by decide +kernel
theorem dX11_init_77 : decode cX11_init 77 = .ok (.newarray .int, 2) := by decide +kernel
theorem dX11_init_79 : decode cX11_init 79 = .ok (.putfield 38, 3) := by decide +kernel
theorem dX11_init_82 : decode cX11_init 82 = .ok (.aload_n 0, 1) := by decide +kernel
theorem dX11_init_83 : decode cX11_init 83 = .ok (.iconst 5, 1) := by decide +kernel
theorem dX11_init_84 : decode cX11_init 84 = .ok (.newarray .int, 2) := by decide +kernel
theorem dX11_init_86 : decode cX11_init 86 = .ok (.putfield 41, 3) := by decide +kernel
theorem dX11_init_89 : decode cX11_init 89 = .ok (.aload_n 0, 1) := by decide +kernel
theorem dX11_init_90 : decode cX11_init 90 = .ok (.iconst 5, 1) := by decide +kernel
theorem dX11_init_91 : decode cX11_init 91 = .ok (.newarray .int, 2) := by decide +kernel
theorem dX11_init_93 : decode cX11_init 93 = .ok (.putfield 44, 3) := by decide +kernel
theorem dX11_init_96 : decode cX11_init 96 = .ok (.aload_n 0, 1) := by decide +kernel
theorem dX11_init_97 : decode cX11_init 97 = .ok (.bipush 35, 2) := by decide +kernel
theorem dX11_init_99 : decode cX11_init 99 = .ok (.newarray .int, 2) := by decide +kernel
theorem dX11_init_101 : decode cX11_init 101 = .ok (.putfield 47, 3) := by decide +kernel
theorem dX11_init_104 : decode cX11_init 104 = .ok (.aload_n 0, 1) := by decide +kernel
theorem dX11_init_105 : decode cX11_init 105 = .ok (.bipush 35, 2) := by decide +kernel
theorem dX11_init_107 : decode cX11_init 107 = .ok (.newarray .int, 2) := by decide +kernel
theorem dX11_init_109 : decode cX11_init 109 = .ok (.putfield 50, 3) := by decide +kernel
theorem dX11_init_112 : decode cX11_init 112 = .ok (.aload_n 0, 1) := by decide +kernel
theorem dX11_init_113 : decode cX11_init 113 = .ok (.bipush 14, 2) := by decide +kernel
theorem dX11_init_115 : decode cX11_init 115 = .ok (.newarray .int, 2) := by decide +kernel
theorem dX11_init_117 : decode cX11_init 117 = .ok (.putfield 53, 3) := by decide +kernel
theorem dX11_init_120 : decode cX11_init 120 = .ok (.aload_n 0, 1) := by decide +kernel
theorem dX11_init_121 : decode cX11_init 121 = .ok (.sipush 2505, 3) := by decide +kernel
theorem dX11_init_124 : decode cX11_init 124 = .ok (.newarray .int, 2) := by decide +kernel
theorem dX11_init_126 : decode cX11_init 126 = .ok (.putfield 56, 3) := by decide +kernel
theorem dX11_init_129 : decode cX11_init 129 = .ok (.aload_n 0, 1) := by decide +kernel
theorem dX11_init_130 : decode cX11_init 130 = .ok (.sipush 2505, 3) := by decide +kernel
theorem dX11_init_133 : decode cX11_init 133 = .ok (.newarray .int, 2) := by decide +kernel
theorem dX11_init_135 : decode cX11_init 135 = .ok (.putfield 59, 3) := by decide +kernel
theorem dX11_init_138 : decode cX11_init 138 = .ok (.aload_n 0, 1) := by decide +kernel
theorem dX11_init_139 : decode cX11_init 139 = .ok (.iconst 5, 1) := by decide +kernel
theorem dX11_init_140 : decode cX11_init 140 = .ok (.newarray .boolean, 2) := by decide +kernel
theorem dX11_init_142 : decode cX11_init 142 = .ok (.putfield 62, 3) := by decide +kernel
theorem dX11_init_145 : decode cX11_init 145 = .ok (.aload_n 0, 1) := by decide +kernel
theorem dX11_init_146 : decode cX11_init 146 = .ok (.bipush 35, 2) := by decide +kernel
theorem dX11_init_148 : decode cX11_init 148 = .ok (.newarray .boolean, 2) := by decide +kernel
theorem dX11_init_150 : decode cX11_init 150 = .ok (.putfield 65, 3) := by decide +kernel
theorem dX11_init_153 : decode cX11_init 153 = .ok (.aload_n 0, 1) := by decide +kernel
theorem dX11_init_154 : decode cX11_init 154 = .ok (.bipush 35, 2) := by decide +kernel
theorem dX11_init_156 : decode cX11_init 156 = .ok (.newarray .boolean, 2) := by decide +kernel
theorem dX11_init_158 : decode cX11_init 158 = .ok (.putfield 68, 3) := by decide +kernel
theorem dX11_init_161 : decode cX11_init 161 = .ok (.aload_n 0, 1) := by decide +kernel
theorem dX11_init_162 : decode cX11_init 162 = .ok (.bipush 25, 2) := by decide +kernel
theorem dX11_init_164 : decode cX11_init 164 = .ok (.newarray .boolean, 2) := by decide +kernel
theorem dX11_init_166 : decode cX11_init 166 = .ok (.putfield 71, 3) := by decide +kernel
theorem dX11_init_169 : decode cX11_init 169 = .ok (.aload_n 0, 1) := by decide +kernel
theorem dX11_init_170 : decode cX11_init 170 = .ok (.bipush 42, 2) := by decide +kernel
theorem dX11_init_172 : decode cX11_init 172 = .ok (.newarray .int, 2) := by decide +kernel
theorem dX11_init_174 : decode cX11_init 174 = .ok (.putfield 74, 3) := by decide +kernel
theorem dX11_init_177 : decode cX11_init 177 = .ok (.aload_n 0, 1) := by decide +kernel
theorem dX11_init_178 : decode cX11_init 178 = .ok (.bipush 42, 2) := by decide +kernel
theorem dX11_init_180 : decode cX11_init 180 = .ok (.newarray .int, 2) := by decide +kernel
theorem dX11_init_182 : decode cX11_init 182 = .ok (.putfield 77, 3) := by decide +kernel
theorem dX11_init_185 : decode cX11_init 185 = .ok (.aload_n 0, 1) := by decide +kernel
theorem dX11_init_186 : decode cX11_init 186 = .ok (.bipush 42, 2) := by decide +kernel
theorem dX11_init_188 : decode cX11_init 188 = .ok (.newarray .int, 2) := by decide +kernel
theorem dX11_init_190 : decode cX11_init 190 = .ok (.putfield 80, 3) := by decide +kernel
theorem dX11_init_193 : decode cX11_init 193 = .ok (.aload_n 0, 1) := by decide +kernel
theorem dX11_init_194 : decode cX11_init 194 = .ok (.bipush 42, 2) := by decide +kernel
theorem dX11_init_196 : decode cX11_init 196 = .ok (.newarray .int, 2) := by decide +kernel
theorem dX11_init_198 : decode cX11_init 198 = .ok (.putfield 83, 3) := by decide +kernel
theorem dX11_init_201 : decode cX11_init 201 = .ok (.aload_n 0, 1) := by decide +kernel
theorem dX11_init_202 : decode cX11_init 202 = .ok (.getfield 7, 3) := by decide +kernel
theorem dX11_init_205 : decode cX11_init 205 = .ok (.iconst 0, 1) := by decide +kernel
theorem dX11_init_206 : decode cX11_init 206 = .ok (.iconst 3, 1) := by decide +kernel
theorem dX11_init_207 : decode cX11_init 207 = .ok (.iastore, 1) := by decide +kernel
theorem dX11_init_208 : decode cX11_init 208 = .ok (.iconst 0, 1) := by decide +kernel
theorem dX11_init_209 : decode cX11_init 209 = .ok (.istore_n 1, 1) := by decide +kernel
theorem dX11_init_210 : decode cX11_init 210 = .ok (.iload_n 1, 1) := by decide +kernel
theorem dX11_init_211 : decode cX11_init 211 = .ok (.bipush 7, 2) := by decide +kernel
theorem dX11_init_213 : decode cX11_init 213 = .ok (.if_icmp .ge 19, 3) := by decide +kernel
theorem dX11_init_216 : decode cX11_init 216 = .ok (.aload_n 0, 1) := by decide +kernel
theorem dX11_init_217 : decode cX11_init 217 = .ok (.getfield 7, 3) := by decide +kernel
theorem dX11_init_220 : decode cX11_init 220 = .ok (.iconst 1, 1) := by decide +kernel
theorem dX11_init_221 : decode cX11_init 221 = .ok (.iload_n 1, 1) := by decide +kernel
theorem dX11_init_222 : decode cX11_init 222 = .ok (.iadd, 1) := by decide +kernel
theorem dX11_init_223 : decode cX11_init 223 = .ok (.bipush 10, 2) := by decide +kernel
theorem dX11_init_225 : decode cX11_init 225 = .ok (.iastore, 1) := by decide +kernel
theorem dX11_init_226 : decode cX11_init 226 = .ok (.iinc 1 1, 3) := by decide +kernel
theorem dX11_init_229 : decode cX11_init 229 = .ok (.goto (-19), 3) := by decide +kernel
theorem dX11_init_232 : decode cX11_init 232 = .ok (.iconst 0, 1) := by decide +kernel
theorem dX11_init_233 : decode cX11_init 233 = .ok (.istore_n 1, 1) := by decide +kernel
theorem dX11_init_234 : decode cX11_init 234 = .ok (.iload_n 1, 1) := by decide +kernel
theorem dX11_init_235 : decode cX11_init 235 = .ok (.bipush 6, 2) := by decide +kernel
theorem dX11_init_237 : decode cX11_init 237 = .ok (.if_icmp .ge 20, 3) := by decide +kernel
theorem dX11_init_240 : decode cX11_init 240 = .ok (.aload_n 0, 1) := by decide +kernel
theorem dX11_init_241 : decode cX11_init 241 = .ok (.getfield 7, 3) := by decide +kernel
theorem dX11_init_244 : decode cX11_init 244 = .ok (.bipush 8, 2) := by decide +kernel
theorem dX11_init_246 : decode cX11_init 246 = .ok (.iload_n 1, 1) := by decide +kernel
theorem dX11_init_247 : decode cX11_init 247 = .ok (.iadd, 1) := by decide +kernel
theorem dX11_init_248 : decode cX11_init 248 = .ok (.bipush 10, 2) := by decide +kernel
theorem dX11_init_250 : decode cX11_init 250 = .ok (.iastore, 1) := by decide +kernel
theorem dX11_init_251 : decode cX11_init 251 = .ok (.iinc 1 1, 3) := by decide +kernel
theorem dX11_init_254 : decode cX11_init 254 = .ok (.goto (-20), 3) := by decide +kernel
theorem dX11_init_257 : decode cX11_init 257 = .ok (.iconst 0, 1) := by decide +kernel
theorem dX11_init_258 : decode cX11_init 258 = .ok (.istore_n 1, 1) := by decide +kernel
theorem dX11_init_259 : decode cX11_init 259 = .ok (.iload_n 1, 1) := by decide +kernel
theorem dX11_init_260 : decode cX11_init 260 = .ok (.bipush 60, 2) := by decide +kernel
theorem dX11_init_262 : decode cX11_init 262 = .ok (.if_icmp .ge 19, 3) := by decide +kernel
theorem dX11_init_265 : decode cX11_init 265 = .ok (.aload_n 0, 1) := by decide +kernel
theorem dX11_init_266 : decode cX11_init 266 = .ok (.getfield 7, 3) := by decide +kernel
theorem dX11_init_269 : decode cX11_init 269 = .ok (.bipush 101, 2) := by decide +kernel
theorem dX11_init_271 : decode cX11_init 271 = .ok (.iload_n 1, 1) := by decide +kernel
theorem dX11_init_272 : decode cX11_init 272 = .ok (.iadd, 1) := by decide +kernel
theorem dX11_init_273 : decode cX11_init 273 = .ok (.iconst (-1), 1) := by decide +kernel
theorem dX11_init_274 : decode cX11_init 274 = .ok (.iastore, 1) := by decide +kernel
theorem dX11_init_275 : decode cX11_init 275 = .ok (.iinc 1 1, 3) := by decide +kernel
theorem dX11_init_278 : decode cX11_init 278 = .ok (.goto (-19), 3) := by decide +kernel
theorem dX11_init_281 : decode cX11_init 281 = .ok (.return_, 1) := by decide +kernel
theorem dX11_in_0 : decode cX11_in 0 = .ok (.iload_n 0, 1) := by decide +kernel
theorem dX11_in_1 : decode cX11_in 1 = .ok (.iload_n 1, 1) := by decide +kernel
theorem dX11_in_2 : decode cX11_in 2 = .ok (.if_icmp .lt 12, 3) := by decide +kernel
theorem dX11_in_5 : decode cX11_in 5 = .ok (.iload_n 0, 1) := by decide +kernel
theorem dX11_in_6 : decode cX11_in 6 = .ok (.iload_n 2, 1) := by decide +kernel
theorem dX11_in_7 : decode cX11_in 7 = .ok (.if_icmp .gt 7, 3) := by decide +kernel
theorem dX11_in_10 : decode cX11_in 10 = .ok (.iconst 1, 1) := by decide +kernel
theorem dX11_in_11 : decode cX11_in 11 = .ok (.goto 4, 3) := by decide +kernel
theorem dX11_in_14 : decode cX11_in 14 = .ok (.iconst 0, 1) := by decide +kernel
theorem dX11_in_15 : decode cX11_in 15 = .ok (.ireturn, 1) := by decide +kernel
theorem dX11_finds_0 : decode cX11_finds 0 = .ok (.aload_n 0, 1) := by decide +kernel
theorem dX11_finds_1 : decode cX11_finds 1 = .ok (.dup, 1) := by decide +kernel
theorem dX11_finds_2 : decode cX11_finds 2 = .ok (.getfield 86, 3) := by decide +kernel
theorem dX11_finds_5 : decode cX11_finds 5 = .ok (.iconst 1, 1) := by decide +kernel
theorem dX11_finds_6 : decode cX11_finds 6 = .ok (.iadd, 1) := by decide +kernel
theorem dX11_finds_7 : decode cX11_finds 7 = .ok (.putfield 86, 3) := by decide +kernel
theorem dX11_finds_10 : decode cX11_finds 10 = .ok (.iload_n 1, 1) := by decide +kernel
theorem dX11_finds_11 : decode cX11_finds 11 = .ok (.ireturn, 1) := by decide +kernel
theorem dX11_keep_0 : decode cX11_keep 0 = .ok (.aload_n 0, 1) := by decide +kernel
theorem dX11_keep_1 : decode cX11_keep 1 = .ok (.iconst 0, 1) := by decide +kernel
theorem dX11_keep_2 : decode cX11_keep 2 = .ok (.putfield 90, 3) := by decide +kernel
theorem dX11_keep_5 : decode cX11_keep 5 = .ok (.iconst 0, 1) := by decide +kernel
theorem dX11_keep_6 : decode cX11_keep 6 = .ok (.istore_n 1, 1) := by decide +kernel
theorem dX11_keep_7 : decode cX11_keep 7 = .ok (.iload_n 1, 1) := by decide +kernel
theorem dX11_keep_8 : decode cX11_keep 8 = .ok (.sipush 174, 3) := by decide +kernel
theorem dX11_keep_11 : decode cX11_keep 11 = .ok (.if_icmp .ge 30, 3) := by decide +kernel
theorem dX11_keep_14 : decode cX11_keep 14 = .ok (.aload_n 0, 1) := by decide +kernel
theorem dX11_keep_15 : decode cX11_keep 15 = .ok (.getfield 13, 3) := by decide +kernel
theorem dX11_keep_18 : decode cX11_keep 18 = .ok (.sipush 174, 3) := by decide +kernel
theorem dX11_keep_21 : decode cX11_keep 21 = .ok (.aload_n 0, 1) := by decide +kernel
theorem dX11_keep_22 : decode cX11_keep 22 = .ok (.getfield 94, 3) := by decide +kernel
theorem dX11_keep_25 : decode cX11_keep 25 = .ok (.imul, 1) := by decide +kernel
theorem dX11_keep_26 : decode cX11_keep 26 = .ok (.iload_n 1, 1) := by decide +kernel
theorem dX11_keep_27 : decode cX11_keep 27 = .ok (.iadd, 1) := by decide +kernel
theorem dX11_keep_28 : decode cX11_keep 28 = .ok (.aload_n 0, 1) := by decide +kernel
theorem dX11_keep_29 : decode cX11_keep 29 = .ok (.getfield 7, 3) := by decide +kernel
theorem dX11_keep_32 : decode cX11_keep 32 = .ok (.iload_n 1, 1) := by decide +kernel
theorem dX11_keep_33 : decode cX11_keep 33 = .ok (.iaload, 1) := by decide +kernel
theorem dX11_keep_34 : decode cX11_keep 34 = .ok (.iastore, 1) := by decide +kernel
theorem dX11_keep_35 : decode cX11_keep 35 = .ok (.iinc 1 1, 3) := by decide +kernel
theorem dX11_keep_38 : decode cX11_keep 38 = .ok (.goto (-31), 3) := by decide +kernel
theorem dX11_keep_41 : decode cX11_keep 41 = .ok (.aload_n 0, 1) := by decide +kernel
theorem dX11_keep_42 : decode cX11_keep 42 = .ok (.aload_n 0, 1) := by decide +kernel
theorem dX11_keep_43 : decode cX11_keep 43 = .ok (.getfield 94, 3) := by decide +kernel
theorem dX11_keep_46 : decode cX11_keep 46 = .ok (.iconst 1, 1) := by decide +kernel
theorem dX11_keep_47 : decode cX11_keep 47 = .ok (.iadd, 1) := by decide +kernel
theorem dX11_keep_48 : decode cX11_keep 48 = .ok (.bipush 16, 2) := by decide +kernel
theorem dX11_keep_50 : decode cX11_keep 50 = .ok (.irem, 1) := by decide +kernel
theorem dX11_keep_51 : decode cX11_keep 51 = .ok (.putfield 94, 3) := by decide +kernel
theorem dX11_keep_54 : decode cX11_keep 54 = .ok (.aload_n 0, 1) := by decide +kernel
theorem dX11_keep_55 : decode cX11_keep 55 = .ok (.aload_n 0, 1) := by decide +kernel
theorem dX11_keep_56 : decode cX11_keep 56 = .ok (.getfield 97, 3) := by decide +kernel
theorem dX11_keep_59 : decode cX11_keep 59 = .ok (.bipush 16, 2) := by decide +kernel
theorem dX11_keep_61 : decode cX11_keep 61 = .ok (.if_icmp .ge 12, 3) := by decide +kernel
theorem dX11_keep_64 : decode cX11_keep 64 = .ok (.aload_n 0, 1) := by decide +kernel
theorem dX11_keep_65 : decode cX11_keep 65 = .ok (.getfield 97, 3) := by decide +kernel
theorem dX11_keep_68 : decode cX11_keep 68 = .ok (.iconst 1, 1) := by decide +kernel
theorem dX11_keep_69 : decode cX11_keep 69 = .ok (.iadd, 1) := by decide +kernel
theorem dX11_keep_70 : decode cX11_keep 70 = .ok (.goto 5, 3) := by decide +kernel
theorem dX11_keep_73 : decode cX11_keep 73 = .ok (.bipush 16, 2) := by decide +kernel
theorem dX11_keep_75 : decode cX11_keep 75 = .ok (.putfield 97, 3) := by decide +kernel
theorem dX11_keep_78 : decode cX11_keep 78 = .ok (.return_, 1) := by decide +kernel
theorem dX11_undo_0 : decode cX11_undo 0 = .ok (.aload_n 0, 1) := by decide +kernel
theorem dX11_undo_1 : decode cX11_undo 1 = .ok (.getfield 97, 3) := by decide +kernel
theorem dX11_undo_4 : decode cX11_undo 4 = .ok (.ifCond .ne 10, 3) := by decide +kernel
theorem dX11_undo_7 : decode cX11_undo 7 = .ok (.aload_n 0, 1) := by decide +kernel
theorem dX11_undo_8 : decode cX11_undo 8 = .ok (.ldc 100, 2) := by decide +kernel
theorem dX11_undo_10 : decode cX11_undo 10 = .ok (.invokevirtual 101, 3) := by decide +kernel
theorem dX11_undo_13 : decode cX11_undo 13 = .ok (.ireturn, 1) := by decide +kernel
theorem dX11_undo_14 : decode cX11_undo 14 = .ok (.aload_n 0, 1) := by decide +kernel
theorem dX11_undo_15 : decode cX11_undo 15 = .ok (.iconst 0, 1) := by decide +kernel
theorem dX11_undo_16 : decode cX11_undo 16 = .ok (.putfield 90, 3) := by decide +kernel
theorem dX11_undo_19 : decode cX11_undo 19 = .ok (.aload_n 0, 1) := by decide +kernel
theorem dX11_undo_20 : decode cX11_undo 20 = .ok (.aload_n 0, 1) := by decide +kernel
theorem dX11_undo_21 : decode cX11_undo 21 = .ok (.getfield 94, 3) := by decide +kernel
theorem dX11_undo_24 : decode cX11_undo 24 = .ok (.bipush 16, 2) := by decide +kernel
theorem dX11_undo_26 : decode cX11_undo 26 = .ok (.iadd, 1) := by decide +kernel
theorem dX11_undo_27 : decode cX11_undo 27 = .ok (.iconst 1, 1) := by decide +kernel
theorem dX11_undo_28 : decode cX11_undo 28 = .ok (.isub, 1) := by decide +kernel
theorem dX11_undo_29 : decode cX11_undo 29 = .ok (.bipush 16, 2) := by decide +kernel
theorem dX11_undo_31 : decode cX11_undo 31 = .ok (.irem, 1) := by decide +kernel
theorem dX11_undo_32 : decode cX11_undo 32 = .ok (.putfield 94, 3) := by decide +kernel
theorem dX11_undo_35 : decode cX11_undo 35 = .ok (.aload_n 0, 1) := by decide +kernel
theorem dX11_undo_36 : decode cX11_undo 36 = .ok (.dup, 1) := by decide +kernel
theorem dX11_undo_37 : decode cX11_undo 37 = .ok (.getfield 97, 3) := by decide +kernel
theorem dX11_undo_40 : decode cX11_undo 40 = .ok (.iconst 1, 1) := by decide +kernel
theorem dX11_undo_41 : decode cX11_undo 41 = .ok (.isub, 1) := by decide +kernel
theorem dX11_undo_42 : decode cX11_undo 42 = .ok (.putfield 97, 3) := by decide +kernel
theorem dX11_undo_45 : decode cX11_undo 45 = .ok (.iconst 0, 1) := by decide +kernel
theorem dX11_undo_46 : decode cX11_undo 46 = .ok (.istore_n 1, 1) := by decide +kernel
theorem dX11_undo_47 : decode cX11_undo 47 = .ok (.iload_n 1, 1) := by decide +kernel
theorem dX11_undo_48 : decode cX11_undo 48 = .ok (.sipush 174, 3) := by decide +kernel
theorem dX11_undo_51 : decode cX11_undo 51 = .ok (.if_icmp .ge 30, 3) := by decide +kernel
theorem dX11_undo_54 : decode cX11_undo 54 = .ok (.aload_n 0, 1) := by decide +kernel
theorem dX11_undo_55 : decode cX11_undo 55 = .ok (.getfield 7, 3) := by decide +kernel
theorem dX11_undo_58 : decode cX11_undo 58 = .ok (.iload_n 1, 1) := by decide +kernel
theorem dX11_undo_59 : decode cX11_undo 59 = .ok (.aload_n 0, 1) := by decide +kernel
theorem dX11_undo_60 : decode cX11_undo 60 = .ok (.getfield 13, 3) := by decide +kernel
theorem dX11_undo_63 : decode cX11_undo 63 = .ok (.sipush 174, 3) := by decide +kernel
theorem dX11_undo_66 : decode cX11_undo 66 = .ok (.aload_n 0, 1) := by decide +kernel
theorem dX11_undo_67 : decode cX11_undo 67 = .ok (.getfield 94, 3) := by decide +kernel
theorem dX11_undo_70 : decode cX11_undo 70 = .ok (.imul, 1) := by decide +kernel
theorem dX11_undo_71 : decode cX11_undo 71 = .ok (.iload_n 1, 1) := by decide +kernel
theorem dX11_undo_72 : decode cX11_undo 72 = .ok (.iadd, 1) := by decide +kernel
theorem dX11_undo_73 : decode cX11_undo 73 = .ok (.iaload, 1) := by decide +kernel
theorem dX11_undo_74 : decode cX11_undo 74 = .ok (.iastore, 1) := by decide +kernel
theorem dX11_undo_75 : decode cX11_undo 75 = .ok (.iinc 1 1, 3) := by decide +kernel
theorem dX11_undo_78 : decode cX11_undo 78 = .ok (.goto (-31), 3) := by decide +kernel
theorem dX11_undo_81 : decode cX11_undo 81 = .ok (.aload_n 0, 1) := by decide +kernel
theorem dX11_undo_82 : decode cX11_undo 82 = .ok (.getfield 97, 3) := by decide +kernel
theorem dX11_undo_85 : decode cX11_undo 85 = .ok (.ireturn, 1) := by decide +kernel
theorem dX11_becomes_0 : decode cX11_becomes 0 = .ok (.aload_n 0, 1) := by decide +kernel
theorem dX11_becomes_1 : decode cX11_becomes 1 = .ok (.invokevirtual 105, 3) := by decide +kernel
theorem dX11_becomes_4 : decode cX11_becomes 4 = .ok (.aload_n 0, 1) := by decide +kernel
theorem dX11_becomes_5 : decode cX11_becomes 5 = .ok (.getfield 7, 3) := by decide +kernel
theorem dX11_becomes_8 : decode cX11_becomes 8 = .ok (.iload_n 1, 1) := by decide +kernel
theorem dX11_becomes_9 : decode cX11_becomes 9 = .ok (.iaload, 1) := by decide +kernel
theorem dX11_becomes_10 : decode cX11_becomes 10 = .ok (.istore_n 3, 1) := by decide +kernel
theorem dX11_becomes_11 : decode cX11_becomes 11 = .ok (.aload_n 0, 1) := by decide +kernel
theorem dX11_becomes_12 : decode cX11_becomes 12 = .ok (.getfield 7, 3) := by decide +kernel
theorem dX11_becomes_15 : decode cX11_becomes 15 = .ok (.iload_n 1, 1) := by decide +kernel
theorem dX11_becomes_16 : decode cX11_becomes 16 = .ok (.iload_n 2, 1) := by decide +kernel
theorem dX11_becomes_17 : decode cX11_becomes 17 = .ok (.iastore, 1) := by decide +kernel
theorem dX11_becomes_18 : decode cX11_becomes 18 = .ok (.iload_n 3, 1) := by decide +kernel
theorem dX11_becomes_19 : decode cX11_becomes 19 = .ok (.ireturn, 1) := by decide +kernel
theorem dX11_isStation_0 : decode cX11_isStation 0 = .ok (.iload_n 1, 1) := by decide +kernel
theorem dX11_isStation_1 : decode cX11_isStation 1 = .ok (.iconst 0, 1) := by decide +kernel
theorem dX11_isStation_2 : decode cX11_isStation 2 = .ok (.aload_n 0, 1) := by decide +kernel
theorem dX11_isStation_3 : decode cX11_isStation 3 = .ok (.getfield 7, 3) := by decide +kernel
theorem dX11_isStation_6 : decode cX11_isStation 6 = .ok (.iconst 0, 1) := by decide +kernel
theorem dX11_isStation_7 : decode cX11_isStation 7 = .ok (.iaload, 1) := by decide +kernel
theorem dX11_isStation_8 : decode cX11_isStation 8 = .ok (.iconst 1, 1) := by decide +kernel
theorem dX11_isStation_9 : decode cX11_isStation 9 = .ok (.isub, 1) := by decide +kernel
theorem dX11_isStation_10 : decode cX11_isStation 10 = .ok (.invokestatic 108, 3) := by decide +kernel
theorem dX11_isStation_13 : decode cX11_isStation 13 = .ok (.ireturn, 1) := by decide +kernel
theorem dX11_isTrain_0 : decode cX11_isTrain 0 = .ok (.iload_n 1, 1) := by decide +kernel
theorem dX11_isTrain_1 : decode cX11_isTrain 1 = .ok (.iconst 0, 1) := by decide +kernel
theorem dX11_isTrain_2 : decode cX11_isTrain 2 = .ok (.aload_n 0, 1) := by decide +kernel
theorem dX11_isTrain_3 : decode cX11_isTrain 3 = .ok (.getfield 7, 3) := by decide +kernel
theorem dX11_isTrain_6 : decode cX11_isTrain 6 = .ok (.bipush 14, 2) := by decide +kernel
theorem dX11_isTrain_8 : decode cX11_isTrain 8 = .ok (.iaload, 1) := by decide +kernel
theorem dX11_isTrain_9 : decode cX11_isTrain 9 = .ok (.iconst 1, 1) := by decide +kernel
theorem dX11_isTrain_10 : decode cX11_isTrain 10 = .ok (.isub, 1) := by decide +kernel
theorem dX11_isTrain_11 : decode cX11_isTrain 11 = .ok (.invokestatic 108, 3) := by decide +kernel
theorem dX11_isTrain_14 : decode cX11_isTrain 14 = .ok (.ireturn, 1) := by decide +kernel
theorem dX11_isOrder_0 : decode cX11_isOrder 0 = .ok (.iload_n 1, 1) := by decide +kernel
theorem dX11_isOrder_1 : decode cX11_isOrder 1 = .ok (.iconst 0, 1) := by decide +kernel
theorem dX11_isOrder_2 : decode cX11_isOrder 2 = .ok (.aload_n 0, 1) := by decide +kernel
theorem dX11_isOrder_3 : decode cX11_isOrder 3 = .ok (.getfield 7, 3) := by decide +kernel
theorem dX11_isOrder_6 : decode cX11_isOrder 6 = .ok (.bipush 40, 2) := by decide +kernel
theorem dX11_isOrder_8 : decode cX11_isOrder 8 = .ok (.iaload, 1) := by decide +kernel
theorem dX11_isOrder_9 : decode cX11_isOrder 9 = .ok (.iconst 1, 1) := by decide +kernel
theorem dX11_isOrder_10 : decode cX11_isOrder 10 = .ok (.isub, 1) := by decide +kernel
theorem dX11_isOrder_11 : decode cX11_isOrder 11 = .ok (.invokestatic 108, 3) := by decide +kernel
theorem dX11_isOrder_14 : decode cX11_isOrder 14 = .ok (.ireturn, 1) := by decide +kernel
theorem dX11_isMinute_0 : decode cX11_isMinute 0 = .ok (.iload_n 0, 1) := by decide +kernel
theorem dX11_isMinute_1 : decode cX11_isMinute 1 = .ok (.iconst 0, 1) := by decide +kernel
theorem dX11_isMinute_2 : decode cX11_isMinute 2 = .ok (.sipush 500, 3) := by decide +kernel
theorem dX11_isMinute_5 : decode cX11_isMinute 5 = .ok (.invokestatic 108, 3) := by decide +kernel
theorem dX11_isMinute_8 : decode cX11_isMinute 8 = .ok (.ireturn, 1) := by decide +kernel
theorem dX11_kindOf_0 : decode cX11_kindOf 0 = .ok (.aload_n 0, 1) := by decide +kernel
theorem dX11_kindOf_1 : decode cX11_kindOf 1 = .ok (.getfield 7, 3) := by decide +kernel
theorem dX11_kindOf_4 : decode cX11_kindOf 4 = .ok (.bipush 15, 2) := by decide +kernel

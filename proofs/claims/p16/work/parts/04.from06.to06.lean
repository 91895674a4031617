section
theorem dX9_file_82 : decode cX9_file 82 = .ok (.getfield 53, 3) := by decide +kernel
theorem dX9_file_85 : decode cX9_file 85 = .ok (.iload 5, 2) := by decide +kernel
theorem dX9_file_87 : decode cX9_file 87 = .ok (.iload_n 2, 1) := by decide +kernel
theorem dX9_file_88 : decode cX9_file 88 = .ok (.iastore, 1) := by decide +kernel
theorem dX9_file_89 : decode cX9_file 89 = .ok (.aload_n 0, 1) := by decide +kernel
theorem dX9_file_90 : decode cX9_file 90 = .ok (.getfield 56, 3) := by decide +kernel
theorem dX9_file_93 : decode cX9_file 93 = .ok (.iload 5, 2) := by decide +kernel
theorem dX9_file_95 : decode cX9_file 95 = .ok (.iload_n 3, 1) := by decide +kernel
theorem dX9_file_96 : decode cX9_file 96 = .ok (.iastore, 1) := by decide +kernel
theorem dX9_file_97 : decode cX9_file 97 = .ok (.aload_n 0, 1) := by decide +kernel
theorem dX9_file_98 : decode cX9_file 98 = .ok (.getfield 59, 3) := by decide +kernel
theorem dX9_file_101 : decode cX9_file 101 = .ok (.iload 5, 2) := by decide +kernel
theorem dX9_file_103 : decode cX9_file 103 = .ok (.iload 4, 2) := by decide +kernel
theorem dX9_file_105 : decode cX9_file 105 = .ok (.iastore, 1) := by decide +kernel
theorem dX9_file_106 : decode cX9_file 106 = .ok (.aload_n 0, 1) := by decide +kernel
theorem dX9_file_107 : decode cX9_file 107 = .ok (.getfield 50, 3) := by decide +kernel
theorem dX9_file_110 : decode cX9_file 110 = .ok (.iload_n 1, 1) := by decide +kernel
theorem dX9_file_111 : decode cX9_file 111 = .ok (.dup2, 1) := by decide +kernel
theorem dX9_file_112 : decode cX9_file 112 = .ok (.iaload, 1) := by decide +kernel
theorem dX9_file_113 : decode cX9_file 113 = .ok (.iconst 1, 1) := by decide +kernel
theorem dX9_file_114 : decode cX9_file 114 = .ok (.iadd, 1) := by decide +kernel
theorem dX9_file_115 : decode cX9_file 115 = .ok (.iastore, 1) := by decide +kernel
theorem dX9_file_116 : decode cX9_file 116 = .ok (.aload_n 0, 1) := by decide +kernel
theorem dX9_file_117 : decode cX9_file 117 = .ok (.getfield 50, 3) := by decide +kernel
theorem dX9_file_120 : decode cX9_file 120 = .ok (.iload_n 1, 1) := by decide +kernel
theorem dX9_file_121 : decode cX9_file 121 = .ok (.iaload, 1) := by decide +kernel
theorem dX9_file_122 : decode cX9_file 122 = .ok (.ireturn, 1) := by decide +kernel
theorem dX9_torn_0 : decode cX9_torn 0 = .ok (.aload_n 0, 1) := by decide +kernel
theorem dX9_torn_1 : decode cX9_torn 1 = .ok (.iload_n 1, 1) := by decide +kernel
theorem dX9_torn_2 : decode cX9_torn 2 = .ok (.iconst 0, 1) := by decide +kernel
theorem dX9_torn_3 : decode cX9_torn 3 = .ok (.iconst 3, 1) := by decide +kernel
theorem dX9_torn_4 : decode cX9_torn 4 = .ok (.invokestatic 135, 3) := by decide +kernel
theorem dX9_torn_7 : decode cX9_torn 7 = .ok (.ifCond .eq 7, 3) := by decide +kernel
theorem dX9_torn_10 : decode cX9_torn 10 = .ok (.iconst 0, 1) := by decide +kernel
theorem dX9_torn_11 : decode cX9_torn 11 = .ok (.goto 4, 3) := by decide +kernel
theorem dX9_torn_14 : decode cX9_torn 14 = .ok (.iconst 1, 1) := by decide +kernel
theorem dX9_torn_15 : decode cX9_torn 15 = .ok (.putfield 129, 3) := by decide +kernel
theorem dX9_torn_18 : decode cX9_torn 18 = .ok (.aload_n 0, 1) := by decide +kernel
theorem dX9_torn_19 : decode cX9_torn 19 = .ok (.getfield 129, 3) := by decide +kernel
theorem dX9_torn_22 : decode cX9_torn 22 = .ok (.ifCond .le 5, 3) := by decide +kernel
theorem dX9_torn_25 : decode cX9_torn 25 = .ok (.iconst 0, 1) := by decide +kernel
theorem dX9_torn_26 : decode cX9_torn 26 = .ok (.ireturn, 1) := by decide +kernel
theorem dX9_torn_27 : decode cX9_torn 27 = .ok (.aload_n 0, 1) := by decide +kernel
theorem dX9_torn_28 : decode cX9_torn 28 = .ok (.getfield 62, 3) := by decide +kernel
theorem dX9_torn_31 : decode cX9_torn 31 = .ok (.iload_n 1, 1) := by decide +kernel
theorem dX9_torn_32 : decode cX9_torn 32 = .ok (.baload, 1) := by decide +kernel
theorem dX9_torn_33 : decode cX9_torn 33 = .ok (.istore_n 3, 1) := by decide +kernel
theorem dX9_torn_34 : decode cX9_torn 34 = .ok (.aload_n 0, 1) := by decide +kernel
theorem dX9_torn_35 : decode cX9_torn 35 = .ok (.getfield 62, 3) := by decide +kernel
theorem dX9_torn_38 : decode cX9_torn 38 = .ok (.iload_n 1, 1) := by decide +kernel
theorem dX9_torn_39 : decode cX9_torn 39 = .ok (.iload_n 2, 1) := by decide +kernel
theorem dX9_torn_40 : decode cX9_torn 40 = .ok (.bastore, 1) := by decide +kernel
theorem dX9_torn_41 : decode cX9_torn 41 = .ok (.iload_n 3, 1) := by decide +kernel
theorem dX9_torn_42 : decode cX9_torn 42 = .ok (.ireturn, 1) := by decide +kernel
theorem dX9_find_0 : decode cX9_find 0 = .ok (.iconst (-1), 1) := by decide +kernel
theorem dX9_find_1 : decode cX9_find 1 = .ok (.istore 5, 2) := by decide +kernel
theorem dX9_find_3 : decode cX9_find 3 = .ok (.iconst 0, 1) := by decide +kernel
theorem dX9_find_4 : decode cX9_find 4 = .ok (.istore 6, 2) := by decide +kernel
theorem dX9_find_6 : decode cX9_find 6 = .ok (.iload 6, 2) := by decide +kernel
theorem dX9_find_8 : decode cX9_find 8 = .ok (.aload_n 0, 1) := by decide +kernel
theorem dX9_find_9 : decode cX9_find 9 = .ok (.getfield 160, 3) := by decide +kernel
theorem dX9_find_12 : decode cX9_find 12 = .ok (.if_icmp .ge 63, 3) := by decide +kernel
theorem dX9_find_15 : decode cX9_find 15 = .ok (.aload_n 0, 1) := by decide +kernel
theorem dX9_find_16 : decode cX9_find 16 = .ok (.getfield 65, 3) := by decide +kernel
theorem dX9_find_19 : decode cX9_find 19 = .ok (.iload 6, 2) := by decide +kernel
theorem dX9_find_21 : decode cX9_find 21 = .ok (.iaload, 1) := by decide +kernel
theorem dX9_find_22 : decode cX9_find 22 = .ok (.iload_n 1, 1) := by decide +kernel
theorem dX9_find_23 : decode cX9_find 23 = .ok (.if_icmp .ne 42, 3) := by decide +kernel
theorem dX9_find_26 : decode cX9_find 26 = .ok (.aload_n 0, 1) := by decide +kernel
theorem dX9_find_27 : decode cX9_find 27 = .ok (.getfield 68, 3) := by decide +kernel
theorem dX9_find_30 : decode cX9_find 30 = .ok (.iload 6, 2) := by decide +kernel
theorem dX9_find_32 : decode cX9_find 32 = .ok (.iaload, 1) := by decide +kernel
theorem dX9_find_33 : decode cX9_find 33 = .ok (.iload_n 2, 1) := by decide +kernel
theorem dX9_find_34 : decode cX9_find 34 = .ok (.if_icmp .ne 31, 3) := by decide +kernel
theorem dX9_find_37 : decode cX9_find 37 = .ok (.aload_n 0, 1) := by decide +kernel
theorem dX9_find_38 : decode cX9_find 38 = .ok (.getfield 71, 3) := by decide +kernel
theorem dX9_find_41 : decode cX9_find 41 = .ok (.iload 6, 2) := by decide +kernel
theorem dX9_find_43 : decode cX9_find 43 = .ok (.iaload, 1) := by decide +kernel
theorem dX9_find_44 : decode cX9_find 44 = .ok (.iload_n 3, 1) := by decide +kernel
theorem dX9_find_45 : decode cX9_find 45 = .ok (.if_icmp .ne 20, 3) := by decide +kernel
theorem dX9_find_48 : decode cX9_find 48 = .ok (.aload_n 0, 1) := by decide +kernel
theorem dX9_find_49 : decode cX9_find 49 = .ok (.getfield 74, 3) := by decide +kernel
theorem dX9_find_52 : decode cX9_find 52 = .ok (.iload 6, 2) := by decide +kernel
theorem dX9_find_54 : decode cX9_find 54 = .ok (.iaload, 1) := by decide +kernel
theorem dX9_find_55 : decode cX9_find 55 = .ok (.iload 4, 2) := by decide +kernel
theorem dX9_find_57 : decode cX9_find 57 = .ok (.if_icmp .ne 8, 3) := by decide +kernel
theorem dX9_find_60 : decode cX9_find 60 = .ok (.iload 6, 2) := by decide +kernel
theorem dX9_find_62 : decode cX9_find 62 = .ok (.goto 5, 3) := by decide +kernel
theorem dX9_find_65 : decode cX9_find 65 = .ok (.iload 5, 2) := by decide +kernel
theorem dX9_find_67 : decode cX9_find 67 = .ok (.istore 5, 2) := by decide +kernel
theorem dX9_find_69 : decode cX9_find 69 = .ok (.iinc 6 1, 3) := by decide +kernel
theorem dX9_find_72 : decode cX9_find 72 = .ok (.goto (-66), 3) := by decide +kernel
theorem dX9_find_75 : decode cX9_find 75 = .ok (.iload 5, 2) := by decide +kernel
theorem dX9_find_77 : decode cX9_find 77 = .ok (.ireturn, 1) := by decide +kernel
theorem dX9_come_0 : decode cX9_come 0 = .ok (.aload_n 0, 1) := by decide +kernel
theorem dX9_come_1 : decode cX9_come 1 = .ok (.iload_n 1, 1) := by decide +kernel
theorem dX9_come_2 : decode cX9_come 2 = .ok (.iload_n 2, 1) := by decide +kernel
theorem dX9_come_3 : decode cX9_come 3 = .ok (.iload_n 3, 1) := by decide +kernel
theorem dX9_come_4 : decode cX9_come 4 = .ok (.iload 4, 2) := by decide +kernel
theorem dX9_come_6 : decode cX9_come 6 = .ok (.invokevirtual 163, 3) := by decide +kernel
theorem dX9_come_9 : decode cX9_come 9 = .ok (.ifCond .lt 5, 3) := by decide +kernel
theorem dX9_come_12 : decode cX9_come 12 = .ok (.iconst 1, 1) := by decide +kernel
theorem dX9_come_13 : decode cX9_come 13 = .ok (.ireturn, 1) := by decide +kernel
theorem dX9_come_14 : decode cX9_come 14 = .ok (.aload_n 0, 1) := by decide +kernel
theorem dX9_come_15 : decode cX9_come 15 = .ok (.getfield 160, 3) := by decide +kernel
theorem dX9_come_18 : decode cX9_come 18 = .ok (.bipush 120, 2) := by decide +kernel
theorem dX9_come_20 : decode cX9_come 20 = .ok (.if_icmp .ne 5, 3) := by decide +kernel
theorem dX9_come_23 : decode cX9_come 23 = .ok (.iconst 0, 1) := by decide +kernel
theorem dX9_come_24 : decode cX9_come 24 = .ok (.ireturn, 1) := by decide +kernel
theorem dX9_come_25 : decode cX9_come 25 = .ok (.aload_n 0, 1) := by decide +kernel
theorem dX9_come_26 : decode cX9_come 26 = .ok (.getfield 65, 3) := by decide +kernel
theorem dX9_come_29 : decode cX9_come 29 = .ok (.aload_n 0, 1) := by decide +kernel
theorem dX9_come_30 : decode cX9_come 30 = .ok (.getfield 160, 3) := by decide +kernel
theorem dX9_come_33 : decode cX9_come 33 = .ok (.iload_n 1, 1) := by decide +kernel
theorem dX9_come_34 : decode cX9_come 34 = .ok (.iastore, 1) := by decide +kernel
theorem dX9_come_35 : decode cX9_come 35 = .ok (.aload_n 0, 1) := by decide +kernel
theorem dX9_come_36 : decode cX9_come 36 = .ok (.getfield 68, 3) := by decide +kernel
theorem dX9_come_39 : decode cX9_come 39 = .ok (.aload_n 0, 1) := by decide +kernel
theorem dX9_come_40 : decode cX9_come 40 = .ok (.getfield 160, 3) := by decide +kernel
theorem dX9_come_43 : decode cX9_come 43 = .ok (.iload_n 2, 1) := by decide +kernel
theorem dX9_come_44 : decode cX9_come 44 = .ok (.iastore, 1) := by decide +kernel
theorem dX9_come_45 : decode cX9_come 45 = .ok (.aload_n 0, 1) := by decide +kernel
theorem dX9_come_46 : decode cX9_come 46 = .ok (.getfield 71, 3) := by decide +kernel
theorem dX9_come_49 : decode cX9_come 49 = .ok (.aload_n 0, 1) := by decide +kernel
theorem dX9_come_50 : decode cX9_come 50 = .ok (.getfield 160, 3) := by decide +kernel
theorem dX9_come_53 : decode cX9_come 53 = .ok (.iload_n 3, 1) := by decide +kernel
theorem dX9_come_54 : decode cX9_come 54 = .ok (.iastore, 1) := by decide +kernel
theorem dX9_come_55 : decode cX9_come 55 = .ok (.aload_n 0, 1) := by decide +kernel
theorem dX9_come_56 : decode cX9_come 56 = .ok (.getfield 74, 3) := by decide +kernel
theorem dX9_come_59 : decode cX9_come 59 = .ok (.aload_n 0, 1) := by decide +kernel
theorem dX9_come_60 : decode cX9_come 60 = .ok (.getfield 160, 3) := by decide +kernel
theorem dX9_come_63 : decode cX9_come 63 = .ok (.iload 4, 2) := by decide +kernel
theorem dX9_come_65 : decode cX9_come 65 = .ok (.iastore, 1) := by decide +kernel
theorem dX9_come_66 : decode cX9_come 66 = .ok (.aload_n 0, 1) := by decide +kernel
theorem dX9_come_67 : decode cX9_come 67 = .ok (.dup, 1) := by decide +kernel
theorem dX9_come_68 : decode cX9_come 68 = .ok (.getfield 160, 3) := by decide +kernel
theorem dX9_come_71 : decode cX9_come 71 = .ok (.iconst 1, 1) := by decide +kernel
theorem dX9_come_72 : decode cX9_come 72 = .ok (.iadd, 1) := by decide +kernel
theorem dX9_come_73 : decode cX9_come 73 = .ok (.putfield 160, 3) := by decide +kernel
theorem dX9_come_76 : decode cX9_come 76 = .ok (.iconst 1, 1) := by decide +kernel
theorem dX9_come_77 : decode cX9_come 77 = .ok (.ireturn, 1) := by decide +kernel
theorem dX9_leave_0 : decode cX9_leave 0 = .ok (.aload_n 0, 1) := by decide +kernel
theorem dX9_leave_1 : decode cX9_leave 1 = .ok (.dup, 1) := by decide +kernel
theorem dX9_leave_2 : decode cX9_leave 2 = .ok (.getfield 160, 3) := by decide +kernel
theorem dX9_leave_5 : decode cX9_leave 5 = .ok (.iconst 1, 1) := by decide +kernel
theorem dX9_leave_6 : decode cX9_leave 6 = .ok (.isub, 1) := by decide +kernel
theorem dX9_leave_7 : decode cX9_leave 7 = .ok (.putfield 160, 3) := by decide +kernel
theorem dX9_leave_10 : decode cX9_leave 10 = .ok (.aload_n 0, 1) := by decide +kernel
theorem dX9_leave_11 : decode cX9_leave 11 = .ok (.getfield 65, 3) := by decide +kernel
theorem dX9_leave_14 : decode cX9_leave 14 = .ok (.iload_n 1, 1) := by decide +kernel
theorem dX9_leave_15 : decode cX9_leave 15 = .ok (.aload_n 0, 1) := by decide +kernel
theorem dX9_leave_16 : decode cX9_leave 16 = .ok (.getfield 65, 3) := by decide +kernel
theorem dX9_leave_19 : decode cX9_leave 19 = .ok (.aload_n 0, 1) := by decide +kernel
theorem dX9_leave_20 : decode cX9_leave 20 = .ok (.getfield 160, 3) := by decide +kernel
theorem dX9_leave_23 : decode cX9_leave 23 = .ok (.iaload, 1) := by decide +kernel
theorem dX9_leave_24 : decode cX9_leave 24 = .ok (.iastore, 1) := by decide +kernel
theorem dX9_leave_25 : decode cX9_leave 25 = .ok (.aload_n 0, 1) := by decide +kernel
theorem dX9_leave_26 : decode cX9_leave 26 = .ok (.getfield 68, 3) := by decide +kernel
theorem dX9_leave_29 : decode cX9_leave 29 = .ok (.iload_n 1, 1) := by decide +kernel
theorem dX9_leave_30 : decode cX9_leave 30 = .ok (.aload_n 0, 1) := by decide +kernel
theorem dX9_leave_31 : decode cX9_leave 31 = .ok (.getfield 68, 3) := by decide +kernel
theorem dX9_leave_34 : decode cX9_leave 34 = .ok (.aload_n 0, 1) := by decide +kernel
theorem dX9_leave_35 : decode cX9_leave 35 = .ok (.getfield 160, 3) := by decide +kernel
theorem dX9_leave_38 : decode cX9_leave 38 = .ok (.iaload, 1) := by decide +kernel
theorem dX9_leave_39 : decode cX9_leave 39 = .ok (.iastore, 1) := by decide +kernel
theorem dX9_leave_40 : decode cX9_leave 40 = .ok (.aload_n 0, 1) := by decide +kernel
theorem dX9_leave_41 : decode cX9_leave 41 = .ok (.getfield 71, 3) := by decide +kernel
theorem dX9_leave_44 : decode cX9_leave 44 = .ok (.iload_n 1, 1) := by decide +kernel
theorem dX9_leave_45 : decode cX9_leave 45 = .ok (.aload_n 0, 1) := by decide +kernel
theorem dX9_leave_46 : decode cX9_leave 46 = .ok (.getfield 71, 3) := by decide +kernel
theorem dX9_leave_49 : decode cX9_leave 49 = .ok (.aload_n 0, 1) := by decide +kernel
theorem dX9_leave_50 : decode cX9_leave 50 = .ok (.getfield 160, 3) := by decide +kernel
theorem dX9_leave_53 : decode cX9_leave 53 = .ok (.iaload, 1) := by decide +kernel
theorem dX9_leave_54 : decode cX9_leave 54 = .ok (.iastore, 1) := by decide +kernel
theorem dX9_leave_55 : decode cX9_leave 55 = .ok (.aload_n 0, 1) := by decide +kernel
theorem dX9_leave_56 : decode cX9_leave 56 = .ok (.getfield 74, 3) := by decide +kernel
theorem dX9_leave_59 : decode cX9_leave 59 = .ok (.iload_n 1, 1) := by decide +kernel
theorem dX9_leave_60 : decode cX9_leave 60 = .ok (.aload_n 0, 1) := by decide +kernel
theorem dX9_leave_61 : decode cX9_leave 61 = .ok (.getfield 74, 3) := by decide +kernel
theorem dX9_leave_64 : decode cX9_leave 64 = .ok (.aload_n 0, 1) := by decide +kernel
theorem dX9_leave_65 : decode cX9_leave 65 = .ok (.getfield 160, 3) := by decide +kernel
theorem dX9_leave_68 : decode cX9_leave 68 = .ok (.iaload, 1) := by decide +kernel
theorem dX9_leave_69 : decode cX9_leave 69 = .ok (.iastore, 1) := by decide +kernel
theorem dX9_leave_70 : decode cX9_leave 70 = .ok (.return_, 1) := by decide +kernel
theorem dX9_take_0 : decode cX9_take 0 = .ok (.aload_n 0, 1) := by decide +kernel
theorem dX9_take_1 : decode cX9_take 1 = .ok (.iload_n 1, 1) := by decide +kernel
theorem dX9_take_2 : decode cX9_take 2 = .ok (.iload_n 2, 1) := by decide +kernel
theorem dX9_take_3 : decode cX9_take 3 = .ok (.iload_n 3, 1) := by decide +kernel
theorem dX9_take_4 : decode cX9_take 4 = .ok (.iload 4, 2) := by decide +kernel
theorem dX9_take_6 : decode cX9_take 6 = .ok (.invokevirtual 163, 3) := by decide +kernel
theorem dX9_take_9 : decode cX9_take 9 = .ok (.istore 5, 2) := by decide +kernel
theorem dX9_take_11 : decode cX9_take 11 = .ok (.iload 5, 2) := by decide +kernel
theorem dX9_take_13 : decode cX9_take 13 = .ok (.ifCond .lt 9, 3) := by decide +kernel
theorem dX9_take_16 : decode cX9_take 16 = .ok (.aload_n 0, 1) := by decide +kernel
theorem dX9_take_17 : decode cX9_take 17 = .ok (.iload 5, 2) := by decide +kernel
theorem dX9_take_19 : decode cX9_take 19 = .ok (.invokevirtual 167, 3) := by decide +kernel
theorem dX9_take_22 : decode cX9_take 22 = .ok (.return_, 1) := by decide +kernel
theorem dX9_empty_0 : decode cX9_empty 0 = .ok (.iconst 0, 1) := by decide +kernel
theorem dX9_empty_1 : decode cX9_empty 1 = .ok (.istore_n 2, 1) := by decide +kernel
theorem dX9_empty_2 : decode cX9_empty 2 = .ok (.iload_n 2, 1) := by decide +kernel
theorem dX9_empty_3 : decode cX9_empty 3 = .ok (.aload_n 0, 1) := by decide +kernel
theorem dX9_empty_4 : decode cX9_empty 4 = .ok (.getfield 160, 3) := by decide +kernel
theorem dX9_empty_7 : decode cX9_empty 7 = .ok (.if_icmp .ge 27, 3) := by decide +kernel
theorem dX9_empty_10 : decode cX9_empty 10 = .ok (.aload_n 0, 1) := by decide +kernel
theorem dX9_empty_11 : decode cX9_empty 11 = .ok (.getfield 65, 3) := by decide +kernel
theorem dX9_empty_14 : decode cX9_empty 14 = .ok (.iload_n 2, 1) := by decide +kernel
theorem dX9_empty_15 : decode cX9_empty 15 = .ok (.iaload, 1) := by decide +kernel
theorem dX9_empty_16 : decode cX9_empty 16 = .ok (.iload_n 1, 1) := by decide +kernel
theorem dX9_empty_17 : decode cX9_empty 17 = .ok (.if_icmp .ne 11, 3) := by decide +kernel
theorem dX9_empty_20 : decode cX9_empty 20 = .ok (.aload_n 0, 1) := by decide +kernel
theorem dX9_empty_21 : decode cX9_empty 21 = .ok (.iload_n 2, 1) := by decide +kernel
theorem dX9_empty_22 : decode cX9_empty 22 = .ok (.invokevirtual 167, 3) := by decide +kernel
theorem dX9_empty_25 : decode cX9_empty 25 = .ok (.goto (-23), 3) := by decide +kernel
theorem dX9_empty_28 : decode cX9_empty 28 = .ok (.iinc 2 1, 3) := by decide +kernel
theorem dX9_empty_31 : decode cX9_empty 31 = .ok (.goto (-29), 3) := by decide +kernel
theorem dX9_empty_34 : decode cX9_empty 34 = .ok (.return_, 1) := by decide +kernel
theorem dX9_dropOne_0 : decode cX9_dropOne 0 = .ok (.aload_n 0, 1) := by decide +kernel
theorem dX9_dropOne_1 : decode cX9_dropOne 1 = .ok (.iload_n 1, 1) := by decide +kernel
theorem dX9_dropOne_2 : decode cX9_dropOne 2 = .ok (.invokevirtual 171, 3) := by decide +kernel
theorem dX9_dropOne_5 : decode cX9_dropOne 5 = .ok (.aload_n 0, 1) := by decide +kernel
theorem dX9_dropOne_6 : decode cX9_dropOne 6 = .ok (.getfield 77, 3) := by decide +kernel
theorem dX9_dropOne_9 : decode cX9_dropOne 9 = .ok (.iload_n 1, 1) := by decide +kernel
theorem dX9_dropOne_10 : decode cX9_dropOne 10 = .ok (.iload_n 1, 1) := by decide +kernel
theorem dX9_dropOne_11 : decode cX9_dropOne 11 = .ok (.ifCond .ne 7, 3) := by decide +kernel
theorem dX9_dropOne_14 : decode cX9_dropOne 14 = .ok (.iconst 1, 1) := by decide +kernel
theorem dX9_dropOne_15 : decode cX9_dropOne 15 = .ok (.goto 4, 3) := by decide +kernel
theorem dX9_dropOne_18 : decode cX9_dropOne 18 = .ok (.iconst 0, 1) := by decide +kernel
theorem dX9_dropOne_19 : decode cX9_dropOne 19 = .ok (.bastore, 1) := by decide +kernel
theorem dX9_dropOne_20 : decode cX9_dropOne 20 = .ok (.return_, 1) := by decide +kernel
theorem dX9_isBefore_0 : decode cX9_isBefore 0 = .ok (.aload_n 0, 1) := by decide +kernel
theorem dX9_isBefore_1 : decode cX9_isBefore 1 = .ok (.getfield 68, 3) := by decide +kernel
theorem dX9_isBefore_4 : decode cX9_isBefore 4 = .ok (.iload_n 1, 1) := by decide +kernel
theorem dX9_isBefore_5 : decode cX9_isBefore 5 = .ok (.iaload, 1) := by decide +kernel
theorem dX9_isBefore_6 : decode cX9_isBefore 6 = .ok (.aload_n 0, 1) := by decide +kernel
theorem dX9_isBefore_7 : decode cX9_isBefore 7 = .ok (.getfield 68, 3) := by decide +kernel
theorem dX9_isBefore_10 : decode cX9_isBefore 10 = .ok (.iload_n 2, 1) := by decide +kernel
theorem dX9_isBefore_11 : decode cX9_isBefore 11 = .ok (.iaload, 1) := by decide +kernel
theorem dX9_isBefore_12 : decode cX9_isBefore 12 = .ok (.if_icmp .eq 24, 3) := by decide +kernel
theorem dX9_isBefore_15 : decode cX9_isBefore 15 = .ok (.aload_n 0, 1) := by decide +kernel
theorem dX9_isBefore_16 : decode cX9_isBefore 16 = .ok (.getfield 68, 3) := by decide +kernel
theorem dX9_isBefore_19 : decode cX9_isBefore 19 = .ok (.iload_n 1, 1) := by decide +kernel
theorem dX9_isBefore_20 : decode cX9_isBefore 20 = .ok (.iaload, 1) := by decide +kernel
theorem dX9_isBefore_21 : decode cX9_isBefore 21 = .ok (.aload_n 0, 1) := by decide +kernel
theorem dX9_isBefore_22 : decode cX9_isBefore 22 = .ok (.getfield 68, 3) := by decide +kernel
theorem dX9_isBefore_25 : decode cX9_isBefore 25 = .ok (.iload_n 2, 1) := by decide +kernel
theorem dX9_isBefore_26 : decode cX9_isBefore 26 = .ok (.iaload, 1) := by decide +kernel
theorem dX9_isBefore_27 : decode cX9_isBefore 27 = .ok (.if_icmp .ge 7, 3) := by decide +kernel
theorem dX9_isBefore_30 : decode cX9_isBefore 30 = .ok (.iconst 1, 1) := by decide +kernel
theorem dX9_isBefore_31 : decode cX9_isBefore 31 = .ok (.goto 4, 3) := by decide +kernel
theorem dX9_isBefore_34 : decode cX9_isBefore 34 = .ok (.iconst 0, 1) := by decide +kernel
theorem dX9_isBefore_35 : decode cX9_isBefore 35 = .ok (.ireturn, 1) := by decide +kernel
theorem dX9_isBefore_36 : decode cX9_isBefore 36 = .ok (.aload_n 0, 1) := by decide +kernel
theorem dX9_isBefore_37 : decode cX9_isBefore 37 = .ok (.getfield 71, 3) := by decide +kernel
theorem dX9_isBefore_40 : decode cX9_isBefore 40 = .ok (.iload_n 1, 1) := by decide +kernel
theorem dX9_isBefore_41 : decode cX9_isBefore 41 = .ok (.iaload, 1) := by decide +kernel
theorem dX9_isBefore_42 : decode cX9_isBefore 42 = .ok (.aload_n 0, 1) := by decide +kernel
theorem dX9_isBefore_43 : decode cX9_isBefore 43 = .ok (.getfield 71, 3) := by decide +kernel
theorem dX9_isBefore_46 : decode cX9_isBefore 46 = .ok (.iload_n 2, 1) := by decide +kernel
theorem dX9_isBefore_47 : decode cX9_isBefore 47 = .ok (.iaload, 1) := by decide +kernel
theorem dX9_isBefore_48 : decode cX9_isBefore 48 = .ok (.if_icmp .eq 26, 3) := by decide +kernel
theorem dX9_isBefore_51 : decode cX9_isBefore 51 = .ok (.aload_n 0, 1) := by decide +kernel
theorem dX9_isBefore_52 : decode cX9_isBefore 52 = .ok (.getfield 71, 3) := by decide +kernel
theorem dX9_isBefore_55 : decode cX9_isBefore 55 = .ok (.iload_n 1, 1) := by decide +kernel
theorem dX9_isBefore_56 : decode cX9_isBefore 56 = .ok (.iaload, 1) := by decide +kernel
theorem dX9_isBefore_57 : decode cX9_isBefore 57 = .ok (.aload_n 0, 1) := by decide +kernel
theorem dX9_isBefore_58 : decode cX9_isBefore 58 = .ok (.getfield 71, 3) := by decide +kernel
theorem dX9_isBefore_61 : decode cX9_isBefore 61 = .ok (.iload_n 2, 1) := by decide +kernel
theorem dX9_isBefore_62 : decode cX9_isBefore 62 = .ok (.iaload, 1) := by decide +kernel
theorem dX9_isBefore_63 : decode cX9_isBefore 63 = .ok (.if_icmp .ge 7, 3) := by decide +kernel
theorem dX9_isBefore_66 : decode cX9_isBefore 66 = .ok (.iconst 1, 1) := by decide +kernel
theorem dX9_isBefore_67 : decode cX9_isBefore 67 = .ok (.goto 27, 3) := by decide +kernel
theorem dX9_isBefore_70 : decode cX9_isBefore 70 = .ok (.iconst 0, 1) := by decide +kernel
theorem dX9_isBefore_71 : decode cX9_isBefore 71 = .ok (.goto 23, 3) := by decide +kernel
theorem dX9_isBefore_74 : decode cX9_isBefore 74 = .ok (.aload_n 0, 1) := by decide +kernel
theorem dX9_isBefore_75 : decode cX9_isBefore 75 = .ok (.getfield 74, 3) := by decide +kernel
theorem dX9_isBefore_78 : decode cX9_isBefore 78 = .ok (.iload_n 1, 1) := by decide +kernel
theorem dX9_isBefore_79 : decode cX9_isBefore 79 = .ok (.iaload, 1) := by decide +kernel
theorem dX9_isBefore_80 : decode cX9_isBefore 80 = .ok (.aload_n 0, 1) := by decide +kernel
theorem dX9_isBefore_81 : decode cX9_isBefore 81 = .ok (.getfield 74, 3) := by decide +kernel
theorem dX9_isBefore_84 : decode cX9_isBefore 84 = .ok (.iload_n 2, 1) := by decide +kernel
theorem dX9_isBefore_85 : decode cX9_isBefore 85 = .ok (.iaload, 1) := by decide +kernel
theorem dX9_isBefore_86 : decode cX9_isBefore 86 = .ok (.if_icmp .ge 7, 3) := by decide +kernel
theorem dX9_isBefore_89 : decode cX9_isBefore 89 = .ok (.iconst 1, 1) := by decide +kernel
theorem dX9_isBefore_90 : decode cX9_isBefore 90 = .ok (.goto 4, 3) := by decide +kernel
theorem dX9_isBefore_93 : decode cX9_isBefore 93 = .ok (.iconst 0, 1) := by decide +kernel
theorem dX9_isBefore_94 : decode cX9_isBefore 94 = .ok (.ireturn, 1) := by decide +kernel
theorem dX9_lineUp_0 : decode cX9_lineUp 0 = .ok (.aload_n 0, 1) := by decide +kernel
theorem dX9_lineUp_1 : decode cX9_lineUp 1 = .ok (.iconst 0, 1) := by decide +kernel
theorem dX9_lineUp_2 : decode cX9_lineUp 2 = .ok (.putfield 174, 3) := by decide +kernel
theorem dX9_lineUp_5 : decode cX9_lineUp 5 = .ok (.iconst 0, 1) := by decide +kernel
theorem dX9_lineUp_6 : decode cX9_lineUp 6 = .ok (.istore_n 2, 1) := by decide +kernel
theorem dX9_lineUp_7 : decode cX9_lineUp 7 = .ok (.iload_n 2, 1) := by decide +kernel
theorem dX9_lineUp_8 : decode cX9_lineUp 8 = .ok (.aload_n 0, 1) := by decide +kernel
theorem dX9_lineUp_9 : decode cX9_lineUp 9 = .ok (.getfield 160, 3) := by decide +kernel
theorem dX9_lineUp_12 : decode cX9_lineUp 12 = .ok (.if_icmp .ge 33, 3) := by decide +kernel
theorem dX9_lineUp_15 : decode cX9_lineUp 15 = .ok (.aload_n 0, 1) := by decide +kernel
theorem dX9_lineUp_16 : decode cX9_lineUp 16 = .ok (.dup, 1) := by decide +kernel
theorem dX9_lineUp_17 : decode cX9_lineUp 17 = .ok (.getfield 174, 3) := by decide +kernel
theorem dX9_lineUp_20 : decode cX9_lineUp 20 = .ok (.aload_n 0, 1) := by decide +kernel
theorem dX9_lineUp_21 : decode cX9_lineUp 21 = .ok (.getfield 65, 3) := by decide +kernel
theorem dX9_lineUp_24 : decode cX9_lineUp 24 = .ok (.iload_n 2, 1) := by decide +kernel
theorem dX9_lineUp_25 : decode cX9_lineUp 25 = .ok (.iaload, 1) := by decide +kernel
theorem dX9_lineUp_26 : decode cX9_lineUp 26 = .ok (.iload_n 1, 1) := by decide +kernel
theorem dX9_lineUp_27 : decode cX9_lineUp 27 = .ok (.if_icmp .ne 7, 3) := by decide +kernel
theorem dX9_lineUp_30 : decode cX9_lineUp 30 = .ok (.iconst 1, 1) := by decide +kernel
theorem dX9_lineUp_31 : decode cX9_lineUp 31 = .ok (.goto 4, 3) := by decide +kernel
theorem dX9_lineUp_34 : decode cX9_lineUp 34 = .ok (.iconst 0, 1) := by decide +kernel
theorem dX9_lineUp_35 : decode cX9_lineUp 35 = .ok (.iadd, 1) := by decide +kernel
theorem dX9_lineUp_36 : decode cX9_lineUp 36 = .ok (.putfield 174, 3) := by decide +kernel
theorem dX9_lineUp_39 : decode cX9_lineUp 39 = .ok (.iinc 2 1, 3) := by decide +kernel
theorem dX9_lineUp_42 : decode cX9_lineUp 42 = .ok (.goto (-35), 3) := by decide +kernel
theorem dX9_lineUp_45 : decode cX9_lineUp 45 = .ok (.iconst 0, 1) := by decide +kernel
theorem dX9_lineUp_46 : decode cX9_lineUp 46 = .ok (.istore_n 2, 1) := by decide +kernel
theorem dX9_lineUp_47 : decode cX9_lineUp 47 = .ok (.iload_n 2, 1) := by decide +kernel
theorem dX9_lineUp_48 : decode cX9_lineUp 48 = .ok (.aload_n 0, 1) := by decide +kernel
theorem dX9_lineUp_49 : decode cX9_lineUp 49 = .ok (.getfield 160, 3) := by decide +kernel
theorem dX9_lineUp_52 : decode cX9_lineUp 52 = .ok (.if_icmp .ge 75, 3) := by decide +kernel
theorem dX9_lineUp_55 : decode cX9_lineUp 55 = .ok (.aload_n 0, 1) := by decide +kernel
theorem dX9_lineUp_56 : decode cX9_lineUp 56 = .ok (.getfield 65, 3) := by decide +kernel
theorem dX9_lineUp_59 : decode cX9_lineUp 59 = .ok (.iload_n 2, 1) := by decide +kernel
theorem dX9_lineUp_60 : decode cX9_lineUp 60 = .ok (.iaload, 1) := by decide +kernel
theorem dX9_lineUp_61 : decode cX9_lineUp 61 = .ok (.iload_n 1, 1) := by decide +kernel
theorem dX9_lineUp_62 : decode cX9_lineUp 62 = .ok (.if_icmp .ne 59, 3) := by decide +kernel
theorem dX9_lineUp_65 : decode cX9_lineUp 65 = .ok (.iconst 0, 1) := by decide +kernel
theorem dX9_lineUp_66 : decode cX9_lineUp 66 = .ok (.istore_n 3, 1) := by decide +kernel
theorem dX9_lineUp_67 : decode cX9_lineUp 67 = .ok (.iconst 0, 1) := by decide +kernel
theorem dX9_lineUp_68 : decode cX9_lineUp 68 = .ok (.istore 4, 2) := by decide +kernel
theorem dX9_lineUp_70 : decode cX9_lineUp 70 = .ok (.iload 4, 2) := by decide +kernel
theorem dX9_lineUp_72 : decode cX9_lineUp 72 = .ok (.aload_n 0, 1) := by decide +kernel
theorem dX9_lineUp_73 : decode cX9_lineUp 73 = .ok (.getfield 160, 3) := by decide +kernel
theorem dX9_lineUp_76 : decode cX9_lineUp 76 = .ok (.if_icmp .ge 38, 3) := by decide +kernel
theorem dX9_lineUp_79 : decode cX9_lineUp 79 = .ok (.iload_n 3, 1) := by decide +kernel
theorem dX9_lineUp_80 : decode cX9_lineUp 80 = .ok (.aload_n 0, 1) := by decide +kernel
theorem dX9_lineUp_81 : decode cX9_lineUp 81 = .ok (.getfield 65, 3) := by decide +kernel
theorem dX9_lineUp_84 : decode cX9_lineUp 84 = .ok (.iload 4, 2) := by decide +kernel
theorem dX9_lineUp_86 : decode cX9_lineUp 86 = .ok (.iaload, 1) := by decide +kernel
theorem dX9_lineUp_87 : decode cX9_lineUp 87 = .ok (.iload_n 1, 1) := by decide +kernel
theorem dX9_lineUp_88 : decode cX9_lineUp 88 = .ok (.if_icmp .ne 17, 3) := by decide +kernel
theorem dX9_lineUp_91 : decode cX9_lineUp 91 = .ok (.aload_n 0, 1) := by decide +kernel
theorem dX9_lineUp_92 : decode cX9_lineUp 92 = .ok (.iload 4, 2) := by decide +kernel
theorem dX9_lineUp_94 : decode cX9_lineUp 94 = .ok (.iload_n 2, 1) := by decide +kernel
theorem dX9_lineUp_95 : decode cX9_lineUp 95 = .ok (.invokevirtual 177, 3) := by decide +kernel
theorem dX9_lineUp_98 : decode cX9_lineUp 98 = .ok (.ifCond .eq 7, 3) := by decide +kernel
theorem dX9_lineUp_101 : decode cX9_lineUp 101 = .ok (.iconst 1, 1) := by decide +kernel
theorem dX9_lineUp_102 : decode cX9_lineUp 102 = .ok (.goto 4, 3) := by decide +kernel
theorem dX9_lineUp_105 : decode cX9_lineUp 105 = .ok (.iconst 0, 1) := by decide +kernel
theorem dX9_lineUp_106 : decode cX9_lineUp 106 = .ok (.iadd, 1) := by decide +kernel
theorem dX9_lineUp_107 : decode cX9_lineUp 107 = .ok (.istore_n 3, 1) := by decide +kernel
theorem dX9_lineUp_108 : decode cX9_lineUp 108 = .ok (.iinc 4 1, 3) := by decide +kernel
theorem dX9_lineUp_111 : decode cX9_lineUp 111 = .ok (.goto (-41), 3) := by decide +kernel
theorem dX9_lineUp_114 : decode cX9_lineUp 114 = .ok (.aload_n 0, 1) := by decide +kernel
theorem dX9_lineUp_115 : decode cX9_lineUp 115 = .ok (.getfield 123, 3) := by decide +kernel
theorem dX9_lineUp_118 : decode cX9_lineUp 118 = .ok (.iload_n 3, 1) := by decide +kernel
theorem dX9_lineUp_119 : decode cX9_lineUp 119 = .ok (.iload_n 2, 1) := by decide +kernel
theorem dX9_lineUp_120 : decode cX9_lineUp 120 = .ok (.iastore, 1) := by decide +kernel
theorem dX9_lineUp_121 : decode cX9_lineUp 121 = .ok (.iinc 2 1, 3) := by decide +kernel
theorem dX9_lineUp_124 : decode cX9_lineUp 124 = .ok (.goto (-77), 3) := by decide +kernel
theorem dX9_lineUp_127 : decode cX9_lineUp 127 = .ok (.return_, 1) := by decide +kernel
theorem dX9_valueIn_0 : decode cX9_valueIn 0 = .ok (.iload_n 3, 1) := by decide +kernel
theorem dX9_valueIn_1 : decode cX9_valueIn 1 = .ok (.invokestatic 150, 3) := by decide +kernel
theorem dX9_valueIn_4 : decode cX9_valueIn 4 = .ok (.ifCond .eq 15, 3) := by decide +kernel
theorem dX9_valueIn_7 : decode cX9_valueIn 7 = .ok (.aload_n 1, 1) := by decide +kernel
theorem dX9_valueIn_8 : decode cX9_valueIn 8 = .ok (.iconst 4, 1) := by decide +kernel
theorem dX9_valueIn_9 : decode cX9_valueIn 9 = .ok (.iload_n 2, 1) := by decide +kernel
theorem dX9_valueIn_10 : decode cX9_valueIn 10 = .ok (.imul, 1) := by decide +kernel
theorem dX9_valueIn_11 : decode cX9_valueIn 11 = .ok (.iconst 1, 1) := by decide +kernel
theorem dX9_valueIn_12 : decode cX9_valueIn 12 = .ok (.isub, 1) := by decide +kernel
theorem dX9_valueIn_13 : decode cX9_valueIn 13 = .ok (.iload_n 3, 1) := by decide +kernel
theorem dX9_valueIn_14 : decode cX9_valueIn 14 = .ok (.isub, 1) := by decide +kernel
theorem dX9_valueIn_15 : decode cX9_valueIn 15 = .ok (.iaload, 1) := by decide +kernel
theorem dX9_valueIn_16 : decode cX9_valueIn 16 = .ok (.goto 4, 3) := by decide +kernel
theorem dX9_valueIn_19 : decode cX9_valueIn 19 = .ok (.iload_n 3, 1) := by decide +kernel
theorem dX9_valueIn_20 : decode cX9_valueIn 20 = .ok (.ireturn, 1) := by decide +kernel
theorem dX9_fits_0 : decode cX9_fits 0 = .ok (.aload_n 0, 1) := by decide +kernel
theorem dX9_fits_1 : decode cX9_fits 1 = .ok (.aload_n 0, 1) := by decide +kernel
theorem dX9_fits_2 : decode cX9_fits 2 = .ok (.getfield 120, 3) := by decide +kernel
theorem dX9_fits_5 : decode cX9_fits 5 = .ok (.aload_n 0, 1) := by decide +kernel
theorem dX9_fits_6 : decode cX9_fits 6 = .ok (.getfield 180, 3) := by decide +kernel
theorem dX9_fits_9 : decode cX9_fits 9 = .ok (.iload_n 1, 1) := by decide +kernel
theorem dX9_fits_10 : decode cX9_fits 10 = .ok (.invokevirtual 183, 3) := by decide +kernel
theorem dX9_fits_13 : decode cX9_fits 13 = .ok (.istore_n 3, 1) := by decide +kernel
theorem dX9_fits_14 : decode cX9_fits 14 = .ok (.iload_n 3, 1) := by decide +kernel
theorem dX9_fits_15 : decode cX9_fits 15 = .ok (.iconst (-1), 1) := by decide +kernel
theorem dX9_fits_16 : decode cX9_fits 16 = .ok (.if_icmp .ne 28, 3) := by decide +kernel
theorem dX9_fits_19 : decode cX9_fits 19 = .ok (.iload_n 1, 1) := by decide +kernel
theorem dX9_fits_20 : decode cX9_fits 20 = .ok (.invokestatic 150, 3) := by decide +kernel
theorem dX9_fits_23 : decode cX9_fits 23 = .ok (.ifCond .eq 21, 3) := by decide +kernel
theorem dX9_fits_26 : decode cX9_fits 26 = .ok (.aload_n 0, 1) := by decide +kernel
theorem dX9_fits_27 : decode cX9_fits 27 = .ok (.getfield 120, 3) := by decide +kernel
theorem dX9_fits_30 : decode cX9_fits 30 = .ok (.iconst 4, 1) := by decide +kernel
theorem dX9_fits_31 : decode cX9_fits 31 = .ok (.aload_n 0, 1) := by decide +kernel
theorem dX9_fits_32 : decode cX9_fits 32 = .ok (.getfield 180, 3) := by decide +kernel
theorem dX9_fits_35 : decode cX9_fits 35 = .ok (.imul, 1) := by decide +kernel
theorem dX9_fits_36 : decode cX9_fits 36 = .ok (.iconst 1, 1) := by decide +kernel
theorem dX9_fits_37 : decode cX9_fits 37 = .ok (.isub, 1) := by decide +kernel
theorem dX9_fits_38 : decode cX9_fits 38 = .ok (.iload_n 1, 1) := by decide +kernel
theorem dX9_fits_39 : decode cX9_fits 39 = .ok (.isub, 1) := by decide +kernel
theorem dX9_fits_40 : decode cX9_fits 40 = .ok (.iload_n 2, 1) := by decide +kernel
theorem dX9_fits_41 : decode cX9_fits 41 = .ok (.iastore, 1) := by decide +kernel
theorem dX9_fits_42 : decode cX9_fits 42 = .ok (.iconst 1, 1) := by decide +kernel
theorem dX9_fits_43 : decode cX9_fits 43 = .ok (.ireturn, 1) := by decide +kernel
theorem dX9_fits_44 : decode cX9_fits 44 = .ok (.iload_n 3, 1) := by decide +kernel
theorem dX9_fits_45 : decode cX9_fits 45 = .ok (.iload_n 2, 1) := by decide +kernel
theorem dX9_fits_46 : decode cX9_fits 46 = .ok (.if_icmp .ne 7, 3) := by decide +kernel
theorem dX9_fits_49 : decode cX9_fits 49 = .ok (.iconst 1, 1) := by decide +kernel
theorem dX9_fits_50 : decode cX9_fits 50 = .ok (.goto 4, 3) := by decide +kernel
theorem dX9_fits_53 : decode cX9_fits 53 = .ok (.iconst 0, 1) := by decide +kernel
theorem dX9_fits_54 : decode cX9_fits 54 = .ok (.ireturn, 1) := by decide +kernel
theorem dX9_solve_0 : decode cX9_solve 0 = .ok (.aload_n 0, 1) := by decide +kernel
theorem dX9_solve_1 : decode cX9_solve 1 = .ok (.aload_n 0, 1) := by decide +kernel
theorem dX9_solve_2 : decode cX9_solve 2 = .ok (.getfield 13, 3) := by decide +kernel
theorem dX9_solve_5 : decode cX9_solve 5 = .ok (.iload_n 1, 1) := by decide +kernel
theorem dX9_solve_6 : decode cX9_solve 6 = .ok (.iaload, 1) := by decide +kernel
theorem dX9_solve_7 : decode cX9_solve 7 = .ok (.invokevirtual 187, 3) := by decide +kernel
theorem dX9_solve_10 : decode cX9_solve 10 = .ok (.iconst 0, 1) := by decide +kernel
theorem dX9_solve_11 : decode cX9_solve 11 = .ok (.istore_n 2, 1) := by decide +kernel
theorem dX9_solve_12 : decode cX9_solve 12 = .ok (.aload_n 0, 1) := by decide +kernel
theorem dX9_solve_13 : decode cX9_solve 13 = .ok (.iconst 1, 1) := by decide +kernel
theorem dX9_solve_14 : decode cX9_solve 14 = .ok (.putfield 190, 3) := by decide +kernel
theorem dX9_solve_17 : decode cX9_solve 17 = .ok (.iconst 0, 1) := by decide +kernel
theorem dX9_solve_18 : decode cX9_solve 18 = .ok (.istore_n 3, 1) := by decide +kernel
theorem dX9_solve_19 : decode cX9_solve 19 = .ok (.iload_n 3, 1) := by decide +kernel
theorem dX9_solve_20 : decode cX9_solve 20 = .ok (.iconst 4, 1) := by decide +kernel
theorem dX9_solve_21 : decode cX9_solve 21 = .ok (.if_icmp .ge 16, 3) := by decide +kernel
theorem dX9_solve_24 : decode cX9_solve 24 = .ok (.aload_n 0, 1) := by decide +kernel
theorem dX9_solve_25 : decode cX9_solve 25 = .ok (.getfield 117, 3) := by decide +kernel
theorem dX9_solve_28 : decode cX9_solve 28 = .ok (.iload_n 3, 1) := by decide +kernel
theorem dX9_solve_29 : decode cX9_solve 29 = .ok (.iconst (-1), 1) := by decide +kernel
theorem dX9_solve_30 : decode cX9_solve 30 = .ok (.iastore, 1) := by decide +kernel
theorem dX9_solve_31 : decode cX9_solve 31 = .ok (.iinc 3 1, 3) := by decide +kernel
theorem dX9_solve_34 : decode cX9_solve 34 = .ok (.goto (-15), 3) := by decide +kernel
theorem dX9_solve_37 : decode cX9_solve 37 = .ok (.iconst 4, 1) := by decide +kernel
theorem dX9_solve_38 : decode cX9_solve 38 = .ok (.iload_n 1, 1) := by decide +kernel
theorem dX9_solve_39 : decode cX9_solve 39 = .ok (.imul, 1) := by decide +kernel
theorem dX9_solve_40 : decode cX9_solve 40 = .ok (.istore_n 3, 1) := by decide +kernel
theorem dX9_solve_41 : decode cX9_solve 41 = .ok (.iload_n 3, 1) := by decide +kernel
theorem dX9_solve_42 : decode cX9_solve 42 = .ok (.iconst 4, 1) := by decide +kernel
theorem dX9_solve_43 : decode cX9_solve 43 = .ok (.iload_n 1, 1) := by decide +kernel
theorem dX9_solve_44 : decode cX9_solve 44 = .ok (.imul, 1) := by decide +kernel
theorem dX9_solve_45 : decode cX9_solve 45 = .ok (.aload_n 0, 1) := by decide +kernel
theorem dX9_solve_46 : decode cX9_solve 46 = .ok (.getfield 38, 3) := by decide +kernel
theorem dX9_solve_49 : decode cX9_solve 49 = .ok (.iload_n 1, 1) := by decide +kernel
theorem dX9_solve_50 : decode cX9_solve 50 = .ok (.iaload, 1) := by decide +kernel
theorem dX9_solve_51 : decode cX9_solve 51 = .ok (.iadd, 1) := by decide +kernel
theorem dX9_solve_52 : decode cX9_solve 52 = .ok (.if_icmp .ge 244, 3) := by decide +kernel
theorem dX9_solve_55 : decode cX9_solve 55 = .ok (.aload_n 0, 1) := by decide +kernel
theorem dX9_solve_56 : decode cX9_solve 56 = .ok (.iconst 0, 1) := by decide +kernel
theorem dX9_solve_57 : decode cX9_solve 57 = .ok (.putfield 180, 3) := by decide +kernel
theorem dX9_solve_60 : decode cX9_solve 60 = .ok (.iconst 0, 1) := by decide +kernel
theorem dX9_solve_61 : decode cX9_solve 61 = .ok (.istore 4, 2) := by decide +kernel
theorem dX9_solve_63 : decode cX9_solve 63 = .ok (.iload 4, 2) := by decide +kernel
theorem dX9_solve_65 : decode cX9_solve 65 = .ok (.aload_n 0, 1) := by decide +kernel
theorem dX9_solve_66 : decode cX9_solve 66 = .ok (.getfield 190, 3) := by decide +kernel
theorem dX9_solve_69 : decode cX9_solve 69 = .ok (.if_icmp .ge 179, 3) := by decide +kernel
theorem dX9_solve_72 : decode cX9_solve 72 = .ok (.iload_n 2, 1) := by decide +kernel
theorem dX9_solve_73 : decode cX9_solve 73 = .ok (.aload_n 0, 1) := by decide +kernel
theorem dX9_solve_74 : decode cX9_solve 74 = .ok (.getfield 174, 3) := by decide +kernel
theorem dX9_solve_77 : decode cX9_solve 77 = .ok (.iadd, 1) := by decide +kernel
theorem dX9_solve_78 : decode cX9_solve 78 = .ok (.istore_n 2, 1) := by decide +kernel
theorem dX9_solve_79 : decode cX9_solve 79 = .ok (.iload_n 2, 1) := by decide +kernel
theorem dX9_solve_80 : decode cX9_solve 80 = .ok (.sipush 5000, 3) := by decide +kernel
theorem dX9_solve_83 : decode cX9_solve 83 = .ok (.if_icmp .le 5, 3) := by decide +kernel
theorem dX9_solve_86 : decode cX9_solve 86 = .ok (.iconst 5, 1) := by decide +kernel
theorem dX9_solve_87 : decode cX9_solve 87 = .ok (.ireturn, 1) := by decide +kernel
theorem dX9_solve_88 : decode cX9_solve 88 = .ok (.iconst 0, 1) := by decide +kernel
theorem dX9_solve_89 : decode cX9_solve 89 = .ok (.istore 5, 2) := by decide +kernel
theorem dX9_solve_91 : decode cX9_solve 91 = .ok (.iload 5, 2) := by decide +kernel
theorem dX9_solve_93 : decode cX9_solve 93 = .ok (.aload_n 0, 1) := by decide +kernel
theorem dX9_solve_94 : decode cX9_solve 94 = .ok (.getfield 174, 3) := by decide +kernel
theorem dX9_solve_97 : decode cX9_solve 97 = .ok (.if_icmp .ge 145, 3) := by decide +kernel
theorem dX9_solve_100 : decode cX9_solve 100 = .ok (.aload_n 0, 1) := by decide +kernel
theorem dX9_solve_101 : decode cX9_solve 101 = .ok (.getfield 123, 3) := by decide +kernel
theorem dX9_solve_104 : decode cX9_solve 104 = .ok (.iload 5, 2) := by decide +kernel
theorem dX9_solve_106 : decode cX9_solve 106 = .ok (.iaload, 1) := by decide +kernel
theorem dX9_solve_107 : decode cX9_solve 107 = .ok (.istore 6, 2) := by decide +kernel
theorem dX9_solve_109 : decode cX9_solve 109 = .ok (.iconst 0, 1) := by decide +kernel
theorem dX9_solve_110 : decode cX9_solve 110 = .ok (.istore 7, 2) := by decide +kernel
theorem dX9_solve_112 : decode cX9_solve 112 = .ok (.iload 7, 2) := by decide +kernel
theorem dX9_solve_114 : decode cX9_solve 114 = .ok (.iconst 4, 1) := by decide +kernel
theorem dX9_solve_115 : decode cX9_solve 115 = .ok (.if_icmp .ge 35, 3) := by decide +kernel
theorem dX9_solve_118 : decode cX9_solve 118 = .ok (.aload_n 0, 1) := by decide +kernel
theorem dX9_solve_119 : decode cX9_solve 119 = .ok (.getfield 120, 3) := by decide +kernel
theorem dX9_solve_122 : decode cX9_solve 122 = .ok (.iconst 4, 1) := by decide +kernel
theorem dX9_solve_123 : decode cX9_solve 123 = .ok (.aload_n 0, 1) := by decide +kernel
theorem dX9_solve_124 : decode cX9_solve 124 = .ok (.getfield 180, 3) := by decide +kernel
theorem dX9_solve_127 : decode cX9_solve 127 = .ok (.imul, 1) := by decide +kernel
theorem dX9_solve_128 : decode cX9_solve 128 = .ok (.iload 7, 2) := by decide +kernel
theorem dX9_solve_130 : decode cX9_solve 130 = .ok (.iadd, 1) := by decide +kernel
theorem dX9_solve_131 : decode cX9_solve 131 = .ok (.aload_n 0, 1) := by decide +kernel
theorem dX9_solve_132 : decode cX9_solve 132 = .ok (.getfield 117, 3) := by decide +kernel
theorem dX9_solve_135 : decode cX9_solve 135 = .ok (.iconst 4, 1) := by decide +kernel
theorem dX9_solve_136 : decode cX9_solve 136 = .ok (.iload 4, 2) := by decide +kernel
theorem dX9_solve_138 : decode cX9_solve 138 = .ok (.imul, 1) := by decide +kernel
theorem dX9_solve_139 : decode cX9_solve 139 = .ok (.iload 7, 2) := by decide +kernel
theorem dX9_solve_141 : decode cX9_solve 141 = .ok (.iadd, 1) := by decide +kernel
theorem dX9_solve_142 : decode cX9_solve 142 = .ok (.iaload, 1) := by decide +kernel
theorem dX9_solve_143 : decode cX9_solve 143 = .ok (.iastore, 1) := by decide +kernel
theorem dX9_solve_144 : decode cX9_solve 144 = .ok (.iinc 7 1, 3) := by decide +kernel
theorem dX9_solve_147 : decode cX9_solve 147 = .ok (.goto (-35), 3) := by decide +kernel
theorem dX9_solve_150 : decode cX9_solve 150 = .ok (.aload_n 0, 1) := by decide +kernel
theorem dX9_solve_151 : decode cX9_solve 151 = .ok (.aload_n 0, 1) := by decide +kernel
theorem dX9_solve_152 : decode cX9_solve 152 = .ok (.getfield 41, 3) := by decide +kernel
theorem dX9_solve_155 : decode cX9_solve 155 = .ok (.iload_n 3, 1) := by decide +kernel
theorem dX9_solve_156 : decode cX9_solve 156 = .ok (.iaload, 1) := by decide +kernel
theorem dX9_solve_157 : decode cX9_solve 157 = .ok (.aload_n 0, 1) := by decide +kernel
theorem dX9_solve_158 : decode cX9_solve 158 = .ok (.getfield 68, 3) := by decide +kernel
theorem dX9_solve_161 : decode cX9_solve 161 = .ok (.iload 6, 2) := by decide +kernel
theorem dX9_solve_163 : decode cX9_solve 163 = .ok (.iaload, 1) := by decide +kernel
theorem dX9_solve_164 : decode cX9_solve 164 = .ok (.invokevirtual 193, 3) := by decide +kernel
theorem dX9_solve_167 : decode cX9_solve 167 = .ok (.ifCond .eq 47, 3) := by decide +kernel
theorem dX9_solve_170 : decode cX9_solve 170 = .ok (.aload_n 0, 1) := by decide +kernel
theorem dX9_solve_171 : decode cX9_solve 171 = .ok (.aload_n 0, 1) := by decide +kernel
theorem dX9_solve_172 : decode cX9_solve 172 = .ok (.getfield 44, 3) := by decide +kernel
theorem dX9_solve_175 : decode cX9_solve 175 = .ok (.iload_n 3, 1) := by decide +kernel
theorem dX9_solve_176 : decode cX9_solve 176 = .ok (.iaload, 1) := by decide +kernel
theorem dX9_solve_177 : decode cX9_solve 177 = .ok (.aload_n 0, 1) := by decide +kernel
theorem dX9_solve_178 : decode cX9_solve 178 = .ok (.getfield 71, 3) := by decide +kernel
theorem dX9_solve_181 : decode cX9_solve 181 = .ok (.iload 6, 2) := by decide +kernel
theorem dX9_solve_183 : decode cX9_solve 183 = .ok (.iaload, 1) := by decide +kernel
theorem dX9_solve_184 : decode cX9_solve 184 = .ok (.invokevirtual 193, 3) := by decide +kernel
theorem dX9_solve_187 : decode cX9_solve 187 = .ok (.ifCond .eq 27, 3) := by decide +kernel
theorem dX9_solve_190 : decode cX9_solve 190 = .ok (.aload_n 0, 1) := by decide +kernel
theorem dX9_solve_191 : decode cX9_solve 191 = .ok (.aload_n 0, 1) := by decide +kernel
theorem dX9_solve_192 : decode cX9_solve 192 = .ok (.getfield 47, 3) := by decide +kernel
theorem dX9_solve_195 : decode cX9_solve 195 = .ok (.iload_n 3, 1) := by decide +kernel
theorem dX9_solve_196 : decode cX9_solve 196 = .ok (.iaload, 1) := by decide +kernel
theorem dX9_solve_197 : decode cX9_solve 197 = .ok (.aload_n 0, 1) := by decide +kernel
theorem dX9_solve_198 : decode cX9_solve 198 = .ok (.getfield 74, 3) := by decide +kernel
theorem dX9_solve_201 : decode cX9_solve 201 = .ok (.iload 6, 2) := by decide +kernel
theorem dX9_solve_203 : decode cX9_solve 203 = .ok (.iaload, 1) := by decide +kernel
theorem dX9_solve_204 : decode cX9_solve 204 = .ok (.invokevirtual 193, 3) := by decide +kernel
theorem dX9_solve_207 : decode cX9_solve 207 = .ok (.ifCond .eq 7, 3) := by decide +kernel
theorem dX9_solve_210 : decode cX9_solve 210 = .ok (.iconst 1, 1) := by decide +kernel
theorem dX9_solve_211 : decode cX9_solve 211 = .ok (.goto 4, 3) := by decide +kernel
theorem dX9_solve_214 : decode cX9_solve 214 = .ok (.iconst 0, 1) := by decide +kernel
theorem dX9_solve_215 : decode cX9_solve 215 = .ok (.istore 7, 2) := by decide +kernel
theorem dX9_solve_217 : decode cX9_solve 217 = .ok (.aload_n 0, 1) := by decide +kernel
theorem dX9_solve_218 : decode cX9_solve 218 = .ok (.dup, 1) := by decide +kernel
theorem dX9_solve_219 : decode cX9_solve 219 = .ok (.getfield 180, 3) := by decide +kernel
theorem dX9_solve_222 : decode cX9_solve 222 = .ok (.iload 7, 2) := by decide +kernel
theorem dX9_solve_224 : decode cX9_solve 224 = .ok (.ifCond .eq 7, 3) := by decide +kernel
theorem dX9_solve_227 : decode cX9_solve 227 = .ok (.iconst 1, 1) := by decide +kernel
theorem dX9_solve_228 : decode cX9_solve 228 = .ok (.goto 4, 3) := by decide +kernel
theorem dX9_solve_231 : decode cX9_solve 231 = .ok (.iconst 0, 1) := by decide +kernel
theorem dX9_solve_232 : decode cX9_solve 232 = .ok (.iadd, 1) := by decide +kernel
theorem dX9_solve_233 : decode cX9_solve 233 = .ok (.putfield 180, 3) := by decide +kernel
theorem dX9_solve_236 : decode cX9_solve 236 = .ok (.iinc 5 1, 3) := by decide +kernel
theorem dX9_solve_239 : decode cX9_solve 239 = .ok (.goto (-148), 3) := by decide +kernel
theorem dX9_solve_242 : decode cX9_solve 242 = .ok (.iinc 4 1, 3) := by decide +kernel
theorem dX9_solve_245 : decode cX9_solve 245 = .ok (.goto (-182), 3) := by decide +kernel
theorem dX9_solve_248 : decode cX9_solve 248 = .ok (.aload_n 0, 1) := by decide +kernel
theorem dX9_solve_249 : decode cX9_solve 249 = .ok (.aload_n 0, 1) := by decide +kernel
theorem dX9_solve_250 : decode cX9_solve 250 = .ok (.getfield 180, 3) := by decide +kernel
theorem dX9_solve_253 : decode cX9_solve 253 = .ok (.putfield 190, 3) := by decide +kernel
theorem dX9_solve_256 : decode cX9_solve 256 = .ok (.iconst 0, 1) := by decide +kernel
theorem dX9_solve_257 : decode cX9_solve 257 = .ok (.istore 4, 2) := by decide +kernel
theorem dX9_solve_259 : decode cX9_solve 259 = .ok (.iload 4, 2) := by decide +kernel
theorem dX9_solve_261 : decode cX9_solve 261 = .ok (.iconst 4, 1) := by decide +kernel
theorem dX9_solve_262 : decode cX9_solve 262 = .ok (.aload_n 0, 1) := by decide +kernel
theorem dX9_solve_263 : decode cX9_solve 263 = .ok (.getfield 190, 3) := by decide +kernel
theorem dX9_solve_266 : decode cX9_solve 266 = .ok (.imul, 1) := by decide +kernel
theorem dX9_solve_267 : decode cX9_solve 267 = .ok (.if_icmp .ge 23, 3) := by decide +kernel
theorem dX9_solve_270 : decode cX9_solve 270 = .ok (.aload_n 0, 1) := by decide +kernel
theorem dX9_solve_271 : decode cX9_solve 271 = .ok (.getfield 117, 3) := by decide +kernel
theorem dX9_solve_274 : decode cX9_solve 274 = .ok (.iload 4, 2) := by decide +kernel
theorem dX9_solve_276 : decode cX9_solve 276 = .ok (.aload_n 0, 1) := by decide +kernel
theorem dX9_solve_277 : decode cX9_solve 277 = .ok (.getfield 120, 3) := by decide +kernel
theorem dX9_solve_280 : decode cX9_solve 280 = .ok (.iload 4, 2) := by decide +kernel
theorem dX9_solve_282 : decode cX9_solve 282 = .ok (.iaload, 1) := by decide +kernel
theorem dX9_solve_283 : decode cX9_solve 283 = .ok (.iastore, 1) := by decide +kernel
theorem dX9_solve_284 : decode cX9_solve 284 = .ok (.iinc 4 1, 3) := by decide +kernel
theorem dX9_solve_287 : decode cX9_solve 287 = .ok (.goto (-28), 3) := by decide +kernel
theorem dX9_solve_290 : decode cX9_solve 290 = .ok (.iinc 3 1, 3) := by decide +kernel
theorem dX9_solve_293 : decode cX9_solve 293 = .ok (.goto (-252), 3) := by decide +kernel
theorem dX9_solve_296 : decode cX9_solve 296 = .ok (.aload_n 0, 1) := by decide +kernel
theorem dX9_solve_297 : decode cX9_solve 297 = .ok (.dup, 1) := by decide +kernel
theorem dX9_solve_298 : decode cX9_solve 298 = .ok (.getfield 196, 3) := by decide +kernel
theorem dX9_solve_301 : decode cX9_solve 301 = .ok (.iload_n 2, 1) := by decide +kernel
theorem dX9_solve_302 : decode cX9_solve 302 = .ok (.iadd, 1) := by decide +kernel
theorem dX9_solve_303 : decode cX9_solve 303 = .ok (.putfield 196, 3) := by decide +kernel
theorem dX9_solve_306 : decode cX9_solve 306 = .ok (.aload_n 0, 1) := by decide +kernel
theorem dX9_solve_307 : decode cX9_solve 307 = .ok (.getfield 190, 3) := by decide +kernel
theorem dX9_solve_310 : decode cX9_solve 310 = .ok (.bipush 100, 2) := by decide +kernel
theorem dX9_solve_312 : decode cX9_solve 312 = .ok (.if_icmp .le 7, 3) := by decide +kernel
theorem dX9_solve_315 : decode cX9_solve 315 = .ok (.iconst 5, 1) := by decide +kernel
theorem dX9_solve_316 : decode cX9_solve 316 = .ok (.goto 4, 3) := by decide +kernel
theorem dX9_solve_319 : decode cX9_solve 319 = .ok (.iconst 0, 1) := by decide +kernel
theorem dX9_solve_320 : decode cX9_solve 320 = .ok (.ireturn, 1) := by decide +kernel
theorem dX9_isLeftOut_0 : decode cX9_isLeftOut 0 = .ok (.aload_n 0, 1) := by decide +kernel
theorem dX9_isLeftOut_1 : decode cX9_isLeftOut 1 = .ok (.aload_n 0, 1) := by decide +kernel
theorem dX9_isLeftOut_2 : decode cX9_isLeftOut 2 = .ok (.getfield 117, 3) := by decide +kernel
theorem dX9_isLeftOut_5 : decode cX9_isLeftOut 5 = .ok (.iload_n 2, 1) := by decide +kernel
theorem dX9_isLeftOut_6 : decode cX9_isLeftOut 6 = .ok (.aload_n 0, 1) := by decide +kernel
theorem dX9_isLeftOut_7 : decode cX9_isLeftOut 7 = .ok (.getfield 26, 3) := by decide +kernel
theorem dX9_isLeftOut_10 : decode cX9_isLeftOut 10 = .ok (.iload_n 1, 1) := by decide +kernel
theorem dX9_isLeftOut_11 : decode cX9_isLeftOut 11 = .ok (.iaload, 1) := by decide +kernel
theorem dX9_isLeftOut_12 : decode cX9_isLeftOut 12 = .ok (.invokevirtual 183, 3) := by decide +kernel
theorem dX9_isLeftOut_15 : decode cX9_isLeftOut 15 = .ok (.istore_n 3, 1) := by decide +kernel
theorem dX9_isLeftOut_16 : decode cX9_isLeftOut 16 = .ok (.aload_n 0, 1) := by decide +kernel
theorem dX9_isLeftOut_17 : decode cX9_isLeftOut 17 = .ok (.aload_n 0, 1) := by decide +kernel
theorem dX9_isLeftOut_18 : decode cX9_isLeftOut 18 = .ok (.getfield 117, 3) := by decide +kernel
theorem dX9_isLeftOut_21 : decode cX9_isLeftOut 21 = .ok (.iload_n 2, 1) := by decide +kernel
theorem dX9_isLeftOut_22 : decode cX9_isLeftOut 22 = .ok (.aload_n 0, 1) := by decide +kernel
theorem dX9_isLeftOut_23 : decode cX9_isLeftOut 23 = .ok (.getfield 29, 3) := by decide +kernel
theorem dX9_isLeftOut_26 : decode cX9_isLeftOut 26 = .ok (.iload_n 1, 1) := by decide +kernel
theorem dX9_isLeftOut_27 : decode cX9_isLeftOut 27 = .ok (.iaload, 1) := by decide +kernel
theorem dX9_isLeftOut_28 : decode cX9_isLeftOut 28 = .ok (.invokevirtual 183, 3) := by decide +kernel
theorem dX9_isLeftOut_31 : decode cX9_isLeftOut 31 = .ok (.istore 4, 2) := by decide +kernel
theorem dX9_isLeftOut_33 : decode cX9_isLeftOut 33 = .ok (.aload_n 0, 1) := by decide +kernel
theorem dX9_isLeftOut_34 : decode cX9_isLeftOut 34 = .ok (.aload_n 0, 1) := by decide +kernel
theorem dX9_isLeftOut_35 : decode cX9_isLeftOut 35 = .ok (.getfield 117, 3) := by decide +kernel
theorem dX9_isLeftOut_38 : decode cX9_isLeftOut 38 = .ok (.iload_n 2, 1) := by decide +kernel
theorem dX9_isLeftOut_39 : decode cX9_isLeftOut 39 = .ok (.aload_n 0, 1) := by decide +kernel
theorem dX9_isLeftOut_40 : decode cX9_isLeftOut 40 = .ok (.getfield 32, 3) := by decide +kernel
theorem dX9_isLeftOut_43 : decode cX9_isLeftOut 43 = .ok (.iload_n 1, 1) := by decide +kernel
theorem dX9_isLeftOut_44 : decode cX9_isLeftOut 44 = .ok (.iaload, 1) := by decide +kernel
theorem dX9_isLeftOut_45 : decode cX9_isLeftOut 45 = .ok (.invokevirtual 183, 3) := by decide +kernel
theorem dX9_isLeftOut_48 : decode cX9_isLeftOut 48 = .ok (.istore 5, 2) := by decide +kernel
theorem dX9_isLeftOut_50 : decode cX9_isLeftOut 50 = .ok (.iload_n 3, 1) := by decide +kernel
theorem dX9_isLeftOut_51 : decode cX9_isLeftOut 51 = .ok (.iconst (-1), 1) := by decide +kernel
theorem dX9_isLeftOut_52 : decode cX9_isLeftOut 52 = .ok (.if_icmp .eq 22, 3) := by decide +kernel
theorem dX9_isLeftOut_55 : decode cX9_isLeftOut 55 = .ok (.iload 4, 2) := by decide +kernel
theorem dX9_isLeftOut_57 : decode cX9_isLeftOut 57 = .ok (.iconst (-1), 1) := by decide +kernel
theorem dX9_isLeftOut_58 : decode cX9_isLeftOut 58 = .ok (.if_icmp .eq 16, 3) := by decide +kernel
theorem dX9_isLeftOut_61 : decode cX9_isLeftOut 61 = .ok (.iload 5, 2) := by decide +kernel
theorem dX9_isLeftOut_63 : decode cX9_isLeftOut 63 = .ok (.iconst (-1), 1) := by decide +kernel
theorem dX9_isLeftOut_64 : decode cX9_isLeftOut 64 = .ok (.if_icmp .eq 10, 3) := by decide +kernel
theorem dX9_isLeftOut_67 : decode cX9_isLeftOut 67 = .ok (.iload 4, 2) := by decide +kernel
theorem dX9_isLeftOut_69 : decode cX9_isLeftOut 69 = .ok (.bipush 99, 2) := by decide +kernel
theorem dX9_isLeftOut_71 : decode cX9_isLeftOut 71 = .ok (.if_icmp .le 7, 3) := by decide +kernel
theorem dX9_isLeftOut_74 : decode cX9_isLeftOut 74 = .ok (.iconst 1, 1) := by decide +kernel
theorem dX9_isLeftOut_75 : decode cX9_isLeftOut 75 = .ok (.goto 4, 3) := by decide +kernel
theorem dX9_isLeftOut_78 : decode cX9_isLeftOut 78 = .ok (.iconst 0, 1) := by decide +kernel
theorem dX9_isLeftOut_79 : decode cX9_isLeftOut 79 = .ok (.ireturn, 1) := by decide +kernel
theorem dX9_comes_0 : decode cX9_comes 0 = .ok (.iload_n 1, 1) := by decide +kernel
theorem dX9_comes_1 : decode cX9_comes 1 = .ok (.invokestatic 153, 3) := by decide +kernel
theorem dX9_comes_4 : decode cX9_comes 4 = .ok (.ifCond .ne 14, 3) := by decide +kernel
theorem dX9_comes_7 : decode cX9_comes 7 = .ok (.aload_n 0, 1) := by decide +kernel
theorem dX9_comes_8 : decode cX9_comes 8 = .ok (.aload_n 0, 1) := by decide +kernel
theorem dX9_comes_9 : decode cX9_comes 9 = .ok (.getfield 117, 3) := by decide +kernel
theorem dX9_comes_12 : decode cX9_comes 12 = .ok (.iload_n 2, 1) := by decide +kernel
theorem dX9_comes_13 : decode cX9_comes 13 = .ok (.iload_n 1, 1) := by decide +kernel
theorem dX9_comes_14 : decode cX9_comes 14 = .ok (.invokevirtual 183, 3) := by decide +kernel
theorem dX9_comes_17 : decode cX9_comes 17 = .ok (.ireturn, 1) := by decide +kernel
theorem dX9_comes_18 : decode cX9_comes 18 = .ok (.bipush (-11), 2) := by decide +kernel
theorem dX9_comes_20 : decode cX9_comes 20 = .ok (.iload_n 1, 1) := by decide +kernel
theorem dX9_comes_21 : decode cX9_comes 21 = .ok (.isub, 1) := by decide +kernel
theorem dX9_comes_22 : decode cX9_comes 22 = .ok (.istore_n 3, 1) := by decide +kernel
theorem dX9_comes_23 : decode cX9_comes 23 = .ok (.aload_n 0, 1) := by decide +kernel
theorem dX9_comes_24 : decode cX9_comes 24 = .ok (.getfield 126, 3) := by decide +kernel
theorem dX9_comes_27 : decode cX9_comes 27 = .ok (.iload_n 3, 1) := by decide +kernel
theorem dX9_comes_28 : decode cX9_comes 28 = .ok (.iaload, 1) := by decide +kernel
theorem dX9_comes_29 : decode cX9_comes 29 = .ok (.iconst (-1), 1) := by decide +kernel
theorem dX9_comes_30 : decode cX9_comes 30 = .ok (.if_icmp .ne 35, 3) := by decide +kernel
theorem dX9_comes_33 : decode cX9_comes 33 = .ok (.aload_n 0, 1) := by decide +kernel
theorem dX9_comes_34 : decode cX9_comes 34 = .ok (.getfield 199, 3) := by decide +kernel
theorem dX9_comes_37 : decode cX9_comes 37 = .ok (.bipush 60, 2) := by decide +kernel
theorem dX9_comes_39 : decode cX9_comes 39 = .ok (.if_icmp .ge 26, 3) := by decide +kernel
theorem dX9_comes_42 : decode cX9_comes 42 = .ok (.aload_n 0, 1) := by decide +kernel
theorem dX9_comes_43 : decode cX9_comes 43 = .ok (.getfield 126, 3) := by decide +kernel
theorem dX9_comes_46 : decode cX9_comes 46 = .ok (.iload_n 3, 1) := by decide +kernel
theorem dX9_comes_47 : decode cX9_comes 47 = .ok (.bipush 100, 2) := by decide +kernel
theorem dX9_comes_49 : decode cX9_comes 49 = .ok (.aload_n 0, 1) := by decide +kernel
theorem dX9_comes_50 : decode cX9_comes 50 = .ok (.getfield 199, 3) := by decide +kernel
theorem dX9_comes_53 : decode cX9_comes 53 = .ok (.iadd, 1) := by decide +kernel
theorem dX9_comes_54 : decode cX9_comes 54 = .ok (.iastore, 1) := by decide +kernel
theorem dX9_comes_55 : decode cX9_comes 55 = .ok (.aload_n 0, 1) := by decide +kernel
theorem dX9_comes_56 : decode cX9_comes 56 = .ok (.dup, 1) := by decide +kernel
theorem dX9_comes_57 : decode cX9_comes 57 = .ok (.getfield 199, 3) := by decide +kernel
theorem dX9_comes_60 : decode cX9_comes 60 = .ok (.iconst 1, 1) := by decide +kernel
theorem dX9_comes_61 : decode cX9_comes 61 = .ok (.iadd, 1) := by decide +kernel
theorem dX9_comes_62 : decode cX9_comes 62 = .ok (.putfield 199, 3) := by decide +kernel
theorem dX9_comes_65 : decode cX9_comes 65 = .ok (.aload_n 0, 1) := by decide +kernel
theorem dX9_comes_66 : decode cX9_comes 66 = .ok (.getfield 126, 3) := by decide +kernel
theorem dX9_comes_69 : decode cX9_comes 69 = .ok (.iload_n 3, 1) := by decide +kernel
theorem dX9_comes_70 : decode cX9_comes 70 = .ok (.iaload, 1) := by decide +kernel
theorem dX9_comes_71 : decode cX9_comes 71 = .ok (.ireturn, 1) := by decide +kernel
theorem dX9_add_0 : decode cX9_add 0 = .ok (.iconst 0, 1) := by decide +kernel
theorem dX9_add_1 : decode cX9_add 1 = .ok (.istore_n 3, 1) := by decide +kernel
theorem dX9_add_2 : decode cX9_add 2 = .ok (.iload_n 3, 1) := by decide +kernel
theorem dX9_add_3 : decode cX9_add 3 = .ok (.iconst 4, 1) := by decide +kernel
theorem dX9_add_4 : decode cX9_add 4 = .ok (.if_icmp .ge 16, 3) := by decide +kernel
theorem dX9_add_7 : decode cX9_add 7 = .ok (.aload_n 0, 1) := by decide +kernel
theorem dX9_add_8 : decode cX9_add 8 = .ok (.getfield 126, 3) := by decide +kernel
theorem dX9_add_11 : decode cX9_add 11 = .ok (.iload_n 3, 1) := by decide +kernel
theorem dX9_add_12 : decode cX9_add 12 = .ok (.iconst (-1), 1) := by decide +kernel
theorem dX9_add_13 : decode cX9_add 13 = .ok (.iastore, 1) := by decide +kernel
theorem dX9_add_14 : decode cX9_add 14 = .ok (.iinc 3 1, 3) := by decide +kernel
theorem dX9_add_17 : decode cX9_add 17 = .ok (.goto (-15), 3) := by decide +kernel
theorem dX9_add_20 : decode cX9_add 20 = .ok (.bipush 6, 2) := by decide +kernel
theorem dX9_add_22 : decode cX9_add 22 = .ok (.iload_n 1, 1) := by decide +kernel
theorem dX9_add_23 : decode cX9_add 23 = .ok (.imul, 1) := by decide +kernel
theorem dX9_add_24 : decode cX9_add 24 = .ok (.istore_n 3, 1) := by decide +kernel
theorem dX9_add_25 : decode cX9_add 25 = .ok (.iload_n 3, 1) := by decide +kernel
theorem dX9_add_26 : decode cX9_add 26 = .ok (.bipush 6, 2) := by decide +kernel
theorem dX9_add_28 : decode cX9_add 28 = .ok (.iload_n 1, 1) := by decide +kernel
theorem dX9_add_29 : decode cX9_add 29 = .ok (.imul, 1) := by decide +kernel
theorem dX9_add_30 : decode cX9_add 30 = .ok (.aload_n 0, 1) := by decide +kernel
theorem dX9_add_31 : decode cX9_add 31 = .ok (.getfield 23, 3) := by decide +kernel
theorem dX9_add_34 : decode cX9_add 34 = .ok (.iload_n 1, 1) := by decide +kernel
theorem dX9_add_35 : decode cX9_add 35 = .ok (.iaload, 1) := by decide +kernel
theorem dX9_add_36 : decode cX9_add 36 = .ok (.iadd, 1) := by decide +kernel
theorem dX9_add_37 : decode cX9_add 37 = .ok (.if_icmp .ge 118, 3) := by decide +kernel
theorem dX9_add_40 : decode cX9_add 40 = .ok (.aload_n 0, 1) := by decide +kernel
theorem dX9_add_41 : decode cX9_add 41 = .ok (.getfield 35, 3) := by decide +kernel
theorem dX9_add_44 : decode cX9_add 44 = .ok (.iload_n 3, 1) := by decide +kernel
theorem dX9_add_45 : decode cX9_add 45 = .ok (.baload, 1) := by decide +kernel
theorem dX9_add_46 : decode cX9_add 46 = .ok (.ifCond .eq 103, 3) := by decide +kernel
theorem dX9_add_49 : decode cX9_add 49 = .ok (.aload_n 0, 1) := by decide +kernel
theorem dX9_add_50 : decode cX9_add 50 = .ok (.iload_n 3, 1) := by decide +kernel
theorem dX9_add_51 : decode cX9_add 51 = .ok (.iload_n 2, 1) := by decide +kernel
theorem dX9_add_52 : decode cX9_add 52 = .ok (.invokevirtual 202, 3) := by decide +kernel
theorem dX9_add_55 : decode cX9_add 55 = .ok (.ifCond .eq 6, 3) := by decide +kernel
theorem dX9_add_58 : decode cX9_add 58 = .ok (.goto 91, 3) := by decide +kernel
theorem dX9_add_61 : decode cX9_add 61 = .ok (.aload_n 0, 1) := by decide +kernel
theorem dX9_add_62 : decode cX9_add 62 = .ok (.getfield 77, 3) := by decide +kernel
theorem dX9_add_65 : decode cX9_add 65 = .ok (.aload_n 0, 1) := by decide +kernel
theorem dX9_add_66 : decode cX9_add 66 = .ok (.getfield 16, 3) := by decide +kernel
theorem dX9_add_69 : decode cX9_add 69 = .ok (.iload_n 1, 1) := by decide +kernel
theorem dX9_add_70 : decode cX9_add 70 = .ok (.iaload, 1) := by decide +kernel
theorem dX9_add_71 : decode cX9_add 71 = .ok (.iconst 1, 1) := by decide +kernel
theorem dX9_add_72 : decode cX9_add 72 = .ok (.bastore, 1) := by decide +kernel
theorem dX9_add_73 : decode cX9_add 73 = .ok (.aload_n 0, 1) := by decide +kernel
theorem dX9_add_74 : decode cX9_add 74 = .ok (.aload_n 0, 1) := by decide +kernel
theorem dX9_add_75 : decode cX9_add 75 = .ok (.getfield 26, 3) := by decide +kernel
theorem dX9_add_78 : decode cX9_add 78 = .ok (.iload_n 3, 1) := by decide +kernel
theorem dX9_add_79 : decode cX9_add 79 = .ok (.iaload, 1) := by decide +kernel
theorem dX9_add_80 : decode cX9_add 80 = .ok (.iload_n 2, 1) := by decide +kernel
theorem dX9_add_81 : decode cX9_add 81 = .ok (.invokevirtual 205, 3) := by decide +kernel
theorem dX9_add_84 : decode cX9_add 84 = .ok (.istore 4, 2) := by decide +kernel
theorem dX9_add_86 : decode cX9_add 86 = .ok (.iload 4, 2) := by decide +kernel
theorem dX9_add_88 : decode cX9_add 88 = .ok (.iconst (-1), 1) := by decide +kernel
theorem dX9_add_89 : decode cX9_add 89 = .ok (.if_icmp .ne 7, 3) := by decide +kernel
theorem dX9_add_92 : decode cX9_add 92 = .ok (.iconst (-1), 1) := by decide +kernel
theorem dX9_add_93 : decode cX9_add 93 = .ok (.goto 14, 3) := by decide +kernel
theorem dX9_add_96 : decode cX9_add 96 = .ok (.aload_n 0, 1) := by decide +kernel
theorem dX9_add_97 : decode cX9_add 97 = .ok (.aload_n 0, 1) := by decide +kernel
theorem dX9_add_98 : decode cX9_add 98 = .ok (.getfield 32, 3) := by decide +kernel
theorem dX9_add_101 : decode cX9_add 101 = .ok (.iload_n 3, 1) := by decide +kernel
theorem dX9_add_102 : decode cX9_add 102 = .ok (.iaload, 1) := by decide +kernel
theorem dX9_add_103 : decode cX9_add 103 = .ok (.iload_n 2, 1) := by decide +kernel
theorem dX9_add_104 : decode cX9_add 104 = .ok (.invokevirtual 205, 3) := by decide +kernel
theorem dX9_add_107 : decode cX9_add 107 = .ok (.istore 5, 2) := by decide +kernel
theorem dX9_add_109 : decode cX9_add 109 = .ok (.iload 5, 2) := by decide +kernel
theorem dX9_add_111 : decode cX9_add 111 = .ok (.iconst (-1), 1) := by decide +kernel
theorem dX9_add_112 : decode cX9_add 112 = .ok (.if_icmp .eq 35, 3) := by decide +kernel
theorem dX9_add_115 : decode cX9_add 115 = .ok (.aload_n 0, 1) := by decide +kernel
theorem dX9_add_116 : decode cX9_add 116 = .ok (.aload_n 0, 1) := by decide +kernel
theorem dX9_add_117 : decode cX9_add 117 = .ok (.getfield 16, 3) := by decide +kernel
theorem dX9_add_120 : decode cX9_add 120 = .ok (.iload_n 1, 1) := by decide +kernel
theorem dX9_add_121 : decode cX9_add 121 = .ok (.iaload, 1) := by decide +kernel
theorem dX9_add_122 : decode cX9_add 122 = .ok (.iload 4, 2) := by decide +kernel
theorem dX9_add_124 : decode cX9_add 124 = .ok (.aload_n 0, 1) := by decide +kernel
theorem dX9_add_125 : decode cX9_add 125 = .ok (.aload_n 0, 1) := by decide +kernel
theorem dX9_add_126 : decode cX9_add 126 = .ok (.getfield 117, 3) := by decide +kernel
theorem dX9_add_129 : decode cX9_add 129 = .ok (.iload_n 2, 1) := by decide +kernel
theorem dX9_add_130 : decode cX9_add 130 = .ok (.aload_n 0, 1) := by decide +kernel
theorem dX9_add_131 : decode cX9_add 131 = .ok (.getfield 29, 3) := by decide +kernel
theorem dX9_add_134 : decode cX9_add 134 = .ok (.iload_n 3, 1) := by decide +kernel
theorem dX9_add_135 : decode cX9_add 135 = .ok (.iaload, 1) := by decide +kernel
theorem dX9_add_136 : decode cX9_add 136 = .ok (.invokevirtual 183, 3) := by decide +kernel
theorem dX9_add_139 : decode cX9_add 139 = .ok (.iload 5, 2) := by decide +kernel
theorem dX9_add_141 : decode cX9_add 141 = .ok (.invokevirtual 209, 3) := by decide +kernel
theorem dX9_add_144 : decode cX9_add 144 = .ok (.ifCond .ne 5, 3) := by decide +kernel
theorem dX9_add_147 : decode cX9_add 147 = .ok (.iconst 0, 1) := by decide +kernel
theorem dX9_add_148 : decode cX9_add 148 = .ok (.ireturn, 1) := by decide +kernel
theorem dX9_add_149 : decode cX9_add 149 = .ok (.iinc 3 1, 3) := by decide +kernel
theorem dX9_add_152 : decode cX9_add 152 = .ok (.goto (-127), 3) := by decide +kernel
theorem dX9_add_155 : decode cX9_add 155 = .ok (.iconst 1, 1) := by decide +kernel
theorem dX9_add_156 : decode cX9_add 156 = .ok (.ireturn, 1) := by decide +kernel
theorem dX9_takeAway_0 : decode cX9_takeAway 0 = .ok (.bipush 6, 2) := by decide +kernel
theorem dX9_takeAway_2 : decode cX9_takeAway 2 = .ok (.iload_n 1, 1) := by decide +kernel
theorem dX9_takeAway_3 : decode cX9_takeAway 3 = .ok (.imul, 1) := by decide +kernel
theorem dX9_takeAway_4 : decode cX9_takeAway 4 = .ok (.istore_n 3, 1) := by decide +kernel
theorem dX9_takeAway_5 : decode cX9_takeAway 5 = .ok (.iload_n 3, 1) := by decide +kernel
theorem dX9_takeAway_6 : decode cX9_takeAway 6 = .ok (.bipush 6, 2) := by decide +kernel
theorem dX9_takeAway_8 : decode cX9_takeAway 8 = .ok (.iload_n 1, 1) := by decide +kernel
theorem dX9_takeAway_9 : decode cX9_takeAway 9 = .ok (.imul, 1) := by decide +kernel
theorem dX9_takeAway_10 : decode cX9_takeAway 10 = .ok (.aload_n 0, 1) := by decide +kernel
theorem dX9_takeAway_11 : decode cX9_takeAway 11 = .ok (.getfield 23, 3) := by decide +kernel
theorem dX9_takeAway_14 : decode cX9_takeAway 14 = .ok (.iload_n 1, 1) := by decide +kernel
theorem dX9_takeAway_15 : decode cX9_takeAway 15 = .ok (.iaload, 1) := by decide +kernel
theorem dX9_takeAway_16 : decode cX9_takeAway 16 = .ok (.iadd, 1) := by decide +kernel
theorem dX9_takeAway_17 : decode cX9_takeAway 17 = .ok (.if_icmp .ge 82, 3) := by decide +kernel
theorem dX9_takeAway_20 : decode cX9_takeAway 20 = .ok (.aload_n 0, 1) := by decide +kernel
theorem dX9_takeAway_21 : decode cX9_takeAway 21 = .ok (.getfield 35, 3) := by decide +kernel
theorem dX9_takeAway_24 : decode cX9_takeAway 24 = .ok (.iload_n 3, 1) := by decide +kernel
theorem dX9_takeAway_25 : decode cX9_takeAway 25 = .ok (.baload, 1) := by decide +kernel
theorem dX9_takeAway_26 : decode cX9_takeAway 26 = .ok (.ifCond .ne 67, 3) := by decide +kernel
theorem dX9_takeAway_29 : decode cX9_takeAway 29 = .ok (.aload_n 0, 1) := by decide +kernel
theorem dX9_takeAway_30 : decode cX9_takeAway 30 = .ok (.iload_n 3, 1) := by decide +kernel
theorem dX9_takeAway_31 : decode cX9_takeAway 31 = .ok (.iload_n 2, 1) := by decide +kernel
theorem dX9_takeAway_32 : decode cX9_takeAway 32 = .ok (.invokevirtual 202, 3) := by decide +kernel
theorem dX9_takeAway_35 : decode cX9_takeAway 35 = .ok (.ifCond .ne 58, 3) := by decide +kernel
theorem dX9_takeAway_38 : decode cX9_takeAway 38 = .ok (.aload_n 0, 1) := by decide +kernel
theorem dX9_takeAway_39 : decode cX9_takeAway 39 = .ok (.aload_n 0, 1) := by decide +kernel
theorem dX9_takeAway_40 : decode cX9_takeAway 40 = .ok (.getfield 16, 3) := by decide +kernel
theorem dX9_takeAway_43 : decode cX9_takeAway 43 = .ok (.iload_n 1, 1) := by decide +kernel
theorem dX9_takeAway_44 : decode cX9_takeAway 44 = .ok (.iaload, 1) := by decide +kernel
theorem dX9_takeAway_45 : decode cX9_takeAway 45 = .ok (.aload_n 0, 1) := by decide +kernel
theorem dX9_takeAway_46 : decode cX9_takeAway 46 = .ok (.aload_n 0, 1) := by decide +kernel
theorem dX9_takeAway_47 : decode cX9_takeAway 47 = .ok (.getfield 117, 3) := by decide +kernel
theorem dX9_takeAway_50 : decode cX9_takeAway 50 = .ok (.iload_n 2, 1) := by decide +kernel
theorem dX9_takeAway_51 : decode cX9_takeAway 51 = .ok (.aload_n 0, 1) := by decide +kernel
theorem dX9_takeAway_52 : decode cX9_takeAway 52 = .ok (.getfield 26, 3) := by decide +kernel
theorem dX9_takeAway_55 : decode cX9_takeAway 55 = .ok (.iload_n 3, 1) := by decide +kernel
theorem dX9_takeAway_56 : decode cX9_takeAway 56 = .ok (.iaload, 1) := by decide +kernel
theorem dX9_takeAway_57 : decode cX9_takeAway 57 = .ok (.invokevirtual 183, 3) := by decide +kernel
theorem dX9_takeAway_60 : decode cX9_takeAway 60 = .ok (.aload_n 0, 1) := by decide +kernel
theorem dX9_takeAway_61 : decode cX9_takeAway 61 = .ok (.aload_n 0, 1) := by decide +kernel
theorem dX9_takeAway_62 : decode cX9_takeAway 62 = .ok (.getfield 117, 3) := by decide +kernel
theorem dX9_takeAway_65 : decode cX9_takeAway 65 = .ok (.iload_n 2, 1) := by decide +kernel
theorem dX9_takeAway_66 : decode cX9_takeAway 66 = .ok (.aload_n 0, 1) := by decide +kernel
theorem dX9_takeAway_67 : decode cX9_takeAway 67 = .ok (.getfield 29, 3) := by decide +kernel
theorem dX9_takeAway_70 : decode cX9_takeAway 70 = .ok (.iload_n 3, 1) := by decide +kernel
theorem dX9_takeAway_71 : decode cX9_takeAway 71 = .ok (.iaload, 1) := by decide +kernel
theorem dX9_takeAway_72 : decode cX9_takeAway 72 = .ok (.invokevirtual 183, 3) := by decide +kernel
theorem dX9_takeAway_75 : decode cX9_takeAway 75 = .ok (.aload_n 0, 1) := by decide +kernel
theorem dX9_takeAway_76 : decode cX9_takeAway 76 = .ok (.aload_n 0, 1) := by decide +kernel
theorem dX9_takeAway_77 : decode cX9_takeAway 77 = .ok (.getfield 117, 3) := by decide +kernel
theorem dX9_takeAway_80 : decode cX9_takeAway 80 = .ok (.iload_n 2, 1) := by decide +kernel
theorem dX9_takeAway_81 : decode cX9_takeAway 81 = .ok (.aload_n 0, 1) := by decide +kernel
theorem dX9_takeAway_82 : decode cX9_takeAway 82 = .ok (.getfield 32, 3) := by decide +kernel
theorem dX9_takeAway_85 : decode cX9_takeAway 85 = .ok (.iload_n 3, 1) := by decide +kernel
theorem dX9_takeAway_86 : decode cX9_takeAway 86 = .ok (.iaload, 1) := by decide +kernel
theorem dX9_takeAway_87 : decode cX9_takeAway 87 = .ok (.invokevirtual 183, 3) := by decide +kernel
theorem dX9_takeAway_90 : decode cX9_takeAway 90 = .ok (.invokevirtual 213, 3) := by decide +kernel
theorem dX9_takeAway_93 : decode cX9_takeAway 93 = .ok (.iinc 3 1, 3) := by decide +kernel
theorem dX9_takeAway_96 : decode cX9_takeAway 96 = .ok (.goto (-91), 3) := by decide +kernel
theorem dX9_takeAway_99 : decode cX9_takeAway 99 = .ok (.return_, 1) := by decide +kernel
theorem dX9_change_0 : decode cX9_change 0 = .ok (.aload_n 0, 1) := by decide +kernel
theorem dX9_change_1 : decode cX9_change 1 = .ok (.iload_n 1, 1) := by decide +kernel
theorem dX9_change_2 : decode cX9_change 2 = .ok (.invokevirtual 217, 3) := by decide +kernel
theorem dX9_change_5 : decode cX9_change 5 = .ok (.istore_n 2, 1) := by decide +kernel
theorem dX9_change_6 : decode cX9_change 6 = .ok (.iload_n 2, 1) := by decide +kernel
theorem dX9_change_7 : decode cX9_change 7 = .ok (.ifCond .le 5, 3) := by decide +kernel
theorem dX9_change_10 : decode cX9_change 10 = .ok (.iload_n 2, 1) := by decide +kernel
theorem dX9_change_11 : decode cX9_change 11 = .ok (.ireturn, 1) := by decide +kernel
theorem dX9_change_12 : decode cX9_change 12 = .ok (.aload_n 0, 1) := by decide +kernel
theorem dX9_change_13 : decode cX9_change 13 = .ok (.getfield 110, 3) := by decide +kernel
theorem dX9_change_16 : decode cX9_change 16 = .ok (.iload_n 1, 1) := by decide +kernel
theorem dX9_change_17 : decode cX9_change 17 = .ok (.aload_n 0, 1) := by decide +kernel
theorem dX9_change_18 : decode cX9_change 18 = .ok (.getfield 190, 3) := by decide +kernel
theorem dX9_change_21 : decode cX9_change 21 = .ok (.iastore, 1) := by decide +kernel
theorem dX9_change_22 : decode cX9_change 22 = .ok (.iconst 0, 1) := by decide +kernel
theorem dX9_change_23 : decode cX9_change 23 = .ok (.istore_n 3, 1) := by decide +kernel
theorem dX9_change_24 : decode cX9_change 24 = .ok (.iload_n 3, 1) := by decide +kernel
theorem dX9_change_25 : decode cX9_change 25 = .ok (.aload_n 0, 1) := by decide +kernel
theorem dX9_change_26 : decode cX9_change 26 = .ok (.getfield 190, 3) := by decide +kernel
theorem dX9_change_29 : decode cX9_change 29 = .ok (.if_icmp .ge 15, 3) := by decide +kernel
theorem dX9_change_32 : decode cX9_change 32 = .ok (.aload_n 0, 1) := by decide +kernel
theorem dX9_change_33 : decode cX9_change 33 = .ok (.iload_n 1, 1) := by decide +kernel
theorem dX9_change_34 : decode cX9_change 34 = .ok (.iload_n 3, 1) := by decide +kernel
theorem dX9_change_35 : decode cX9_change 35 = .ok (.invokevirtual 221, 3) := by decide +kernel
theorem dX9_change_38 : decode cX9_change 38 = .ok (.iinc 3 1, 3) := by decide +kernel
theorem dX9_change_41 : decode cX9_change 41 = .ok (.goto (-17), 3) := by decide +kernel
theorem dX9_change_44 : decode cX9_change 44 = .ok (.iconst 0, 1) := by decide +kernel
theorem dX9_change_45 : decode cX9_change 45 = .ok (.istore_n 3, 1) := by decide +kernel
theorem dX9_change_46 : decode cX9_change 46 = .ok (.iload_n 3, 1) := by decide +kernel
theorem dX9_change_47 : decode cX9_change 47 = .ok (.aload_n 0, 1) := by decide +kernel
theorem dX9_change_48 : decode cX9_change 48 = .ok (.getfield 190, 3) := by decide +kernel
theorem dX9_change_51 : decode cX9_change 51 = .ok (.if_icmp .ge 20, 3) := by decide +kernel
theorem dX9_change_54 : decode cX9_change 54 = .ok (.aload_n 0, 1) := by decide +kernel
theorem dX9_change_55 : decode cX9_change 55 = .ok (.iload_n 1, 1) := by decide +kernel
theorem dX9_change_56 : decode cX9_change 56 = .ok (.iload_n 3, 1) := by decide +kernel
theorem dX9_change_57 : decode cX9_change 57 = .ok (.invokevirtual 225, 3) := by decide +kernel
theorem dX9_change_60 : decode cX9_change 60 = .ok (.ifCond .ne 5, 3) := by decide +kernel
theorem dX9_change_63 : decode cX9_change 63 = .ok (.iconst 4, 1) := by decide +kernel
theorem dX9_change_64 : decode cX9_change 64 = .ok (.ireturn, 1) := by decide +kernel
theorem dX9_change_65 : decode cX9_change 65 = .ok (.iinc 3 1, 3) := by decide +kernel
theorem dX9_change_68 : decode cX9_change 68 = .ok (.goto (-22), 3) := by decide +kernel
theorem dX9_change_71 : decode cX9_change 71 = .ok (.iconst 0, 1) := by decide +kernel
theorem dX9_change_72 : decode cX9_change 72 = .ok (.ireturn, 1) := by decide +kernel
theorem dX9_wipe_0 : decode cX9_wipe 0 = .ok (.aload_n 0, 1) := by decide +kernel
theorem dX9_wipe_1 : decode cX9_wipe 1 = .ok (.getfield 16, 3) := by decide +kernel
theorem dX9_wipe_4 : decode cX9_wipe 4 = .ok (.iload_n 1, 1) := by decide +kernel
theorem dX9_wipe_5 : decode cX9_wipe 5 = .ok (.iaload, 1) := by decide +kernel
theorem dX9_wipe_6 : decode cX9_wipe 6 = .ok (.istore_n 3, 1) := by decide +kernel
theorem dX9_wipe_7 : decode cX9_wipe 7 = .ok (.iload_n 3, 1) := by decide +kernel
theorem dX9_wipe_8 : decode cX9_wipe 8 = .ok (.ifCond .lt 14, 3) := by decide +kernel
theorem dX9_wipe_11 : decode cX9_wipe 11 = .ok (.aload_n 0, 1) := by decide +kernel
theorem dX9_wipe_12 : decode cX9_wipe 12 = .ok (.getfield 77, 3) := by decide +kernel
theorem dX9_wipe_15 : decode cX9_wipe 15 = .ok (.iload_n 3, 1) := by decide +kernel
theorem dX9_wipe_16 : decode cX9_wipe 16 = .ok (.baload, 1) := by decide +kernel
theorem dX9_wipe_17 : decode cX9_wipe 17 = .ok (.ifCond .ne 5, 3) := by decide +kernel
theorem dX9_wipe_20 : decode cX9_wipe 20 = .ok (.iconst 2, 1) := by decide +kernel
theorem dX9_wipe_21 : decode cX9_wipe 21 = .ok (.ireturn, 1) := by decide +kernel
theorem dX9_wipe_22 : decode cX9_wipe 22 = .ok (.iconst 0, 1) := by decide +kernel
theorem dX9_wipe_23 : decode cX9_wipe 23 = .ok (.istore 4, 2) := by decide +kernel
theorem dX9_wipe_25 : decode cX9_wipe 25 = .ok (.iload 4, 2) := by decide +kernel
theorem dX9_wipe_27 : decode cX9_wipe 27 = .ok (.bipush 7, 2) := by decide +kernel
theorem dX9_wipe_29 : decode cX9_wipe 29 = .ok (.if_icmp .ge 68, 3) := by decide +kernel
theorem dX9_wipe_32 : decode cX9_wipe 32 = .ok (.aload_n 0, 1) := by decide +kernel
theorem dX9_wipe_33 : decode cX9_wipe 33 = .ok (.getfield 77, 3) := by decide +kernel
theorem dX9_wipe_36 : decode cX9_wipe 36 = .ok (.iload 4, 2) := by decide +kernel
theorem dX9_wipe_38 : decode cX9_wipe 38 = .ok (.baload, 1) := by decide +kernel
theorem dX9_wipe_39 : decode cX9_wipe 39 = .ok (.ifCond .eq 52, 3) := by decide +kernel
theorem dX9_wipe_42 : decode cX9_wipe 42 = .ok (.iload_n 3, 1) := by decide +kernel
theorem dX9_wipe_43 : decode cX9_wipe 43 = .ok (.iload 4, 2) := by decide +kernel
theorem dX9_wipe_45 : decode cX9_wipe 45 = .ok (.if_icmp .eq 19, 3) := by decide +kernel
theorem dX9_wipe_48 : decode cX9_wipe 48 = .ok (.iload_n 3, 1) := by decide +kernel
theorem dX9_wipe_49 : decode cX9_wipe 49 = .ok (.iconst (-1), 1) := by decide +kernel
theorem dX9_wipe_50 : decode cX9_wipe 50 = .ok (.if_icmp .eq 14, 3) := by decide +kernel
theorem dX9_wipe_53 : decode cX9_wipe 53 = .ok (.iload_n 3, 1) := by decide +kernel
theorem dX9_wipe_54 : decode cX9_wipe 54 = .ok (.bipush (-2), 2) := by decide +kernel
theorem dX9_wipe_56 : decode cX9_wipe 56 = .ok (.if_icmp .ne 35, 3) := by decide +kernel
theorem dX9_wipe_59 : decode cX9_wipe 59 = .ok (.iload 4, 2) := by decide +kernel
theorem dX9_wipe_61 : decode cX9_wipe 61 = .ok (.ifCond .le 30, 3) := by decide +kernel
theorem dX9_wipe_64 : decode cX9_wipe 64 = .ok (.aload_n 0, 1) := by decide +kernel
theorem dX9_wipe_65 : decode cX9_wipe 65 = .ok (.iload 4, 2) := by decide +kernel
theorem dX9_wipe_67 : decode cX9_wipe 67 = .ok (.invokevirtual 171, 3) := by decide +kernel
theorem dX9_wipe_70 : decode cX9_wipe 70 = .ok (.aload_n 0, 1) := by decide +kernel
theorem dX9_wipe_71 : decode cX9_wipe 71 = .ok (.getfield 77, 3) := by decide +kernel
theorem dX9_wipe_74 : decode cX9_wipe 74 = .ok (.iload 4, 2) := by decide +kernel
theorem dX9_wipe_76 : decode cX9_wipe 76 = .ok (.iload_n 2, 1) := by decide +kernel
theorem dX9_wipe_77 : decode cX9_wipe 77 = .ok (.ifCond .eq 8, 3) := by decide +kernel
theorem dX9_wipe_80 : decode cX9_wipe 80 = .ok (.iload 4, 2) := by decide +kernel
theorem dX9_wipe_82 : decode cX9_wipe 82 = .ok (.ifCond .ne 7, 3) := by decide +kernel
theorem dX9_wipe_85 : decode cX9_wipe 85 = .ok (.iconst 1, 1) := by decide +kernel
theorem dX9_wipe_86 : decode cX9_wipe 86 = .ok (.goto 4, 3) := by decide +kernel
theorem dX9_wipe_89 : decode cX9_wipe 89 = .ok (.iconst 0, 1) := by decide +kernel
theorem dX9_wipe_90 : decode cX9_wipe 90 = .ok (.bastore, 1) := by decide +kernel
theorem dX9_wipe_91 : decode cX9_wipe 91 = .ok (.iinc 4 1, 3) := by decide +kernel
theorem dX9_wipe_94 : decode cX9_wipe 94 = .ok (.goto (-69), 3) := by decide +kernel
theorem dX9_wipe_97 : decode cX9_wipe 97 = .ok (.iconst 0, 1) := by decide +kernel
theorem dX9_wipe_98 : decode cX9_wipe 98 = .ok (.ireturn, 1) := by decide +kernel
theorem dX9_copy_0 : decode cX9_copy 0 = .ok (.aload_n 0, 1) := by decide +kernel
theorem dX9_copy_1 : decode cX9_copy 1 = .ok (.getfield 13, 3) := by decide +kernel
theorem dX9_copy_4 : decode cX9_copy 4 = .ok (.iload_n 1, 1) := by decide +kernel
theorem dX9_copy_5 : decode cX9_copy 5 = .ok (.iaload, 1) := by decide +kernel
theorem dX9_copy_6 : decode cX9_copy 6 = .ok (.istore_n 2, 1) := by decide +kernel
theorem dX9_copy_7 : decode cX9_copy 7 = .ok (.aload_n 0, 1) := by decide +kernel
theorem dX9_copy_8 : decode cX9_copy 8 = .ok (.getfield 16, 3) := by decide +kernel
theorem dX9_copy_11 : decode cX9_copy 11 = .ok (.iload_n 1, 1) := by decide +kernel
theorem dX9_copy_12 : decode cX9_copy 12 = .ok (.iaload, 1) := by decide +kernel
theorem dX9_copy_13 : decode cX9_copy 13 = .ok (.istore_n 3, 1) := by decide +kernel
theorem dX9_copy_14 : decode cX9_copy 14 = .ok (.aload_n 0, 1) := by decide +kernel
theorem dX9_copy_15 : decode cX9_copy 15 = .ok (.getfield 77, 3) := by decide +kernel
theorem dX9_copy_18 : decode cX9_copy 18 = .ok (.iload_n 2, 1) := by decide +kernel
theorem dX9_copy_19 : decode cX9_copy 19 = .ok (.baload, 1) := by decide +kernel
theorem dX9_copy_20 : decode cX9_copy 20 = .ok (.ifCond .ne 5, 3) := by decide +kernel
theorem dX9_copy_23 : decode cX9_copy 23 = .ok (.iconst 2, 1) := by decide +kernel
theorem dX9_copy_24 : decode cX9_copy 24 = .ok (.ireturn, 1) := by decide +kernel
theorem dX9_copy_25 : decode cX9_copy 25 = .ok (.iload_n 2, 1) := by decide +kernel
theorem dX9_copy_26 : decode cX9_copy 26 = .ok (.iload_n 3, 1) := by decide +kernel
theorem dX9_copy_27 : decode cX9_copy 27 = .ok (.if_icmp .ne 5, 3) := by decide +kernel
theorem dX9_copy_30 : decode cX9_copy 30 = .ok (.iconst 0, 1) := by decide +kernel
theorem dX9_copy_31 : decode cX9_copy 31 = .ok (.ireturn, 1) := by decide +kernel
theorem dX9_copy_32 : decode cX9_copy 32 = .ok (.aload_n 0, 1) := by decide +kernel
theorem dX9_copy_33 : decode cX9_copy 33 = .ok (.getfield 7, 3) := by decide +kernel
theorem dX9_copy_36 : decode cX9_copy 36 = .ok (.iload_n 1, 1) := by decide +kernel
theorem dX9_copy_37 : decode cX9_copy 37 = .ok (.iaload, 1) := by decide +kernel
theorem dX9_copy_38 : decode cX9_copy 38 = .ok (.bipush 8, 2) := by decide +kernel
theorem dX9_copy_40 : decode cX9_copy 40 = .ok (.if_icmp .eq 8, 3) := by decide +kernel
theorem dX9_copy_43 : decode cX9_copy 43 = .ok (.aload_n 0, 1) := by decide +kernel
theorem dX9_copy_44 : decode cX9_copy 44 = .ok (.iload_n 3, 1) := by decide +kernel
theorem dX9_copy_45 : decode cX9_copy 45 = .ok (.invokevirtual 171, 3) := by decide +kernel
theorem dX9_copy_48 : decode cX9_copy 48 = .ok (.aload_n 0, 1) := by decide +kernel
theorem dX9_copy_49 : decode cX9_copy 49 = .ok (.getfield 77, 3) := by decide +kernel
theorem dX9_copy_52 : decode cX9_copy 52 = .ok (.iload_n 3, 1) := by decide +kernel
theorem dX9_copy_53 : decode cX9_copy 53 = .ok (.iconst 1, 1) := by decide +kernel
theorem dX9_copy_54 : decode cX9_copy 54 = .ok (.bastore, 1) := by decide +kernel
theorem dX9_copy_55 : decode cX9_copy 55 = .ok (.aload_n 0, 1) := by decide +kernel
theorem dX9_copy_56 : decode cX9_copy 56 = .ok (.getfield 7, 3) := by decide +kernel
theorem dX9_copy_59 : decode cX9_copy 59 = .ok (.iload_n 1, 1) := by decide +kernel
theorem dX9_copy_60 : decode cX9_copy 60 = .ok (.iaload, 1) := by decide +kernel
theorem dX9_copy_61 : decode cX9_copy 61 = .ok (.bipush 7, 2) := by decide +kernel
theorem dX9_copy_63 : decode cX9_copy 63 = .ok (.if_icmp .ne 57, 3) := by decide +kernel
theorem dX9_copy_66 : decode cX9_copy 66 = .ok (.iconst 0, 1) := by decide +kernel
theorem dX9_copy_67 : decode cX9_copy 67 = .ok (.istore 4, 2) := by decide +kernel
theorem dX9_copy_69 : decode cX9_copy 69 = .ok (.iload 4, 2) := by decide +kernel
theorem dX9_copy_71 : decode cX9_copy 71 = .ok (.aload_n 0, 1) := by decide +kernel
theorem dX9_copy_72 : decode cX9_copy 72 = .ok (.getfield 160, 3) := by decide +kernel
theorem dX9_copy_75 : decode cX9_copy 75 = .ok (.if_icmp .ge 38, 3) := by decide +kernel
theorem dX9_copy_78 : decode cX9_copy 78 = .ok (.aload_n 0, 1) := by decide +kernel
theorem dX9_copy_79 : decode cX9_copy 79 = .ok (.getfield 65, 3) := by decide +kernel
theorem dX9_copy_82 : decode cX9_copy 82 = .ok (.iload 4, 2) := by decide +kernel
theorem dX9_copy_84 : decode cX9_copy 84 = .ok (.aload_n 0, 1) := by decide +kernel
theorem dX9_copy_85 : decode cX9_copy 85 = .ok (.getfield 65, 3) := by decide +kernel
theorem dX9_copy_88 : decode cX9_copy 88 = .ok (.iload 4, 2) := by decide +kernel
theorem dX9_copy_90 : decode cX9_copy 90 = .ok (.iaload, 1) := by decide +kernel
theorem dX9_copy_91 : decode cX9_copy 91 = .ok (.iload_n 2, 1) := by decide +kernel
theorem dX9_copy_92 : decode cX9_copy 92 = .ok (.if_icmp .ne 7, 3) := by decide +kernel
theorem dX9_copy_95 : decode cX9_copy 95 = .ok (.iload_n 3, 1) := by decide +kernel
theorem dX9_copy_96 : decode cX9_copy 96 = .ok (.goto 10, 3) := by decide +kernel
theorem dX9_copy_99 : decode cX9_copy 99 = .ok (.aload_n 0, 1) := by decide +kernel
theorem dX9_copy_100 : decode cX9_copy 100 = .ok (.getfield 65, 3) := by decide +kernel
theorem dX9_copy_103 : decode cX9_copy 103 = .ok (.iload 4, 2) := by decide +kernel
theorem dX9_copy_105 : decode cX9_copy 105 = .ok (.iaload, 1) := by decide +kernel
theorem dX9_copy_106 : decode cX9_copy 106 = .ok (.iastore, 1) := by decide +kernel
theorem dX9_copy_107 : decode cX9_copy 107 = .ok (.iinc 4 1, 3) := by decide +kernel
theorem dX9_copy_110 : decode cX9_copy 110 = .ok (.goto (-41), 3) := by decide +kernel
theorem dX9_copy_113 : decode cX9_copy 113 = .ok (.aload_n 0, 1) := by decide +kernel
theorem dX9_copy_114 : decode cX9_copy 114 = .ok (.iload_n 2, 1) := by decide +kernel
theorem dX9_copy_115 : decode cX9_copy 115 = .ok (.invokevirtual 228, 3) := by decide +kernel
theorem dX9_copy_118 : decode cX9_copy 118 = .ok (.iconst 0, 1) := by decide +kernel
theorem dX9_copy_119 : decode cX9_copy 119 = .ok (.ireturn, 1) := by decide +kernel
theorem dX9_copy_120 : decode cX9_copy 120 = .ok (.iconst 1, 1) := by decide +kernel
theorem dX9_copy_121 : decode cX9_copy 121 = .ok (.istore 4, 2) := by decide +kernel
theorem dX9_copy_123 : decode cX9_copy 123 = .ok (.aload_n 0, 1) := by decide +kernel
theorem dX9_copy_124 : decode cX9_copy 124 = .ok (.getfield 160, 3) := by decide +kernel
theorem dX9_copy_127 : decode cX9_copy 127 = .ok (.istore 5, 2) := by decide +kernel
theorem dX9_copy_129 : decode cX9_copy 129 = .ok (.iconst 0, 1) := by decide +kernel
theorem dX9_copy_130 : decode cX9_copy 130 = .ok (.istore 6, 2) := by decide +kernel
theorem dX9_copy_132 : decode cX9_copy 132 = .ok (.iload 6, 2) := by decide +kernel
theorem dX9_copy_134 : decode cX9_copy 134 = .ok (.iload 5, 2) := by decide +kernel
theorem dX9_copy_136 : decode cX9_copy 136 = .ok (.if_icmp .ge 61, 3) := by decide +kernel
theorem dX9_copy_139 : decode cX9_copy 139 = .ok (.aload_n 0, 1) := by decide +kernel
theorem dX9_copy_140 : decode cX9_copy 140 = .ok (.getfield 65, 3) := by decide +kernel
theorem dX9_copy_143 : decode cX9_copy 143 = .ok (.iload 6, 2) := by decide +kernel
theorem dX9_copy_145 : decode cX9_copy 145 = .ok (.iaload, 1) := by decide +kernel
theorem dX9_copy_146 : decode cX9_copy 146 = .ok (.iload_n 2, 1) := by decide +kernel
theorem dX9_copy_147 : decode cX9_copy 147 = .ok (.if_icmp .ne 44, 3) := by decide +kernel
theorem dX9_copy_150 : decode cX9_copy 150 = .ok (.iload 4, 2) := by decide +kernel
theorem dX9_copy_152 : decode cX9_copy 152 = .ok (.ifCond .eq 36, 3) := by decide +kernel
theorem dX9_copy_155 : decode cX9_copy 155 = .ok (.aload_n 0, 1) := by decide +kernel
theorem dX9_copy_156 : decode cX9_copy 156 = .ok (.iload_n 3, 1) := by decide +kernel
theorem dX9_copy_157 : decode cX9_copy 157 = .ok (.aload_n 0, 1) := by decide +kernel
theorem dX9_copy_158 : decode cX9_copy 158 = .ok (.getfield 68, 3) := by decide +kernel
theorem dX9_copy_161 : decode cX9_copy 161 = .ok (.iload 6, 2) := by decide +kernel
theorem dX9_copy_163 : decode cX9_copy 163 = .ok (.iaload, 1) := by decide +kernel
theorem dX9_copy_164 : decode cX9_copy 164 = .ok (.aload_n 0, 1) := by decide +kernel
theorem dX9_copy_165 : decode cX9_copy 165 = .ok (.getfield 71, 3) := by decide +kernel
theorem dX9_copy_168 : decode cX9_copy 168 = .ok (.iload 6, 2) := by decide +kernel
theorem dX9_copy_170 : decode cX9_copy 170 = .ok (.iaload, 1) := by decide +kernel
theorem dX9_copy_171 : decode cX9_copy 171 = .ok (.aload_n 0, 1) := by decide +kernel
theorem dX9_copy_172 : decode cX9_copy 172 = .ok (.getfield 74, 3) := by decide +kernel
theorem dX9_copy_175 : decode cX9_copy 175 = .ok (.iload 6, 2) := by decide +kernel
theorem dX9_copy_177 : decode cX9_copy 177 = .ok (.iaload, 1) := by decide +kernel
theorem dX9_copy_178 : decode cX9_copy 178 = .ok (.invokevirtual 209, 3) := by decide +kernel
theorem dX9_copy_181 : decode cX9_copy 181 = .ok (.ifCond .eq 7, 3) := by decide +kernel
theorem dX9_copy_184 : decode cX9_copy 184 = .ok (.iconst 1, 1) := by decide +kernel
theorem dX9_copy_185 : decode cX9_copy 185 = .ok (.goto 4, 3) := by decide +kernel
theorem dX9_copy_188 : decode cX9_copy 188 = .ok (.iconst 0, 1) := by decide +kernel
theorem dX9_copy_189 : decode cX9_copy 189 = .ok (.istore 4, 2) := by decide +kernel
theorem dX9_copy_191 : decode cX9_copy 191 = .ok (.iinc 6 1, 3) := by decide +kernel
theorem dX9_copy_194 : decode cX9_copy 194 = .ok (.goto (-62), 3) := by decide +kernel
theorem dX9_copy_197 : decode cX9_copy 197 = .ok (.iload 4, 2) := by decide +kernel
theorem dX9_copy_199 : decode cX9_copy 199 = .ok (.ifCond .eq 7, 3) := by decide +kernel
theorem dX9_copy_202 : decode cX9_copy 202 = .ok (.iconst 0, 1) := by decide +kernel
theorem dX9_copy_203 : decode cX9_copy 203 = .ok (.goto 4, 3) := by decide +kernel
theorem dX9_copy_206 : decode cX9_copy 206 = .ok (.iconst 4, 1) := by decide +kernel
theorem dX9_copy_207 : decode cX9_copy 207 = .ok (.ireturn, 1) := by decide +kernel
theorem dX9_readFile_0 : decode cX9_readFile 0 = .ok (.aload_n 0, 1) := by decide +kernel
theorem dX9_readFile_1 : decode cX9_readFile 1 = .ok (.getfield 13, 3) := by decide +kernel
theorem dX9_readFile_4 : decode cX9_readFile 4 = .ok (.iload_n 1, 1) := by decide +kernel
theorem dX9_readFile_5 : decode cX9_readFile 5 = .ok (.iaload, 1) := by decide +kernel
theorem dX9_readFile_6 : decode cX9_readFile 6 = .ok (.istore_n 2, 1) := by decide +kernel
theorem dX9_readFile_7 : decode cX9_readFile 7 = .ok (.aload_n 0, 1) := by decide +kernel
theorem dX9_readFile_8 : decode cX9_readFile 8 = .ok (.getfield 62, 3) := by decide +kernel
theorem dX9_readFile_11 : decode cX9_readFile 11 = .ok (.iload_n 2, 1) := by decide +kernel
theorem dX9_readFile_12 : decode cX9_readFile 12 = .ok (.baload, 1) := by decide +kernel
theorem dX9_readFile_13 : decode cX9_readFile 13 = .ok (.ifCond .eq 5, 3) := by decide +kernel
theorem dX9_readFile_16 : decode cX9_readFile 16 = .ok (.iconst 3, 1) := by decide +kernel
theorem dX9_readFile_17 : decode cX9_readFile 17 = .ok (.ireturn, 1) := by decide +kernel
theorem dX9_readFile_18 : decode cX9_readFile 18 = .ok (.aload_n 0, 1) := by decide +kernel
theorem dX9_readFile_19 : decode cX9_readFile 19 = .ok (.getfield 77, 3) := by decide +kernel
theorem dX9_readFile_22 : decode cX9_readFile 22 = .ok (.aload_n 0, 1) := by decide +kernel
theorem dX9_readFile_23 : decode cX9_readFile 23 = .ok (.getfield 16, 3) := by decide +kernel
theorem dX9_readFile_26 : decode cX9_readFile 26 = .ok (.iload_n 1, 1) := by decide +kernel
theorem dX9_readFile_27 : decode cX9_readFile 27 = .ok (.iaload, 1) := by decide +kernel
theorem dX9_readFile_28 : decode cX9_readFile 28 = .ok (.iconst 1, 1) := by decide +kernel
theorem dX9_readFile_29 : decode cX9_readFile 29 = .ok (.bastore, 1) := by decide +kernel
theorem dX9_readFile_30 : decode cX9_readFile 30 = .ok (.iconst 1, 1) := by decide +kernel
theorem dX9_readFile_31 : decode cX9_readFile 31 = .ok (.istore_n 3, 1) := by decide +kernel
theorem dX9_readFile_32 : decode cX9_readFile 32 = .ok (.bipush 10, 2) := by decide +kernel
theorem dX9_readFile_34 : decode cX9_readFile 34 = .ok (.iload_n 2, 1) := by decide +kernel
theorem dX9_readFile_35 : decode cX9_readFile 35 = .ok (.imul, 1) := by decide +kernel
theorem dX9_readFile_36 : decode cX9_readFile 36 = .ok (.istore 4, 2) := by decide +kernel
theorem dX9_readFile_38 : decode cX9_readFile 38 = .ok (.iload 4, 2) := by decide +kernel
theorem dX9_readFile_40 : decode cX9_readFile 40 = .ok (.bipush 10, 2) := by decide +kernel
theorem dX9_readFile_42 : decode cX9_readFile 42 = .ok (.iload_n 2, 1) := by decide +kernel
theorem dX9_readFile_43 : decode cX9_readFile 43 = .ok (.imul, 1) := by decide +kernel
theorem dX9_readFile_44 : decode cX9_readFile 44 = .ok (.aload_n 0, 1) := by decide +kernel
theorem dX9_readFile_45 : decode cX9_readFile 45 = .ok (.getfield 50, 3) := by decide +kernel
theorem dX9_readFile_48 : decode cX9_readFile 48 = .ok (.iload_n 2, 1) := by decide +kernel
theorem dX9_readFile_49 : decode cX9_readFile 49 = .ok (.iaload, 1) := by decide +kernel
theorem dX9_readFile_50 : decode cX9_readFile 50 = .ok (.iadd, 1) := by decide +kernel
theorem dX9_readFile_51 : decode cX9_readFile 51 = .ok (.if_icmp .ge 53, 3) := by decide +kernel
theorem dX9_readFile_54 : decode cX9_readFile 54 = .ok (.iload_n 3, 1) := by decide +kernel
theorem dX9_readFile_55 : decode cX9_readFile 55 = .ok (.ifCond .eq 41, 3) := by decide +kernel
theorem dX9_readFile_58 : decode cX9_readFile 58 = .ok (.aload_n 0, 1) := by decide +kernel
theorem dX9_readFile_59 : decode cX9_readFile 59 = .ok (.aload_n 0, 1) := by decide +kernel
theorem dX9_readFile_60 : decode cX9_readFile 60 = .ok (.getfield 16, 3) := by decide +kernel
theorem dX9_readFile_63 : decode cX9_readFile 63 = .ok (.iload_n 1, 1) := by decide +kernel
theorem dX9_readFile_64 : decode cX9_readFile 64 = .ok (.iaload, 1) := by decide +kernel
theorem dX9_readFile_65 : decode cX9_readFile 65 = .ok (.aload_n 0, 1) := by decide +kernel
theorem dX9_readFile_66 : decode cX9_readFile 66 = .ok (.getfield 53, 3) := by decide +kernel
theorem dX9_readFile_69 : decode cX9_readFile 69 = .ok (.iload 4, 2) := by decide +kernel
theorem dX9_readFile_71 : decode cX9_readFile 71 = .ok (.iaload, 1) := by decide +kernel
theorem dX9_readFile_72 : decode cX9_readFile 72 = .ok (.aload_n 0, 1) := by decide +kernel
theorem dX9_readFile_73 : decode cX9_readFile 73 = .ok (.getfield 56, 3) := by decide +kernel
theorem dX9_readFile_76 : decode cX9_readFile 76 = .ok (.iload 4, 2) := by decide +kernel
theorem dX9_readFile_78 : decode cX9_readFile 78 = .ok (.iaload, 1) := by decide +kernel
theorem dX9_readFile_79 : decode cX9_readFile 79 = .ok (.aload_n 0, 1) := by decide +kernel
theorem dX9_readFile_80 : decode cX9_readFile 80 = .ok (.getfield 59, 3) := by decide +kernel
theorem dX9_readFile_83 : decode cX9_readFile 83 = .ok (.iload 4, 2) := by decide +kernel
theorem dX9_readFile_85 : decode cX9_readFile 85 = .ok (.iaload, 1) := by decide +kernel
theorem dX9_readFile_86 : decode cX9_readFile 86 = .ok (.invokevirtual 209, 3) := by decide +kernel
theorem dX9_readFile_89 : decode cX9_readFile 89 = .ok (.ifCond .eq 7, 3) := by decide +kernel
theorem dX9_readFile_92 : decode cX9_readFile 92 = .ok (.iconst 1, 1) := by decide +kernel
theorem dX9_readFile_93 : decode cX9_readFile 93 = .ok (.goto 4, 3) := by decide +kernel
theorem dX9_readFile_96 : decode cX9_readFile 96 = .ok (.iconst 0, 1) := by decide +kernel
theorem dX9_readFile_97 : decode cX9_readFile 97 = .ok (.istore_n 3, 1) := by decide +kernel
theorem dX9_readFile_98 : decode cX9_readFile 98 = .ok (.iinc 4 1, 3) := by decide +kernel
theorem dX9_readFile_101 : decode cX9_readFile 101 = .ok (.goto (-63), 3) := by decide +kernel
theorem dX9_readFile_104 : decode cX9_readFile 104 = .ok (.iload_n 3, 1) := by decide +kernel
theorem dX9_readFile_105 : decode cX9_readFile 105 = .ok (.ifCond .eq 7, 3) := by decide +kernel
theorem dX9_readFile_108 : decode cX9_readFile 108 = .ok (.iconst 0, 1) := by decide +kernel
theorem dX9_readFile_109 : decode cX9_readFile 109 = .ok (.goto 4, 3) := by decide +kernel
theorem dX9_readFile_112 : decode cX9_readFile 112 = .ok (.iconst 4, 1) := by decide +kernel
theorem dX9_readFile_113 : decode cX9_readFile 113 = .ok (.ireturn, 1) := by decide +kernel
theorem dX9_act_0 : decode cX9_act 0 = .ok (.aload_n 0, 1) := by decide +kernel
theorem dX9_act_1 : decode cX9_act 1 = .ok (.iconst 1, 1) := by decide +kernel
theorem dX9_act_2 : decode cX9_act 2 = .ok (.putfield 190, 3) := by decide +kernel
theorem dX9_act_5 : decode cX9_act 5 = .ok (.iconst 0, 1) := by decide +kernel
theorem dX9_act_6 : decode cX9_act 6 = .ok (.istore_n 2, 1) := by decide +kernel
theorem dX9_act_7 : decode cX9_act 7 = .ok (.iload_n 2, 1) := by decide +kernel
theorem dX9_act_8 : decode cX9_act 8 = .ok (.iconst 4, 1) := by decide +kernel
theorem dX9_act_9 : decode cX9_act 9 = .ok (.if_icmp .ge 16, 3) := by decide +kernel
theorem dX9_act_12 : decode cX9_act 12 = .ok (.aload_n 0, 1) := by decide +kernel
theorem dX9_act_13 : decode cX9_act 13 = .ok (.getfield 117, 3) := by decide +kernel
theorem dX9_act_16 : decode cX9_act 16 = .ok (.iload_n 2, 1) := by decide +kernel
theorem dX9_act_17 : decode cX9_act 17 = .ok (.iconst (-1), 1) := by decide +kernel
theorem dX9_act_18 : decode cX9_act 18 = .ok (.iastore, 1) := by decide +kernel
theorem dX9_act_19 : decode cX9_act 19 = .ok (.iinc 2 1, 3) := by decide +kernel
theorem dX9_act_22 : decode cX9_act 22 = .ok (.goto (-15), 3) := by decide +kernel
theorem dX9_act_25 : decode cX9_act 25 = .ok (.aload_n 0, 1) := by decide +kernel
theorem dX9_act_26 : decode cX9_act 26 = .ok (.getfield 7, 3) := by decide +kernel
theorem dX9_act_29 : decode cX9_act 29 = .ok (.iload_n 1, 1) := by decide +kernel
theorem dX9_act_30 : decode cX9_act 30 = .ok (.iaload, 1) := by decide +kernel
theorem dX9_act_31 : decode cX9_act 31 = .ok (.tableswitch 132 0 9 #[53, 68, 76, 82, 89, 119, 132, 132, 132, 126], 53) := by decide +kernel
theorem dX9_act_84 : decode cX9_act 84 = .ok (.aload_n 0, 1) := by decide +kernel
theorem dX9_act_85 : decode cX9_act 85 = .ok (.iload_n 1, 1) := by decide +kernel
theorem dX9_act_86 : decode cX9_act 86 = .ok (.iconst 0, 1) := by decide +kernel
theorem dX9_act_87 : decode cX9_act 87 = .ok (.invokevirtual 225, 3) := by decide +kernel
theorem dX9_act_90 : decode cX9_act 90 = .ok (.ifCond .eq 7, 3) := by decide +kernel
theorem dX9_act_93 : decode cX9_act 93 = .ok (.iconst 0, 1) := by decide +kernel
theorem dX9_act_94 : decode cX9_act 94 = .ok (.goto 4, 3) := by decide +kernel
theorem dX9_act_97 : decode cX9_act 97 = .ok (.iconst 4, 1) := by decide +kernel
theorem dX9_act_98 : decode cX9_act 98 = .ok (.ireturn, 1) := by decide +kernel
theorem dX9_act_99 : decode cX9_act 99 = .ok (.aload_n 0, 1) := by decide +kernel
theorem dX9_act_100 : decode cX9_act 100 = .ok (.iload_n 1, 1) := by decide +kernel
theorem dX9_act_101 : decode cX9_act 101 = .ok (.iconst 0, 1) := by decide +kernel
theorem dX9_act_102 : decode cX9_act 102 = .ok (.invokevirtual 221, 3) := by decide +kernel
theorem dX9_act_105 : decode cX9_act 105 = .ok (.iconst 0, 1) := by decide +kernel
theorem dX9_act_106 : decode cX9_act 106 = .ok (.ireturn, 1) := by decide +kernel
theorem dX9_act_107 : decode cX9_act 107 = .ok (.aload_n 0, 1) := by decide +kernel
theorem dX9_act_108 : decode cX9_act 108 = .ok (.iload_n 1, 1) := by decide +kernel
theorem dX9_act_109 : decode cX9_act 109 = .ok (.invokevirtual 231, 3) := by decide +kernel
theorem dX9_act_112 : decode cX9_act 112 = .ok (.ireturn, 1) := by decide +kernel
theorem dX9_act_113 : decode cX9_act 113 = .ok (.aload_n 0, 1) := by decide +kernel
theorem dX9_act_114 : decode cX9_act 114 = .ok (.iload_n 1, 1) := by decide +kernel
theorem dX9_act_115 : decode cX9_act 115 = .ok (.iconst 0, 1) := by decide +kernel
theorem dX9_act_116 : decode cX9_act 116 = .ok (.invokevirtual 234, 3) := by decide +kernel
theorem dX9_act_119 : decode cX9_act 119 = .ok (.ireturn, 1) := by decide +kernel
theorem dX9_act_120 : decode cX9_act 120 = .ok (.aload_n 0, 1) := by decide +kernel
theorem dX9_act_121 : decode cX9_act 121 = .ok (.getfield 77, 3) := by decide +kernel
theorem dX9_act_124 : decode cX9_act 124 = .ok (.aload_n 0, 1) := by decide +kernel
theorem dX9_act_125 : decode cX9_act 125 = .ok (.getfield 16, 3) := by decide +kernel
theorem dX9_act_128 : decode cX9_act 128 = .ok (.iload_n 1, 1) := by decide +kernel
theorem dX9_act_129 : decode cX9_act 129 = .ok (.iaload, 1) := by decide +kernel
theorem dX9_act_130 : decode cX9_act 130 = .ok (.baload, 1) := by decide +kernel
theorem dX9_act_131 : decode cX9_act 131 = .ok (.ifCond .eq 5, 3) := by decide +kernel
theorem dX9_act_134 : decode cX9_act 134 = .ok (.iconst 1, 1) := by decide +kernel
theorem dX9_act_135 : decode cX9_act 135 = .ok (.ireturn, 1) := by decide +kernel
theorem dX9_act_136 : decode cX9_act 136 = .ok (.aload_n 0, 1) := by decide +kernel
theorem dX9_act_137 : decode cX9_act 137 = .ok (.getfield 77, 3) := by decide +kernel
theorem dX9_act_140 : decode cX9_act 140 = .ok (.aload_n 0, 1) := by decide +kernel
theorem dX9_act_141 : decode cX9_act 141 = .ok (.getfield 16, 3) := by decide +kernel
theorem dX9_act_144 : decode cX9_act 144 = .ok (.iload_n 1, 1) := by decide +kernel
theorem dX9_act_145 : decode cX9_act 145 = .ok (.iaload, 1) := by decide +kernel
theorem dX9_act_146 : decode cX9_act 146 = .ok (.iconst 1, 1) := by decide +kernel
theorem dX9_act_147 : decode cX9_act 147 = .ok (.bastore, 1) := by decide +kernel
theorem dX9_act_148 : decode cX9_act 148 = .ok (.iconst 0, 1) := by decide +kernel
theorem dX9_act_149 : decode cX9_act 149 = .ok (.ireturn, 1) := by decide +kernel
theorem dX9_act_150 : decode cX9_act 150 = .ok (.aload_n 0, 1) := by decide +kernel
theorem dX9_act_151 : decode cX9_act 151 = .ok (.iload_n 1, 1) := by decide +kernel
theorem dX9_act_152 : decode cX9_act 152 = .ok (.iconst 1, 1) := by decide +kernel
theorem dX9_act_153 : decode cX9_act 153 = .ok (.invokevirtual 234, 3) := by decide +kernel
theorem dX9_act_156 : decode cX9_act 156 = .ok (.ireturn, 1) := by decide +kernel
theorem dX9_act_157 : decode cX9_act 157 = .ok (.aload_n 0, 1) := by decide +kernel
theorem dX9_act_158 : decode cX9_act 158 = .ok (.iload_n 1, 1) := by decide +kernel
theorem dX9_act_159 : decode cX9_act 159 = .ok (.invokevirtual 238, 3) := by decide +kernel
theorem dX9_act_162 : decode cX9_act 162 = .ok (.ireturn, 1) := by decide +kernel
theorem dX9_act_163 : decode cX9_act 163 = .ok (.aload_n 0, 1) := by decide +kernel
theorem dX9_act_164 : decode cX9_act 164 = .ok (.iload_n 1, 1) := by decide +kernel
theorem dX9_act_165 : decode cX9_act 165 = .ok (.invokevirtual 241, 3) := by decide +kernel
theorem dX9_act_168 : decode cX9_act 168 = .ok (.ireturn, 1) := by decide +kernel
theorem dX9_keep_0 : decode cX9_keep 0 = .ok (.aload_n 0, 1) := by decide +kernel
theorem dX9_keep_1 : decode cX9_keep 1 = .ok (.aload_n 0, 1) := by decide +kernel
theorem dX9_keep_2 : decode cX9_keep 2 = .ok (.getfield 160, 3) := by decide +kernel
theorem dX9_keep_5 : decode cX9_keep 5 = .ok (.putfield 244, 3) := by decide +kernel
theorem dX9_keep_8 : decode cX9_keep 8 = .ok (.aload_n 0, 1) := by decide +kernel
theorem dX9_keep_9 : decode cX9_keep 9 = .ok (.aload_n 0, 1) := by decide +kernel
theorem dX9_keep_10 : decode cX9_keep 10 = .ok (.getfield 199, 3) := by decide +kernel
theorem dX9_keep_13 : decode cX9_keep 13 = .ok (.putfield 247, 3) := by decide +kernel
theorem dX9_keep_16 : decode cX9_keep 16 = .ok (.iconst 0, 1) := by decide +kernel
theorem dX9_keep_17 : decode cX9_keep 17 = .ok (.istore_n 1, 1) := by decide +kernel
theorem dX9_keep_18 : decode cX9_keep 18 = .ok (.iload_n 1, 1) := by decide +kernel
theorem dX9_keep_19 : decode cX9_keep 19 = .ok (.aload_n 0, 1) := by decide +kernel
theorem dX9_keep_20 : decode cX9_keep 20 = .ok (.getfield 160, 3) := by decide +kernel
theorem dX9_keep_23 : decode cX9_keep 23 = .ok (.if_icmp .ge 57, 3) := by decide +kernel
theorem dX9_keep_26 : decode cX9_keep 26 = .ok (.aload_n 0, 1) := by decide +kernel
theorem dX9_keep_27 : decode cX9_keep 27 = .ok (.getfield 80, 3) := by decide +kernel
theorem dX9_keep_30 : decode cX9_keep 30 = .ok (.iload_n 1, 1) := by decide +kernel
theorem dX9_keep_31 : decode cX9_keep 31 = .ok (.aload_n 0, 1) := by decide +kernel
theorem dX9_keep_32 : decode cX9_keep 32 = .ok (.getfield 65, 3) := by decide +kernel
theorem dX9_keep_35 : decode cX9_keep 35 = .ok (.iload_n 1, 1) := by decide +kernel
theorem dX9_keep_36 : decode cX9_keep 36 = .ok (.iaload, 1) := by decide +kernel
theorem dX9_keep_37 : decode cX9_keep 37 = .ok (.iastore, 1) := by decide +kernel
theorem dX9_keep_38 : decode cX9_keep 38 = .ok (.aload_n 0, 1) := by decide +kernel
theorem dX9_keep_39 : decode cX9_keep 39 = .ok (.getfield 83, 3) := by decide +kernel
theorem dX9_keep_42 : decode cX9_keep 42 = .ok (.iload_n 1, 1) := by decide +kernel
theorem dX9_keep_43 : decode cX9_keep 43 = .ok (.aload_n 0, 1) := by decide +kernel
theorem dX9_keep_44 : decode cX9_keep 44 = .ok (.getfield 68, 3) := by decide +kernel
theorem dX9_keep_47 : decode cX9_keep 47 = .ok (.iload_n 1, 1) := by decide +kernel
theorem dX9_keep_48 : decode cX9_keep 48 = .ok (.iaload, 1) := by decide +kernel
theorem dX9_keep_49 : decode cX9_keep 49 = .ok (.iastore, 1) := by decide +kernel
theorem dX9_keep_50 : decode cX9_keep 50 = .ok (.aload_n 0, 1) := by decide +kernel
theorem dX9_keep_51 : decode cX9_keep 51 = .ok (.getfield 86, 3) := by decide +kernel
theorem dX9_keep_54 : decode cX9_keep 54 = .ok (.iload_n 1, 1) := by decide +kernel
theorem dX9_keep_55 : decode cX9_keep 55 = .ok (.aload_n 0, 1) := by decide +kernel
theorem dX9_keep_56 : decode cX9_keep 56 = .ok (.getfield 71, 3) := by decide +kernel
theorem dX9_keep_59 : decode cX9_keep 59 = .ok (.iload_n 1, 1) := by decide +kernel
theorem dX9_keep_60 : decode cX9_keep 60 = .ok (.iaload, 1) := by decide +kernel
theorem dX9_keep_61 : decode cX9_keep 61 = .ok (.iastore, 1) := by decide +kernel
theorem dX9_keep_62 : decode cX9_keep 62 = .ok (.aload_n 0, 1) := by decide +kernel
theorem dX9_keep_63 : decode cX9_keep 63 = .ok (.getfield 89, 3) := by decide +kernel
theorem dX9_keep_66 : decode cX9_keep 66 = .ok (.iload_n 1, 1) := by decide +kernel
theorem dX9_keep_67 : decode cX9_keep 67 = .ok (.aload_n 0, 1) := by decide +kernel
theorem dX9_keep_68 : decode cX9_keep 68 = .ok (.getfield 74, 3) := by decide +kernel
theorem dX9_keep_71 : decode cX9_keep 71 = .ok (.iload_n 1, 1) := by decide +kernel
theorem dX9_keep_72 : decode cX9_keep 72 = .ok (.iaload, 1) := by decide +kernel
theorem dX9_keep_73 : decode cX9_keep 73 = .ok (.iastore, 1) := by decide +kernel
theorem dX9_keep_74 : decode cX9_keep 74 = .ok (.iinc 1 1, 3) := by decide +kernel
theorem dX9_keep_77 : decode cX9_keep 77 = .ok (.goto (-59), 3) := by decide +kernel
theorem dX9_keep_80 : decode cX9_keep 80 = .ok (.iconst 0, 1) := by decide +kernel
theorem dX9_keep_81 : decode cX9_keep 81 = .ok (.istore_n 1, 1) := by decide +kernel
theorem dX9_keep_82 : decode cX9_keep 82 = .ok (.iload_n 1, 1) := by decide +kernel
theorem dX9_keep_83 : decode cX9_keep 83 = .ok (.bipush 7, 2) := by decide +kernel
theorem dX9_keep_85 : decode cX9_keep 85 = .ok (.if_icmp .ge 21, 3) := by decide +kernel
theorem dX9_keep_88 : decode cX9_keep 88 = .ok (.aload_n 0, 1) := by decide +kernel
theorem dX9_keep_89 : decode cX9_keep 89 = .ok (.getfield 92, 3) := by decide +kernel
theorem dX9_keep_92 : decode cX9_keep 92 = .ok (.iload_n 1, 1) := by decide +kernel
theorem dX9_keep_93 : decode cX9_keep 93 = .ok (.aload_n 0, 1) := by decide +kernel
theorem dX9_keep_94 : decode cX9_keep 94 = .ok (.getfield 77, 3) := by decide +kernel
theorem dX9_keep_97 : decode cX9_keep 97 = .ok (.iload_n 1, 1) := by decide +kernel
theorem dX9_keep_98 : decode cX9_keep 98 = .ok (.baload, 1) := by decide +kernel
theorem dX9_keep_99 : decode cX9_keep 99 = .ok (.bastore, 1) := by decide +kernel
theorem dX9_keep_100 : decode cX9_keep 100 = .ok (.iinc 1 1, 3) := by decide +kernel
theorem dX9_keep_103 : decode cX9_keep 103 = .ok (.goto (-21), 3) := by decide +kernel
theorem dX9_keep_106 : decode cX9_keep 106 = .ok (.return_, 1) := by decide +kernel
theorem dX9_goBack_0 : decode cX9_goBack 0 = .ok (.aload_n 0, 1) := by decide +kernel
theorem dX9_goBack_1 : decode cX9_goBack 1 = .ok (.aload_n 0, 1) := by decide +kernel
theorem dX9_goBack_2 : decode cX9_goBack 2 = .ok (.getfield 244, 3) := by decide +kernel
theorem dX9_goBack_5 : decode cX9_goBack 5 = .ok (.putfield 160, 3) := by decide +kernel
theorem dX9_goBack_8 : decode cX9_goBack 8 = .ok (.aload_n 0, 1) := by decide +kernel
theorem dX9_goBack_9 : decode cX9_goBack 9 = .ok (.aload_n 0, 1) := by decide +kernel
theorem dX9_goBack_10 : decode cX9_goBack 10 = .ok (.getfield 247, 3) := by decide +kernel
theorem dX9_goBack_13 : decode cX9_goBack 13 = .ok (.putfield 199, 3) := by decide +kernel
theorem dX9_goBack_16 : decode cX9_goBack 16 = .ok (.iconst 0, 1) := by decide +kernel
theorem dX9_goBack_17 : decode cX9_goBack 17 = .ok (.istore_n 1, 1) := by decide +kernel
theorem dX9_goBack_18 : decode cX9_goBack 18 = .ok (.iload_n 1, 1) := by decide +kernel
theorem dX9_goBack_19 : decode cX9_goBack 19 = .ok (.aload_n 0, 1) := by decide +kernel
theorem dX9_goBack_20 : decode cX9_goBack 20 = .ok (.getfield 160, 3) := by decide +kernel
theorem dX9_goBack_23 : decode cX9_goBack 23 = .ok (.if_icmp .ge 57, 3) := by decide +kernel
theorem dX9_goBack_26 : decode cX9_goBack 26 = .ok (.aload_n 0, 1) := by decide +kernel
theorem dX9_goBack_27 : decode cX9_goBack 27 = .ok (.getfield 65, 3) := by decide +kernel
theorem dX9_goBack_30 : decode cX9_goBack 30 = .ok (.iload_n 1, 1) := by decide +kernel
theorem dX9_goBack_31 : decode cX9_goBack 31 = .ok (.aload_n 0, 1) := by decide +kernel
theorem dX9_goBack_32 : decode cX9_goBack 32 = .ok (.getfield 80, 3) := by decide +kernel
theorem dX9_goBack_35 : decode cX9_goBack 35 = .ok (.iload_n 1, 1) := by decide +kernel
theorem dX9_goBack_36 : decode cX9_goBack 36 = .ok (.iaload, 1) := by decide +kernel
theorem dX9_goBack_37 : decode cX9_goBack 37 = .ok (.iastore, 1) := by decide +kernel
theorem dX9_goBack_38 : decode cX9_goBack 38 = .ok (.aload_n 0, 1) := by decide +kernel
theorem dX9_goBack_39 : decode cX9_goBack 39 = .ok (.getfield 68, 3) := by decide +kernel
theorem dX9_goBack_42 : decode cX9_goBack 42 = .ok (.iload_n 1, 1) := by decide +kernel
theorem dX9_goBack_43 : decode cX9_goBack 43 = .ok (.aload_n 0, 1) := by decide +kernel
theorem dX9_goBack_44 : decode cX9_goBack 44 = .ok (.getfield 83, 3) := by decide +kernel
theorem dX9_goBack_47 : decode cX9_goBack 47 = .ok (.iload_n 1, 1) := by decide +kernel
theorem dX9_goBack_48 : decode cX9_goBack 48 = .ok (.iaload, 1) := by decide +kernel
theorem dX9_goBack_49 : decode cX9_goBack 49 = .ok (.iastore, 1) := by decide +kernel
theorem dX9_goBack_50 : decode cX9_goBack 50 = .ok (.aload_n 0, 1) := by decide +kernel
theorem dX9_goBack_51 : decode cX9_goBack 51 = .ok (.getfield 71, 3) := by decide +kernel
theorem dX9_goBack_54 : decode cX9_goBack 54 = .ok (.iload_n 1, 1) := by decide +kernel
theorem dX9_goBack_55 : decode cX9_goBack 55 = .ok (.aload_n 0, 1) := by decide +kernel
theorem dX9_goBack_56 : decode cX9_goBack 56 = .ok (.getfield 86, 3) := by decide +kernel
theorem dX9_goBack_59 : decode cX9_goBack 59 = .ok (.iload_n 1, 1) := by decide +kernel
theorem dX9_goBack_60 : decode cX9_goBack 60 = .ok (.iaload, 1) := by decide +kernel
theorem dX9_goBack_61 : decode cX9_goBack 61 = .ok (.iastore, 1) := by decide +kernel
theorem dX9_goBack_62 : decode cX9_goBack 62 = .ok (.aload_n 0, 1) := by decide +kernel
theorem dX9_goBack_63 : decode cX9_goBack 63 = .ok (.getfield 74, 3) := by decide +kernel
theorem dX9_goBack_66 : decode cX9_goBack 66 = .ok (.iload_n 1, 1) := by decide +kernel
theorem dX9_goBack_67 : decode cX9_goBack 67 = .ok (.aload_n 0, 1) := by decide +kernel
theorem dX9_goBack_68 : decode cX9_goBack 68 = .ok (.getfield 89, 3) := by decide +kernel
theorem dX9_goBack_71 : decode cX9_goBack 71 = .ok (.iload_n 1, 1) := by decide +kernel
theorem dX9_goBack_72 : decode cX9_goBack 72 = .ok (.iaload, 1) := by decide +kernel
theorem dX9_goBack_73 : decode cX9_goBack 73 = .ok (.iastore, 1) := by decide +kernel
theorem dX9_goBack_74 : decode cX9_goBack 74 = .ok (.iinc 1 1, 3) := by decide +kernel
theorem dX9_goBack_77 : decode cX9_goBack 77 = .ok (.goto (-59), 3) := by decide +kernel
theorem dX9_goBack_80 : decode cX9_goBack 80 = .ok (.iconst 0, 1) := by decide +kernel
theorem dX9_goBack_81 : decode cX9_goBack 81 = .ok (.istore_n 1, 1) := by decide +kernel
theorem dX9_goBack_82 : decode cX9_goBack 82 = .ok (.iload_n 1, 1) := by decide +kernel
theorem dX9_goBack_83 : decode cX9_goBack 83 = .ok (.bipush 7, 2) := by decide +kernel
theorem dX9_goBack_85 : decode cX9_goBack 85 = .ok (.if_icmp .ge 21, 3) := by decide +kernel
theorem dX9_goBack_88 : decode cX9_goBack 88 = .ok (.aload_n 0, 1) := by decide +kernel
theorem dX9_goBack_89 : decode cX9_goBack 89 = .ok (.getfield 77, 3) := by decide +kernel
theorem dX9_goBack_92 : decode cX9_goBack 92 = .ok (.iload_n 1, 1) := by decide +kernel
theorem dX9_goBack_93 : decode cX9_goBack 93 = .ok (.aload_n 0, 1) := by decide +kernel
theorem dX9_goBack_94 : decode cX9_goBack 94 = .ok (.getfield 92, 3) := by decide +kernel
theorem dX9_goBack_97 : decode cX9_goBack 97 = .ok (.iload_n 1, 1) := by decide +kernel
theorem dX9_goBack_98 : decode cX9_goBack 98 = .ok (.baload, 1) := by decide +kernel
theorem dX9_goBack_99 : decode cX9_goBack 99 = .ok (.bastore, 1) := by decide +kernel
theorem dX9_goBack_100 : decode cX9_goBack 100 = .ok (.iinc 1 1, 3) := by decide +kernel
theorem dX9_goBack_103 : decode cX9_goBack 103 = .ok (.goto (-21), 3) := by decide +kernel
theorem dX9_goBack_106 : decode cX9_goBack 106 = .ok (.return_, 1) := by decide +kernel
theorem dX9_note_0 : decode cX9_note 0 = .ok (.aload_n 0, 1) := by decide +kernel
theorem dX9_note_1 : decode cX9_note 1 = .ok (.getfield 250, 3) := by decide +kernel
theorem dX9_note_4 : decode cX9_note 4 = .ok (.istore 6, 2) := by decide +kernel
theorem dX9_note_6 : decode cX9_note 6 = .ok (.iload 6, 2) := by decide +kernel
theorem dX9_note_8 : decode cX9_note 8 = .ok (.ifCond .le 105, 3) := by decide +kernel
theorem dX9_note_11 : decode cX9_note 11 = .ok (.aload_n 0, 1) := by decide +kernel
theorem dX9_note_12 : decode cX9_note 12 = .ok (.iload 6, 2) := by decide +kernel
theorem dX9_note_14 : decode cX9_note 14 = .ok (.iconst 1, 1) := by decide +kernel
theorem dX9_note_15 : decode cX9_note 15 = .ok (.isub, 1) := by decide +kernel
theorem dX9_note_16 : decode cX9_note 16 = .ok (.iload_n 1, 1) := by decide +kernel
theorem dX9_note_17 : decode cX9_note 17 = .ok (.iload_n 2, 1) := by decide +kernel
theorem dX9_note_18 : decode cX9_note 18 = .ok (.iload_n 3, 1) := by decide +kernel
theorem dX9_note_19 : decode cX9_note 19 = .ok (.iload 4, 2) := by decide +kernel
theorem dX9_note_21 : decode cX9_note 21 = .ok (.invokevirtual 253, 3) := by decide +kernel
theorem dX9_note_24 : decode cX9_note 24 = .ok (.ifCond .eq 89, 3) := by decide +kernel
theorem dX9_note_27 : decode cX9_note 27 = .ok (.aload_n 0, 1) := by decide +kernel
theorem dX9_note_28 : decode cX9_note 28 = .ok (.getfield 95, 3) := by decide +kernel
theorem dX9_note_31 : decode cX9_note 31 = .ok (.iload 6, 2) := by decide +kernel
end

section
theorem dX0_init_0 : decode cX0_init 0 = .ok (.aload_n 0, 1) := by decide +kernel
theorem dX0_init_1 : decode cX0_init 1 = .ok (.invokespecial 3, 3) := by decide +kernel
theorem dX0_init_4 : decode cX0_init 4 = .ok (.aload_n 0, 1) := by decide +kernel
theorem dX0_init_5 : decode cX0_init 5 = .ok (.sipush 240, 3) := by decide +kernel
theorem dX0_init_8 : decode cX0_init 8 = .ok (.newarray .int, 2) := by decide +kernel
theorem dX0_init_10 : decode cX0_init 10 = .ok (.putfield 9, 3) := by decide +kernel
theorem dX0_init_13 : decode cX0_init 13 = .ok (.aload_n 0, 1) := by decide +kernel
theorem dX0_init_14 : decode cX0_init 14 = .ok (.sipush 240, 3) := by decide +kernel
theorem dX0_init_17 : decode cX0_init 17 = .ok (.newarray .int, 2) := by decide +kernel
theorem dX0_init_19 : decode cX0_init 19 = .ok (.putfield 15, 3) := by decide +kernel
theorem dX0_init_22 : decode cX0_init 22 = .ok (.aload_n 0, 1) := by decide +kernel
theorem dX0_init_23 : decode cX0_init 23 = .ok (.sipush 240, 3) := by decide +kernel
theorem dX0_init_26 : decode cX0_init 26 = .ok (.newarray .int, 2) := by decide +kernel
theorem dX0_init_28 : decode cX0_init 28 = .ok (.putfield 18, 3) := by decide +kernel
theorem dX0_init_31 : decode cX0_init 31 = .ok (.aload_n 0, 1) := by decide +kernel
theorem dX0_init_32 : decode cX0_init 32 = .ok (.iconst 0, 1) := by decide +kernel
theorem dX0_init_33 : decode cX0_init 33 = .ok (.putfield 21, 3) := by decide +kernel
theorem dX0_init_36 : decode cX0_init 36 = .ok (.return_, 1) := by decide +kernel
theorem dX0_compare_0 : decode cX0_compare 0 = .ok (.aload_n 0, 1) := by decide +kernel
theorem dX0_compare_1 : decode cX0_compare 1 = .ok (.iconst 0, 1) := by decide +kernel
theorem dX0_compare_2 : decode cX0_compare 2 = .ok (.putfield 21, 3) := by decide +kernel
theorem dX0_compare_5 : decode cX0_compare 5 = .ok (.iconst 0, 1) := by decide +kernel
theorem dX0_compare_6 : decode cX0_compare 6 = .ok (.istore_n 3, 1) := by decide +kernel
theorem dX0_compare_7 : decode cX0_compare 7 = .ok (.iload_n 3, 1) := by decide +kernel
theorem dX0_compare_8 : decode cX0_compare 8 = .ok (.bipush 7, 2) := by decide +kernel
theorem dX0_compare_10 : decode cX0_compare 10 = .ok (.if_icmp .ge 26, 3) := by decide +kernel
theorem dX0_compare_13 : decode cX0_compare 13 = .ok (.aload_n 0, 1) := by decide +kernel
theorem dX0_compare_14 : decode cX0_compare 14 = .ok (.iload_n 3, 1) := by decide +kernel
theorem dX0_compare_15 : decode cX0_compare 15 = .ok (.aload_n 1, 1) := by decide +kernel
theorem dX0_compare_16 : decode cX0_compare 16 = .ok (.getfield 25, 3) := by decide +kernel
theorem dX0_compare_19 : decode cX0_compare 19 = .ok (.iload_n 3, 1) := by decide +kernel
theorem dX0_compare_20 : decode cX0_compare 20 = .ok (.aaload, 1) := by decide +kernel
theorem dX0_compare_21 : decode cX0_compare 21 = .ok (.aload_n 2, 1) := by decide +kernel
theorem dX0_compare_22 : decode cX0_compare 22 = .ok (.getfield 25, 3) := by decide +kernel
theorem dX0_compare_25 : decode cX0_compare 25 = .ok (.iload_n 3, 1) := by decide +kernel
theorem dX0_compare_26 : decode cX0_compare 26 = .ok (.aaload, 1) := by decide +kernel
theorem dX0_compare_27 : decode cX0_compare 27 = .ok (.invokevirtual 31, 3) := by decide +kernel
theorem dX0_compare_30 : decode cX0_compare 30 = .ok (.iinc 3 1, 3) := by decide +kernel
theorem dX0_compare_33 : decode cX0_compare 33 = .ok (.goto (-26), 3) := by decide +kernel
theorem dX0_compare_36 : decode cX0_compare 36 = .ok (.return_, 1) := by decide +kernel
theorem dX0_compareGraphs_0 : decode cX0_compareGraphs 0 = .ok (.iconst 0, 1) := by decide +kernel
theorem dX0_compareGraphs_1 : decode cX0_compareGraphs 1 = .ok (.istore 4, 2) := by decide +kernel
theorem dX0_compareGraphs_3 : decode cX0_compareGraphs 3 = .ok (.iconst 0, 1) := by decide +kernel
theorem dX0_compareGraphs_4 : decode cX0_compareGraphs 4 = .ok (.istore 5, 2) := by decide +kernel
theorem dX0_compareGraphs_6 : decode cX0_compareGraphs 6 = .ok (.iload 4, 2) := by decide +kernel
theorem dX0_compareGraphs_8 : decode cX0_compareGraphs 8 = .ok (.aload_n 2, 1) := by decide +kernel
theorem dX0_compareGraphs_9 : decode cX0_compareGraphs 9 = .ok (.getfield 35, 3) := by decide +kernel
theorem dX0_compareGraphs_12 : decode cX0_compareGraphs 12 = .ok (.if_icmp .lt 12, 3) := by decide +kernel
theorem dX0_compareGraphs_15 : decode cX0_compareGraphs 15 = .ok (.iload 5, 2) := by decide +kernel
theorem dX0_compareGraphs_17 : decode cX0_compareGraphs 17 = .ok (.aload_n 3, 1) := by decide +kernel
theorem dX0_compareGraphs_18 : decode cX0_compareGraphs 18 = .ok (.getfield 35, 3) := by decide +kernel
theorem dX0_compareGraphs_21 : decode cX0_compareGraphs 21 = .ok (.if_icmp .ge 111, 3) := by decide +kernel
theorem dX0_compareGraphs_24 : decode cX0_compareGraphs 24 = .ok (.iload 5, 2) := by decide +kernel
theorem dX0_compareGraphs_26 : decode cX0_compareGraphs 26 = .ok (.aload_n 3, 1) := by decide +kernel
theorem dX0_compareGraphs_27 : decode cX0_compareGraphs 27 = .ok (.getfield 35, 3) := by decide +kernel
theorem dX0_compareGraphs_30 : decode cX0_compareGraphs 30 = .ok (.if_icmp .ge 29, 3) := by decide +kernel
theorem dX0_compareGraphs_33 : decode cX0_compareGraphs 33 = .ok (.iload 4, 2) := by decide +kernel
theorem dX0_compareGraphs_35 : decode cX0_compareGraphs 35 = .ok (.aload_n 2, 1) := by decide +kernel
theorem dX0_compareGraphs_36 : decode cX0_compareGraphs 36 = .ok (.getfield 35, 3) := by decide +kernel
theorem dX0_compareGraphs_39 : decode cX0_compareGraphs 39 = .ok (.if_icmp .ge 39, 3) := by decide +kernel
theorem dX0_compareGraphs_42 : decode cX0_compareGraphs 42 = .ok (.aload_n 2, 1) := by decide +kernel
theorem dX0_compareGraphs_43 : decode cX0_compareGraphs 43 = .ok (.getfield 40, 3) := by decide +kernel
theorem dX0_compareGraphs_46 : decode cX0_compareGraphs 46 = .ok (.iload 4, 2) := by decide +kernel
theorem dX0_compareGraphs_48 : decode cX0_compareGraphs 48 = .ok (.iaload, 1) := by decide +kernel
theorem dX0_compareGraphs_49 : decode cX0_compareGraphs 49 = .ok (.aload_n 3, 1) := by decide +kernel
theorem dX0_compareGraphs_50 : decode cX0_compareGraphs 50 = .ok (.getfield 40, 3) := by decide +kernel
theorem dX0_compareGraphs_53 : decode cX0_compareGraphs 53 = .ok (.iload 5, 2) := by decide +kernel
theorem dX0_compareGraphs_55 : decode cX0_compareGraphs 55 = .ok (.iaload, 1) := by decide +kernel
theorem dX0_compareGraphs_56 : decode cX0_compareGraphs 56 = .ok (.if_icmp .ge 22, 3) := by decide +kernel
theorem dX0_compareGraphs_59 : decode cX0_compareGraphs 59 = .ok (.aload_n 0, 1) := by decide +kernel
theorem dX0_compareGraphs_60 : decode cX0_compareGraphs 60 = .ok (.iload_n 1, 1) := by decide +kernel
theorem dX0_compareGraphs_61 : decode cX0_compareGraphs 61 = .ok (.aload_n 2, 1) := by decide +kernel
theorem dX0_compareGraphs_62 : decode cX0_compareGraphs 62 = .ok (.getfield 40, 3) := by decide +kernel
theorem dX0_compareGraphs_65 : decode cX0_compareGraphs 65 = .ok (.iload 4, 2) := by decide +kernel
theorem dX0_compareGraphs_67 : decode cX0_compareGraphs 67 = .ok (.iaload, 1) := by decide +kernel
theorem dX0_compareGraphs_68 : decode cX0_compareGraphs 68 = .ok (.iconst 0, 1) := by decide +kernel
theorem dX0_compareGraphs_69 : decode cX0_compareGraphs 69 = .ok (.invokevirtual 43, 3) := by decide +kernel
theorem dX0_compareGraphs_72 : decode cX0_compareGraphs 72 = .ok (.iinc 4 1, 3) := by decide +kernel
theorem dX0_compareGraphs_75 : decode cX0_compareGraphs 75 = .ok (.goto (-69), 3) := by decide +kernel
theorem dX0_compareGraphs_78 : decode cX0_compareGraphs 78 = .ok (.iload 4, 2) := by decide +kernel
theorem dX0_compareGraphs_80 : decode cX0_compareGraphs 80 = .ok (.aload_n 2, 1) := by decide +kernel
theorem dX0_compareGraphs_81 : decode cX0_compareGraphs 81 = .ok (.getfield 35, 3) := by decide +kernel
theorem dX0_compareGraphs_84 : decode cX0_compareGraphs 84 = .ok (.if_icmp .ge 20, 3) := by decide +kernel
theorem dX0_compareGraphs_87 : decode cX0_compareGraphs 87 = .ok (.aload_n 3, 1) := by decide +kernel
theorem dX0_compareGraphs_88 : decode cX0_compareGraphs 88 = .ok (.getfield 40, 3) := by decide +kernel
theorem dX0_compareGraphs_91 : decode cX0_compareGraphs 91 = .ok (.iload 5, 2) := by decide +kernel
theorem dX0_compareGraphs_93 : decode cX0_compareGraphs 93 = .ok (.iaload, 1) := by decide +kernel
theorem dX0_compareGraphs_94 : decode cX0_compareGraphs 94 = .ok (.aload_n 2, 1) := by decide +kernel
theorem dX0_compareGraphs_95 : decode cX0_compareGraphs 95 = .ok (.getfield 40, 3) := by decide +kernel
theorem dX0_compareGraphs_98 : decode cX0_compareGraphs 98 = .ok (.iload 4, 2) := by decide +kernel
theorem dX0_compareGraphs_100 : decode cX0_compareGraphs 100 = .ok (.iaload, 1) := by decide +kernel
theorem dX0_compareGraphs_101 : decode cX0_compareGraphs 101 = .ok (.if_icmp .ge 22, 3) := by decide +kernel
theorem dX0_compareGraphs_104 : decode cX0_compareGraphs 104 = .ok (.aload_n 0, 1) := by decide +kernel
theorem dX0_compareGraphs_105 : decode cX0_compareGraphs 105 = .ok (.iload_n 1, 1) := by decide +kernel
theorem dX0_compareGraphs_106 : decode cX0_compareGraphs 106 = .ok (.aload_n 3, 1) := by decide +kernel
theorem dX0_compareGraphs_107 : decode cX0_compareGraphs 107 = .ok (.getfield 40, 3) := by decide +kernel
theorem dX0_compareGraphs_110 : decode cX0_compareGraphs 110 = .ok (.iload 5, 2) := by decide +kernel
theorem dX0_compareGraphs_112 : decode cX0_compareGraphs 112 = .ok (.iaload, 1) := by decide +kernel
theorem dX0_compareGraphs_113 : decode cX0_compareGraphs 113 = .ok (.iconst 1, 1) := by decide +kernel
theorem dX0_compareGraphs_114 : decode cX0_compareGraphs 114 = .ok (.invokevirtual 43, 3) := by decide +kernel
theorem dX0_compareGraphs_117 : decode cX0_compareGraphs 117 = .ok (.iinc 5 1, 3) := by decide +kernel
theorem dX0_compareGraphs_120 : decode cX0_compareGraphs 120 = .ok (.goto (-114), 3) := by decide +kernel
theorem dX0_compareGraphs_123 : decode cX0_compareGraphs 123 = .ok (.iinc 4 1, 3) := by decide +kernel
theorem dX0_compareGraphs_126 : decode cX0_compareGraphs 126 = .ok (.iinc 5 1, 3) := by decide +kernel
theorem dX0_compareGraphs_129 : decode cX0_compareGraphs 129 = .ok (.goto (-123), 3) := by decide +kernel
theorem dX0_compareGraphs_132 : decode cX0_compareGraphs 132 = .ok (.return_, 1) := by decide +kernel
theorem dX0_note_0 : decode cX0_note 0 = .ok (.aload_n 0, 1) := by decide +kernel
theorem dX0_note_1 : decode cX0_note 1 = .ok (.getfield 21, 3) := by decide +kernel
theorem dX0_note_4 : decode cX0_note 4 = .ok (.sipush 240, 3) := by decide +kernel
theorem dX0_note_7 : decode cX0_note 7 = .ok (.if_icmp .ge 43, 3) := by decide +kernel
theorem dX0_note_10 : decode cX0_note 10 = .ok (.aload_n 0, 1) := by decide +kernel
theorem dX0_note_11 : decode cX0_note 11 = .ok (.getfield 9, 3) := by decide +kernel
theorem dX0_note_14 : decode cX0_note 14 = .ok (.aload_n 0, 1) := by decide +kernel
theorem dX0_note_15 : decode cX0_note 15 = .ok (.getfield 21, 3) := by decide +kernel
theorem dX0_note_18 : decode cX0_note 18 = .ok (.iload_n 1, 1) := by decide +kernel
theorem dX0_note_19 : decode cX0_note 19 = .ok (.iastore, 1) := by decide +kernel
theorem dX0_note_20 : decode cX0_note 20 = .ok (.aload_n 0, 1) := by decide +kernel
theorem dX0_note_21 : decode cX0_note 21 = .ok (.getfield 15, 3) := by decide +kernel
theorem dX0_note_24 : decode cX0_note 24 = .ok (.aload_n 0, 1) := by decide +kernel
theorem dX0_note_25 : decode cX0_note 25 = .ok (.getfield 21, 3) := by decide +kernel
theorem dX0_note_28 : decode cX0_note 28 = .ok (.iload_n 2, 1) := by decide +kernel
theorem dX0_note_29 : decode cX0_note 29 = .ok (.iastore, 1) := by decide +kernel
theorem dX0_note_30 : decode cX0_note 30 = .ok (.aload_n 0, 1) := by decide +kernel
theorem dX0_note_31 : decode cX0_note 31 = .ok (.getfield 18, 3) := by decide +kernel
theorem dX0_note_34 : decode cX0_note 34 = .ok (.aload_n 0, 1) := by decide +kernel
theorem dX0_note_35 : decode cX0_note 35 = .ok (.getfield 21, 3) := by decide +kernel
theorem dX0_note_38 : decode cX0_note 38 = .ok (.iload_n 3, 1) := by decide +kernel
theorem dX0_note_39 : decode cX0_note 39 = .ok (.iastore, 1) := by decide +kernel
theorem dX0_note_40 : decode cX0_note 40 = .ok (.aload_n 0, 1) := by decide +kernel
theorem dX0_note_41 : decode cX0_note 41 = .ok (.dup, 1) := by decide +kernel
theorem dX0_note_42 : decode cX0_note 42 = .ok (.getfield 21, 3) := by decide +kernel
theorem dX0_note_45 : decode cX0_note 45 = .ok (.iconst 1, 1) := by decide +kernel
theorem dX0_note_46 : decode cX0_note 46 = .ok (.iadd, 1) := by decide +kernel
theorem dX0_note_47 : decode cX0_note 47 = .ok (.putfield 21, 3) := by decide +kernel
theorem dX0_note_50 : decode cX0_note 50 = .ok (.return_, 1) := by decide +kernel
theorem dX1_init_0 : decode cX1_init 0 = .ok (.aload_n 0, 1) := by decide +kernel
theorem dX1_init_1 : decode cX1_init 1 = .ok (.invokespecial 3, 3) := by decide +kernel
theorem dX1_init_4 : decode cX1_init 4 = .ok (.aload_n 0, 1) := by decide +kernel
theorem dX1_init_5 : decode cX1_init 5 = .ok (.new 9, 3) := by decide +kernel
theorem dX1_init_8 : decode cX1_init 8 = .ok (.dup, 1) := by decide +kernel
theorem dX1_init_9 : decode cX1_init 9 = .ok (.bipush 10, 2) := by decide +kernel
theorem dX1_init_11 : decode cX1_init 11 = .ok (.invokespecial 11, 3) := by decide +kernel
theorem dX1_init_14 : decode cX1_init 14 = .ok (.putfield 14, 3) := by decide +kernel
theorem dX1_init_17 : decode cX1_init 17 = .ok (.aload_n 0, 1) := by decide +kernel
theorem dX1_init_18 : decode cX1_init 18 = .ok (.iconst 0, 1) := by decide +kernel
theorem dX1_init_19 : decode cX1_init 19 = .ok (.putfield 20, 3) := by decide +kernel
theorem dX1_init_22 : decode cX1_init 22 = .ok (.return_, 1) := by decide +kernel
theorem dX2_init_0 : decode cX2_init 0 = .ok (.aload_n 0, 1) := by decide +kernel
theorem dX2_init_1 : decode cX2_init 1 = .ok (.invokespecial 3, 3) := by decide +kernel
theorem dX2_init_4 : decode cX2_init 4 = .ok (.aload_n 0, 1) := by decide +kernel
theorem dX2_init_5 : decode cX2_init 5 = .ok (.bipush 120, 2) := by decide +kernel
theorem dX2_init_7 : decode cX2_init 7 = .ok (.newarray .int, 2) := by decide +kernel
theorem dX2_init_9 : decode cX2_init 9 = .ok (.putfield 9, 3) := by decide +kernel
theorem dX2_init_12 : decode cX2_init 12 = .ok (.aload_n 0, 1) := by decide +kernel
theorem dX2_init_13 : decode cX2_init 13 = .ok (.iconst 0, 1) := by decide +kernel
theorem dX2_init_14 : decode cX2_init 14 = .ok (.putfield 15, 3) := by decide +kernel
theorem dX2_init_17 : decode cX2_init 17 = .ok (.aload_n 0, 1) := by decide +kernel
theorem dX2_init_18 : decode cX2_init 18 = .ok (.iconst 0, 1) := by decide +kernel
theorem dX2_init_19 : decode cX2_init 19 = .ok (.putfield 19, 3) := by decide +kernel
theorem dX2_init_22 : decode cX2_init 22 = .ok (.return_, 1) := by decide +kernel
theorem dX2_placeOf_0 : decode cX2_placeOf 0 = .ok (.iconst 0, 1) := by decide +kernel
theorem dX2_placeOf_1 : decode cX2_placeOf 1 = .ok (.istore_n 2, 1) := by decide +kernel
theorem dX2_placeOf_2 : decode cX2_placeOf 2 = .ok (.aload_n 0, 1) := by decide +kernel
theorem dX2_placeOf_3 : decode cX2_placeOf 3 = .ok (.getfield 15, 3) := by decide +kernel
theorem dX2_placeOf_6 : decode cX2_placeOf 6 = .ok (.istore_n 3, 1) := by decide +kernel
theorem dX2_placeOf_7 : decode cX2_placeOf 7 = .ok (.iload_n 2, 1) := by decide +kernel
theorem dX2_placeOf_8 : decode cX2_placeOf 8 = .ok (.iload_n 3, 1) := by decide +kernel
theorem dX2_placeOf_9 : decode cX2_placeOf 9 = .ok (.if_icmp .ge 35, 3) := by decide +kernel
theorem dX2_placeOf_12 : decode cX2_placeOf 12 = .ok (.iload_n 2, 1) := by decide +kernel
theorem dX2_placeOf_13 : decode cX2_placeOf 13 = .ok (.iload_n 3, 1) := by decide +kernel
theorem dX2_placeOf_14 : decode cX2_placeOf 14 = .ok (.iadd, 1) := by decide +kernel
theorem dX2_placeOf_15 : decode cX2_placeOf 15 = .ok (.iconst 1, 1) := by decide +kernel
theorem dX2_placeOf_16 : decode cX2_placeOf 16 = .ok (.iushr, 1) := by decide +kernel
theorem dX2_placeOf_17 : decode cX2_placeOf 17 = .ok (.istore 4, 2) := by decide +kernel
theorem dX2_placeOf_19 : decode cX2_placeOf 19 = .ok (.aload_n 0, 1) := by decide +kernel
theorem dX2_placeOf_20 : decode cX2_placeOf 20 = .ok (.getfield 9, 3) := by decide +kernel
theorem dX2_placeOf_23 : decode cX2_placeOf 23 = .ok (.iload 4, 2) := by decide +kernel
theorem dX2_placeOf_25 : decode cX2_placeOf 25 = .ok (.iaload, 1) := by decide +kernel
theorem dX2_placeOf_26 : decode cX2_placeOf 26 = .ok (.iload_n 1, 1) := by decide +kernel
theorem dX2_placeOf_27 : decode cX2_placeOf 27 = .ok (.if_icmp .ge 11, 3) := by decide +kernel
theorem dX2_placeOf_30 : decode cX2_placeOf 30 = .ok (.iload 4, 2) := by decide +kernel
theorem dX2_placeOf_32 : decode cX2_placeOf 32 = .ok (.iconst 1, 1) := by decide +kernel
theorem dX2_placeOf_33 : decode cX2_placeOf 33 = .ok (.iadd, 1) := by decide +kernel
theorem dX2_placeOf_34 : decode cX2_placeOf 34 = .ok (.istore_n 2, 1) := by decide +kernel
theorem dX2_placeOf_35 : decode cX2_placeOf 35 = .ok (.goto 6, 3) := by decide +kernel
theorem dX2_placeOf_38 : decode cX2_placeOf 38 = .ok (.iload 4, 2) := by decide +kernel
theorem dX2_placeOf_40 : decode cX2_placeOf 40 = .ok (.istore_n 3, 1) := by decide +kernel
theorem dX2_placeOf_41 : decode cX2_placeOf 41 = .ok (.goto (-34), 3) := by decide +kernel
theorem dX2_placeOf_44 : decode cX2_placeOf 44 = .ok (.iload_n 2, 1) := by decide +kernel
theorem dX2_placeOf_45 : decode cX2_placeOf 45 = .ok (.ireturn, 1) := by decide +kernel
theorem dX2_holds_0 : decode cX2_holds 0 = .ok (.aload_n 0, 1) := by decide +kernel
theorem dX2_holds_1 : decode cX2_holds 1 = .ok (.iload_n 1, 1) := by decide +kernel
theorem dX2_holds_2 : decode cX2_holds 2 = .ok (.invokevirtual 23, 3) := by decide +kernel
theorem dX2_holds_5 : decode cX2_holds 5 = .ok (.istore_n 2, 1) := by decide +kernel
theorem dX2_holds_6 : decode cX2_holds 6 = .ok (.iload_n 2, 1) := by decide +kernel
theorem dX2_holds_7 : decode cX2_holds 7 = .ok (.aload_n 0, 1) := by decide +kernel
theorem dX2_holds_8 : decode cX2_holds 8 = .ok (.getfield 15, 3) := by decide +kernel
theorem dX2_holds_11 : decode cX2_holds 11 = .ok (.if_icmp .ge 17, 3) := by decide +kernel
theorem dX2_holds_14 : decode cX2_holds 14 = .ok (.aload_n 0, 1) := by decide +kernel
theorem dX2_holds_15 : decode cX2_holds 15 = .ok (.getfield 9, 3) := by decide +kernel
theorem dX2_holds_18 : decode cX2_holds 18 = .ok (.iload_n 2, 1) := by decide +kernel
theorem dX2_holds_19 : decode cX2_holds 19 = .ok (.iaload, 1) := by decide +kernel
theorem dX2_holds_20 : decode cX2_holds 20 = .ok (.iload_n 1, 1) := by decide +kernel
theorem dX2_holds_21 : decode cX2_holds 21 = .ok (.if_icmp .ne 7, 3) := by decide +kernel
theorem dX2_holds_24 : decode cX2_holds 24 = .ok (.iconst 1, 1) := by decide +kernel
theorem dX2_holds_25 : decode cX2_holds 25 = .ok (.goto 4, 3) := by decide +kernel
theorem dX2_holds_28 : decode cX2_holds 28 = .ok (.iconst 0, 1) := by decide +kernel
theorem dX2_holds_29 : decode cX2_holds 29 = .ok (.ireturn, 1) := by decide +kernel
theorem dX2_insert_0 : decode cX2_insert 0 = .ok (.aload_n 0, 1) := by decide +kernel
theorem dX2_insert_1 : decode cX2_insert 1 = .ok (.iload_n 1, 1) := by decide +kernel
theorem dX2_insert_2 : decode cX2_insert 2 = .ok (.invokevirtual 23, 3) := by decide +kernel
theorem dX2_insert_5 : decode cX2_insert 5 = .ok (.istore_n 2, 1) := by decide +kernel
theorem dX2_insert_6 : decode cX2_insert 6 = .ok (.aload_n 0, 1) := by decide +kernel
theorem dX2_insert_7 : decode cX2_insert 7 = .ok (.getfield 15, 3) := by decide +kernel
theorem dX2_insert_10 : decode cX2_insert 10 = .ok (.bipush 120, 2) := by decide +kernel
theorem dX2_insert_12 : decode cX2_insert 12 = .ok (.if_icmp .ge 41, 3) := by decide +kernel
theorem dX2_insert_15 : decode cX2_insert 15 = .ok (.aload_n 0, 1) := by decide +kernel
theorem dX2_insert_16 : decode cX2_insert 16 = .ok (.getfield 9, 3) := by decide +kernel
theorem dX2_insert_19 : decode cX2_insert 19 = .ok (.iload_n 2, 1) := by decide +kernel
theorem dX2_insert_20 : decode cX2_insert 20 = .ok (.aload_n 0, 1) := by decide +kernel
theorem dX2_insert_21 : decode cX2_insert 21 = .ok (.getfield 9, 3) := by decide +kernel
theorem dX2_insert_24 : decode cX2_insert 24 = .ok (.iload_n 2, 1) := by decide +kernel
theorem dX2_insert_25 : decode cX2_insert 25 = .ok (.iconst 1, 1) := by decide +kernel
theorem dX2_insert_26 : decode cX2_insert 26 = .ok (.iadd, 1) := by decide +kernel
theorem dX2_insert_27 : decode cX2_insert 27 = .ok (.aload_n 0, 1) := by decide +kernel
theorem dX2_insert_28 : decode cX2_insert 28 = .ok (.getfield 15, 3) := by decide +kernel
theorem dX2_insert_31 : decode cX2_insert 31 = .ok (.iload_n 2, 1) := by decide +kernel
theorem dX2_insert_32 : decode cX2_insert 32 = .ok (.isub, 1) := by decide +kernel
theorem dX2_insert_33 : decode cX2_insert 33 = .ok (.invokestatic 27, 3) := by decide +kernel
theorem dX2_insert_36 : decode cX2_insert 36 = .ok (.aload_n 0, 1) := by decide +kernel
theorem dX2_insert_37 : decode cX2_insert 37 = .ok (.getfield 9, 3) := by decide +kernel
theorem dX2_insert_40 : decode cX2_insert 40 = .ok (.iload_n 2, 1) := by decide +kernel
theorem dX2_insert_41 : decode cX2_insert 41 = .ok (.iload_n 1, 1) := by decide +kernel
theorem dX2_insert_42 : decode cX2_insert 42 = .ok (.iastore, 1) := by decide +kernel
theorem dX2_insert_43 : decode cX2_insert 43 = .ok (.aload_n 0, 1) := by decide +kernel
theorem dX2_insert_44 : decode cX2_insert 44 = .ok (.dup, 1) := by decide +kernel
theorem dX2_insert_45 : decode cX2_insert 45 = .ok (.getfield 15, 3) := by decide +kernel
theorem dX2_insert_48 : decode cX2_insert 48 = .ok (.iconst 1, 1) := by decide +kernel
theorem dX2_insert_49 : decode cX2_insert 49 = .ok (.iadd, 1) := by decide +kernel
theorem dX2_insert_50 : decode cX2_insert 50 = .ok (.putfield 15, 3) := by decide +kernel
theorem dX2_insert_53 : decode cX2_insert 53 = .ok (.return_, 1) := by decide +kernel
theorem dX2_remove_0 : decode cX2_remove 0 = .ok (.aload_n 0, 1) := by decide +kernel
theorem dX2_remove_1 : decode cX2_remove 1 = .ok (.iload_n 1, 1) := by decide +kernel
theorem dX2_remove_2 : decode cX2_remove 2 = .ok (.invokevirtual 23, 3) := by decide +kernel
theorem dX2_remove_5 : decode cX2_remove 5 = .ok (.istore_n 2, 1) := by decide +kernel
theorem dX2_remove_6 : decode cX2_remove 6 = .ok (.iload_n 2, 1) := by decide +kernel
theorem dX2_remove_7 : decode cX2_remove 7 = .ok (.aload_n 0, 1) := by decide +kernel
theorem dX2_remove_8 : decode cX2_remove 8 = .ok (.getfield 15, 3) := by decide +kernel
theorem dX2_remove_11 : decode cX2_remove 11 = .ok (.if_icmp .ge 46, 3) := by decide +kernel
theorem dX2_remove_14 : decode cX2_remove 14 = .ok (.aload_n 0, 1) := by decide +kernel
theorem dX2_remove_15 : decode cX2_remove 15 = .ok (.getfield 9, 3) := by decide +kernel
theorem dX2_remove_18 : decode cX2_remove 18 = .ok (.iload_n 2, 1) := by decide +kernel
theorem dX2_remove_19 : decode cX2_remove 19 = .ok (.iaload, 1) := by decide +kernel
theorem dX2_remove_20 : decode cX2_remove 20 = .ok (.iload_n 1, 1) := by decide +kernel
theorem dX2_remove_21 : decode cX2_remove 21 = .ok (.if_icmp .ne 36, 3) := by decide +kernel
theorem dX2_remove_24 : decode cX2_remove 24 = .ok (.aload_n 0, 1) := by decide +kernel
theorem dX2_remove_25 : decode cX2_remove 25 = .ok (.getfield 9, 3) := by decide +kernel
theorem dX2_remove_28 : decode cX2_remove 28 = .ok (.iload_n 2, 1) := by decide +kernel
theorem dX2_remove_29 : decode cX2_remove 29 = .ok (.iconst 1, 1) := by decide +kernel
theorem dX2_remove_30 : decode cX2_remove 30 = .ok (.iadd, 1) := by decide +kernel
theorem dX2_remove_31 : decode cX2_remove 31 = .ok (.aload_n 0, 1) := by decide +kernel
theorem dX2_remove_32 : decode cX2_remove 32 = .ok (.getfield 9, 3) := by decide +kernel
theorem dX2_remove_35 : decode cX2_remove 35 = .ok (.iload_n 2, 1) := by decide +kernel
theorem dX2_remove_36 : decode cX2_remove 36 = .ok (.aload_n 0, 1) := by decide +kernel
theorem dX2_remove_37 : decode cX2_remove 37 = .ok (.getfield 15, 3) := by decide +kernel
theorem dX2_remove_40 : decode cX2_remove 40 = .ok (.iload_n 2, 1) := by decide +kernel
theorem dX2_remove_41 : decode cX2_remove 41 = .ok (.isub, 1) := by decide +kernel
theorem dX2_remove_42 : decode cX2_remove 42 = .ok (.iconst 1, 1) := by decide +kernel
theorem dX2_remove_43 : decode cX2_remove 43 = .ok (.isub, 1) := by decide +kernel
theorem dX2_remove_44 : decode cX2_remove 44 = .ok (.invokestatic 27, 3) := by decide +kernel
theorem dX2_remove_47 : decode cX2_remove 47 = .ok (.aload_n 0, 1) := by decide +kernel
theorem dX2_remove_48 : decode cX2_remove 48 = .ok (.dup, 1) := by decide +kernel
theorem dX2_remove_49 : decode cX2_remove 49 = .ok (.getfield 15, 3) := by decide +kernel
theorem dX2_remove_52 : decode cX2_remove 52 = .ok (.iconst 1, 1) := by decide +kernel
theorem dX2_remove_53 : decode cX2_remove 53 = .ok (.isub, 1) := by decide +kernel
theorem dX2_remove_54 : decode cX2_remove 54 = .ok (.putfield 15, 3) := by decide +kernel
theorem dX2_remove_57 : decode cX2_remove 57 = .ok (.return_, 1) := by decide +kernel
theorem dX2_become_0 : decode cX2_become 0 = .ok (.aload_n 1, 1) := by decide +kernel
theorem dX2_become_1 : decode cX2_become 1 = .ok (.getfield 9, 3) := by decide +kernel
theorem dX2_become_4 : decode cX2_become 4 = .ok (.iconst 0, 1) := by decide +kernel
theorem dX2_become_5 : decode cX2_become 5 = .ok (.aload_n 0, 1) := by decide +kernel
theorem dX2_become_6 : decode cX2_become 6 = .ok (.getfield 9, 3) := by decide +kernel
theorem dX2_become_9 : decode cX2_become 9 = .ok (.iconst 0, 1) := by decide +kernel
theorem dX2_become_10 : decode cX2_become 10 = .ok (.aload_n 1, 1) := by decide +kernel
theorem dX2_become_11 : decode cX2_become 11 = .ok (.getfield 15, 3) := by decide +kernel
theorem dX2_become_14 : decode cX2_become 14 = .ok (.invokestatic 27, 3) := by decide +kernel
theorem dX2_become_17 : decode cX2_become 17 = .ok (.aload_n 0, 1) := by decide +kernel
theorem dX2_become_18 : decode cX2_become 18 = .ok (.aload_n 1, 1) := by decide +kernel
theorem dX2_become_19 : decode cX2_become 19 = .ok (.getfield 15, 3) := by decide +kernel
theorem dX2_become_22 : decode cX2_become 22 = .ok (.putfield 15, 3) := by decide +kernel
theorem dX2_become_25 : decode cX2_become 25 = .ok (.aload_n 0, 1) := by decide +kernel
theorem dX2_become_26 : decode cX2_become 26 = .ok (.aload_n 1, 1) := by decide +kernel
theorem dX2_become_27 : decode cX2_become 27 = .ok (.getfield 19, 3) := by decide +kernel
theorem dX2_become_30 : decode cX2_become 30 = .ok (.putfield 19, 3) := by decide +kernel
theorem dX2_become_33 : decode cX2_become 33 = .ok (.return_, 1) := by decide +kernel
theorem dX3_init_0 : decode cX3_init 0 = .ok (.aload_n 0, 1) := by decide +kernel
theorem dX3_init_1 : decode cX3_init 1 = .ok (.invokespecial 1, 3) := by decide +kernel
theorem dX3_init_4 : decode cX3_init 4 = .ok (.aload_n 0, 1) := by decide +kernel
theorem dX3_init_5 : decode cX3_init 5 = .ok (.iconst 0, 1) := by decide +kernel
theorem dX3_init_6 : decode cX3_init 6 = .ok (.putfield 7, 3) := by decide +kernel
theorem dX3_init_9 : decode cX3_init 9 = .ok (.aload_n 0, 1) := by decide +kernel
theorem dX3_init_10 : decode cX3_init 10 = .ok (.iload_n 1, 1) := by decide +kernel
theorem dX3_init_11 : decode cX3_init 11 = .ok (.putfield 13, 3) := by decide +kernel
theorem dX3_init_14 : decode cX3_init 14 = .ok (.aload_n 0, 1) := by decide +kernel
theorem dX3_init_15 : decode cX3_init 15 = .ok (.iconst 3, 1) := by decide +kernel
theorem dX3_init_16 : decode cX3_init 16 = .ok (.iload_n 1, 1) := by decide +kernel
theorem dX3_init_17 : decode cX3_init 17 = .ok (.imul, 1) := by decide +kernel
theorem dX3_init_18 : decode cX3_init 18 = .ok (.newarray .int, 2) := by decide +kernel
theorem dX3_init_20 : decode cX3_init 20 = .ok (.putfield 16, 3) := by decide +kernel
theorem dX3_init_23 : decode cX3_init 23 = .ok (.return_, 1) := by decide +kernel
theorem dX3_isFull_0 : decode cX3_isFull 0 = .ok (.aload_n 0, 1) := by decide +kernel
theorem dX3_isFull_1 : decode cX3_isFull 1 = .ok (.getfield 7, 3) := by decide +kernel
theorem dX3_isFull_4 : decode cX3_isFull 4 = .ok (.aload_n 0, 1) := by decide +kernel
theorem dX3_isFull_5 : decode cX3_isFull 5 = .ok (.getfield 13, 3) := by decide +kernel
theorem dX3_isFull_8 : decode cX3_isFull 8 = .ok (.if_icmp .lt 7, 3) := by decide +kernel
theorem dX3_isFull_11 : decode cX3_isFull 11 = .ok (.iconst 1, 1) := by decide +kernel
theorem dX3_isFull_12 : decode cX3_isFull 12 = .ok (.goto 4, 3) := by decide +kernel
theorem dX3_isFull_15 : decode cX3_isFull 15 = .ok (.iconst 0, 1) := by decide +kernel
theorem dX3_isFull_16 : decode cX3_isFull 16 = .ok (.ireturn, 1) := by decide +kernel
theorem dX3_append_0 : decode cX3_append 0 = .ok (.aload_n 0, 1) := by decide +kernel
theorem dX3_append_1 : decode cX3_append 1 = .ok (.invokevirtual 20, 3) := by decide +kernel
theorem dX3_append_4 : decode cX3_append 4 = .ok (.ifCond .ne 53, 3) := by decide +kernel
theorem dX3_append_7 : decode cX3_append 7 = .ok (.aload_n 0, 1) := by decide +kernel
theorem dX3_append_8 : decode cX3_append 8 = .ok (.getfield 16, 3) := by decide +kernel
theorem dX3_append_11 : decode cX3_append 11 = .ok (.iconst 3, 1) := by decide +kernel
theorem dX3_append_12 : decode cX3_append 12 = .ok (.aload_n 0, 1) := by decide +kernel
theorem dX3_append_13 : decode cX3_append 13 = .ok (.getfield 7, 3) := by decide +kernel
theorem dX3_append_16 : decode cX3_append 16 = .ok (.imul, 1) := by decide +kernel
theorem dX3_append_17 : decode cX3_append 17 = .ok (.iload_n 1, 1) := by decide +kernel
theorem dX3_append_18 : decode cX3_append 18 = .ok (.iastore, 1) := by decide +kernel
theorem dX3_append_19 : decode cX3_append 19 = .ok (.aload_n 0, 1) := by decide +kernel
theorem dX3_append_20 : decode cX3_append 20 = .ok (.getfield 16, 3) := by decide +kernel
theorem dX3_append_23 : decode cX3_append 23 = .ok (.iconst 3, 1) := by decide +kernel
theorem dX3_append_24 : decode cX3_append 24 = .ok (.aload_n 0, 1) := by decide +kernel
theorem dX3_append_25 : decode cX3_append 25 = .ok (.getfield 7, 3) := by decide +kernel
theorem dX3_append_28 : decode cX3_append 28 = .ok (.imul, 1) := by decide +kernel
theorem dX3_append_29 : decode cX3_append 29 = .ok (.iconst 1, 1) := by decide +kernel
theorem dX3_append_30 : decode cX3_append 30 = .ok (.iadd, 1) := by decide +kernel
theorem dX3_append_31 : decode cX3_append 31 = .ok (.iload_n 2, 1) := by decide +kernel
theorem dX3_append_32 : decode cX3_append 32 = .ok (.iastore, 1) := by decide +kernel
theorem dX3_append_33 : decode cX3_append 33 = .ok (.aload_n 0, 1) := by decide +kernel
theorem dX3_append_34 : decode cX3_append 34 = .ok (.getfield 16, 3) := by decide +kernel
theorem dX3_append_37 : decode cX3_append 37 = .ok (.iconst 3, 1) := by decide +kernel
theorem dX3_append_38 : decode cX3_append 38 = .ok (.aload_n 0, 1) := by decide +kernel
theorem dX3_append_39 : decode cX3_append 39 = .ok (.getfield 7, 3) := by decide +kernel
theorem dX3_append_42 : decode cX3_append 42 = .ok (.imul, 1) := by decide +kernel
theorem dX3_append_43 : decode cX3_append 43 = .ok (.iconst 2, 1) := by decide +kernel
theorem dX3_append_44 : decode cX3_append 44 = .ok (.iadd, 1) := by decide +kernel
theorem dX3_append_45 : decode cX3_append 45 = .ok (.iload_n 3, 1) := by decide +kernel
theorem dX3_append_46 : decode cX3_append 46 = .ok (.iastore, 1) := by decide +kernel
theorem dX3_append_47 : decode cX3_append 47 = .ok (.aload_n 0, 1) := by decide +kernel
theorem dX3_append_48 : decode cX3_append 48 = .ok (.dup, 1) := by decide +kernel
theorem dX3_append_49 : decode cX3_append 49 = .ok (.getfield 7, 3) := by decide +kernel
theorem dX3_append_52 : decode cX3_append 52 = .ok (.iconst 1, 1) := by decide +kernel
theorem dX3_append_53 : decode cX3_append 53 = .ok (.iadd, 1) := by decide +kernel
theorem dX3_append_54 : decode cX3_append 54 = .ok (.putfield 7, 3) := by decide +kernel
theorem dX3_append_57 : decode cX3_append 57 = .ok (.aload_n 0, 1) := by decide +kernel
theorem dX3_append_58 : decode cX3_append 58 = .ok (.getfield 7, 3) := by decide +kernel
theorem dX3_append_61 : decode cX3_append 61 = .ok (.ireturn, 1) := by decide +kernel
theorem dX3_subject_0 : decode cX3_subject 0 = .ok (.aload_n 0, 1) := by decide +kernel
theorem dX3_subject_1 : decode cX3_subject 1 = .ok (.getfield 16, 3) := by decide +kernel
theorem dX3_subject_4 : decode cX3_subject 4 = .ok (.iconst 3, 1) := by decide +kernel
theorem dX3_subject_5 : decode cX3_subject 5 = .ok (.iload_n 1, 1) := by decide +kernel
theorem dX3_subject_6 : decode cX3_subject 6 = .ok (.imul, 1) := by decide +kernel
theorem dX3_subject_7 : decode cX3_subject 7 = .ok (.iaload, 1) := by decide +kernel
theorem dX3_subject_8 : decode cX3_subject 8 = .ok (.ireturn, 1) := by decide +kernel
theorem dX3_property_0 : decode cX3_property 0 = .ok (.aload_n 0, 1) := by decide +kernel
theorem dX3_property_1 : decode cX3_property 1 = .ok (.getfield 16, 3) := by decide +kernel
theorem dX3_property_4 : decode cX3_property 4 = .ok (.iconst 3, 1) := by decide +kernel
theorem dX3_property_5 : decode cX3_property 5 = .ok (.iload_n 1, 1) := by decide +kernel
theorem dX3_property_6 : decode cX3_property 6 = .ok (.imul, 1) := by decide +kernel
theorem dX3_property_7 : decode cX3_property 7 = .ok (.iconst 1, 1) := by decide +kernel
theorem dX3_property_8 : decode cX3_property 8 = .ok (.iadd, 1) := by decide +kernel
theorem dX3_property_9 : decode cX3_property 9 = .ok (.iaload, 1) := by decide +kernel
theorem dX3_property_10 : decode cX3_property 10 = .ok (.ireturn, 1) := by decide +kernel
theorem dX3_object_0 : decode cX3_object 0 = .ok (.aload_n 0, 1) := by decide +kernel
theorem dX3_object_1 : decode cX3_object 1 = .ok (.getfield 16, 3) := by decide +kernel
theorem dX3_object_4 : decode cX3_object 4 = .ok (.iconst 3, 1) := by decide +kernel
theorem dX3_object_5 : decode cX3_object 5 = .ok (.iload_n 1, 1) := by decide +kernel
theorem dX3_object_6 : decode cX3_object 6 = .ok (.imul, 1) := by decide +kernel
theorem dX3_object_7 : decode cX3_object 7 = .ok (.iconst 2, 1) := by decide +kernel
theorem dX3_object_8 : decode cX3_object 8 = .ok (.iadd, 1) := by decide +kernel
theorem dX3_object_9 : decode cX3_object 9 = .ok (.iaload, 1) := by decide +kernel
theorem dX3_object_10 : decode cX3_object 10 = .ok (.ireturn, 1) := by decide +kernel
theorem dX4_init_0 : decode cX4_init 0 = .ok (.aload_n 0, 1) := by decide +kernel
theorem dX4_init_1 : decode cX4_init 1 = .ok (.invokespecial 3, 3) := by decide +kernel
theorem dX4_init_4 : decode cX4_init 4 = .ok (.aload_n 0, 1) := by decide +kernel
theorem dX4_init_5 : decode cX4_init 5 = .ok (.iconst 5, 1) := by decide +kernel
theorem dX4_init_6 : decode cX4_init 6 = .ok (.iconst 4, 1) := by decide +kernel
theorem dX4_init_7 : decode cX4_init 7 = .ok (.multianewarray 9 2, 4) := by decide +kernel
theorem dX4_init_11 : decode cX4_init 11 = .ok (.putfield 11, 3) := by decide +kernel
theorem dX4_init_14 : decode cX4_init 14 = .ok (.aload_n 0, 1) := by decide +kernel
theorem dX4_init_15 : decode cX4_init 15 = .ok (.sipush 400, 3) := by decide +kernel
theorem dX4_init_18 : decode cX4_init 18 = .ok (.newarray .int, 2) := by decide +kernel
theorem dX4_init_20 : decode cX4_init 20 = .ok (.putfield 16, 3) := by decide +kernel
theorem dX4_init_23 : decode cX4_init 23 = .ok (.aload_n 0, 1) := by decide +kernel
theorem dX4_init_24 : decode cX4_init 24 = .ok (.iconst 0, 1) := by decide +kernel
theorem dX4_init_25 : decode cX4_init 25 = .ok (.putfield 20, 3) := by decide +kernel
theorem dX4_init_28 : decode cX4_init 28 = .ok (.aload_n 0, 1) := by decide +kernel
theorem dX4_init_29 : decode cX4_init 29 = .ok (.iconst 0, 1) := by decide +kernel
theorem dX4_init_30 : decode cX4_init 30 = .ok (.putfield 24, 3) := by decide +kernel
theorem dX4_init_33 : decode cX4_init 33 = .ok (.return_, 1) := by decide +kernel
theorem dX4_find_0 : decode cX4_find 0 = .ok (.aload_n 0, 1) := by decide +kernel
theorem dX4_find_1 : decode cX4_find 1 = .ok (.iconst 0, 1) := by decide +kernel
theorem dX4_find_2 : decode cX4_find 2 = .ok (.putfield 20, 3) := by decide +kernel
theorem dX4_find_5 : decode cX4_find 5 = .ok (.aload_n 0, 1) := by decide +kernel
theorem dX4_find_6 : decode cX4_find 6 = .ok (.iconst 0, 1) := by decide +kernel
theorem dX4_find_7 : decode cX4_find 7 = .ok (.putfield 24, 3) := by decide +kernel
theorem dX4_find_10 : decode cX4_find 10 = .ok (.aload_n 0, 1) := by decide +kernel
theorem dX4_find_11 : decode cX4_find 11 = .ok (.getfield 11, 3) := by decide +kernel
theorem dX4_find_14 : decode cX4_find 14 = .ok (.iconst 0, 1) := by decide +kernel
theorem dX4_find_15 : decode cX4_find 15 = .ok (.aaload, 1) := by decide +kernel
theorem dX4_find_16 : decode cX4_find 16 = .ok (.iconst (-1), 1) := by decide +kernel
theorem dX4_find_17 : decode cX4_find 17 = .ok (.invokestatic 27, 3) := by decide +kernel
theorem dX4_find_20 : decode cX4_find 20 = .ok (.aload_n 0, 1) := by decide +kernel
theorem dX4_find_21 : decode cX4_find 21 = .ok (.aload_n 1, 1) := by decide +kernel
theorem dX4_find_22 : decode cX4_find 22 = .ok (.aload_n 2, 1) := by decide +kernel
theorem dX4_find_23 : decode cX4_find 23 = .ok (.iconst 0, 1) := by decide +kernel
theorem dX4_find_24 : decode cX4_find 24 = .ok (.invokevirtual 33, 3) := by decide +kernel
theorem dX4_find_27 : decode cX4_find 27 = .ok (.ireturn, 1) := by decide +kernel
theorem dX4_valueIn_0 : decode cX4_valueIn 0 = .ok (.aload_n 0, 1) := by decide +kernel
theorem dX4_valueIn_1 : decode cX4_valueIn 1 = .ok (.getfield 16, 3) := by decide +kernel
theorem dX4_valueIn_4 : decode cX4_valueIn 4 = .ok (.iload_n 1, 1) := by decide +kernel
theorem dX4_valueIn_5 : decode cX4_valueIn 5 = .ok (.iconst 4, 1) := by decide +kernel
theorem dX4_valueIn_6 : decode cX4_valueIn 6 = .ok (.imul, 1) := by decide +kernel
theorem dX4_valueIn_7 : decode cX4_valueIn 7 = .ok (.iconst (-1), 1) := by decide +kernel
theorem dX4_valueIn_8 : decode cX4_valueIn 8 = .ok (.iadd, 1) := by decide +kernel
theorem dX4_valueIn_9 : decode cX4_valueIn 9 = .ok (.iload_n 2, 1) := by decide +kernel
theorem dX4_valueIn_10 : decode cX4_valueIn 10 = .ok (.isub, 1) := by decide +kernel
theorem dX4_valueIn_11 : decode cX4_valueIn 11 = .ok (.iaload, 1) := by decide +kernel
theorem dX4_valueIn_12 : decode cX4_valueIn 12 = .ok (.ireturn, 1) := by decide +kernel
theorem dX4_goOn_0 : decode cX4_goOn 0 = .ok (.iload_n 3, 1) := by decide +kernel
theorem dX4_goOn_1 : decode cX4_goOn 1 = .ok (.aload_n 1, 1) := by decide +kernel
theorem dX4_goOn_2 : decode cX4_goOn 2 = .ok (.getfield 37, 3) := by decide +kernel
theorem dX4_goOn_5 : decode cX4_goOn 5 = .ok (.if_icmp .ge 8, 3) := by decide +kernel
theorem dX4_goOn_8 : decode cX4_goOn 8 = .ok (.iload_n 3, 1) := by decide +kernel
theorem dX4_goOn_9 : decode cX4_goOn 9 = .ok (.iconst 4, 1) := by decide +kernel
theorem dX4_goOn_10 : decode cX4_goOn 10 = .ok (.if_icmp .lt 14, 3) := by decide +kernel
theorem dX4_goOn_13 : decode cX4_goOn 13 = .ok (.aload_n 0, 1) := by decide +kernel
theorem dX4_goOn_14 : decode cX4_goOn 14 = .ok (.aload_n 0, 1) := by decide +kernel
theorem dX4_goOn_15 : decode cX4_goOn 15 = .ok (.getfield 11, 3) := by decide +kernel
theorem dX4_goOn_18 : decode cX4_goOn 18 = .ok (.iload_n 3, 1) := by decide +kernel
theorem dX4_goOn_19 : decode cX4_goOn 19 = .ok (.aaload, 1) := by decide +kernel
theorem dX4_goOn_20 : decode cX4_goOn 20 = .ok (.invokevirtual 42, 3) := by decide +kernel
theorem dX4_goOn_23 : decode cX4_goOn 23 = .ok (.ireturn, 1) := by decide +kernel
theorem dX4_goOn_24 : decode cX4_goOn 24 = .ok (.iconst 1, 1) := by decide +kernel
theorem dX4_goOn_25 : decode cX4_goOn 25 = .ok (.istore 4, 2) := by decide +kernel
theorem dX4_goOn_27 : decode cX4_goOn 27 = .ok (.iconst 0, 1) := by decide +kernel
theorem dX4_goOn_28 : decode cX4_goOn 28 = .ok (.istore 5, 2) := by decide +kernel
theorem dX4_goOn_30 : decode cX4_goOn 30 = .ok (.iload 5, 2) := by decide +kernel
theorem dX4_goOn_32 : decode cX4_goOn 32 = .ok (.aload_n 2, 1) := by decide +kernel
theorem dX4_goOn_33 : decode cX4_goOn 33 = .ok (.getfield 46, 3) := by decide +kernel
theorem dX4_goOn_36 : decode cX4_goOn 36 = .ok (.if_icmp .ge 30, 3) := by decide +kernel
theorem dX4_goOn_39 : decode cX4_goOn 39 = .ok (.iload 4, 2) := by decide +kernel
theorem dX4_goOn_41 : decode cX4_goOn 41 = .ok (.ifCond .eq 25, 3) := by decide +kernel
theorem dX4_goOn_44 : decode cX4_goOn 44 = .ok (.aload_n 0, 1) := by decide +kernel
theorem dX4_goOn_45 : decode cX4_goOn 45 = .ok (.aload_n 1, 1) := by decide +kernel
theorem dX4_goOn_46 : decode cX4_goOn 46 = .ok (.aload_n 2, 1) := by decide +kernel
theorem dX4_goOn_47 : decode cX4_goOn 47 = .ok (.iload_n 3, 1) := by decide +kernel
theorem dX4_goOn_48 : decode cX4_goOn 48 = .ok (.aload_n 2, 1) := by decide +kernel
theorem dX4_goOn_49 : decode cX4_goOn 49 = .ok (.getfield 51, 3) := by decide +kernel
theorem dX4_goOn_52 : decode cX4_goOn 52 = .ok (.iload 5, 2) := by decide +kernel
theorem dX4_goOn_54 : decode cX4_goOn 54 = .ok (.iaload, 1) := by decide +kernel
theorem dX4_goOn_55 : decode cX4_goOn 55 = .ok (.invokevirtual 54, 3) := by decide +kernel
theorem dX4_goOn_58 : decode cX4_goOn 58 = .ok (.istore 4, 2) := by decide +kernel
theorem dX4_goOn_60 : decode cX4_goOn 60 = .ok (.iinc 5 1, 3) := by decide +kernel
theorem dX4_goOn_63 : decode cX4_goOn 63 = .ok (.goto (-33), 3) := by decide +kernel
theorem dX4_goOn_66 : decode cX4_goOn 66 = .ok (.iload 4, 2) := by decide +kernel
theorem dX4_goOn_68 : decode cX4_goOn 68 = .ok (.ireturn, 1) := by decide +kernel
theorem dX4_holdAgainst_0 : decode cX4_holdAgainst 0 = .ok (.aload_n 0, 1) := by decide +kernel
theorem dX4_holdAgainst_1 : decode cX4_holdAgainst 1 = .ok (.dup, 1) := by decide +kernel
theorem dX4_holdAgainst_2 : decode cX4_holdAgainst 2 = .ok (.getfield 24, 3) := by decide +kernel
theorem dX4_holdAgainst_5 : decode cX4_holdAgainst 5 = .ok (.iconst 1, 1) := by decide +kernel
theorem dX4_holdAgainst_6 : decode cX4_holdAgainst 6 = .ok (.iadd, 1) := by decide +kernel
theorem dX4_holdAgainst_7 : decode cX4_holdAgainst 7 = .ok (.putfield 24, 3) := by decide +kernel
theorem dX4_holdAgainst_10 : decode cX4_holdAgainst 10 = .ok (.aload_n 0, 1) := by decide +kernel
theorem dX4_holdAgainst_11 : decode cX4_holdAgainst 11 = .ok (.getfield 24, 3) := by decide +kernel
theorem dX4_holdAgainst_14 : decode cX4_holdAgainst 14 = .ok (.sipush 5000, 3) := by decide +kernel
theorem dX4_holdAgainst_17 : decode cX4_holdAgainst 17 = .ok (.if_icmp .le 5, 3) := by decide +kernel
theorem dX4_holdAgainst_20 : decode cX4_holdAgainst 20 = .ok (.iconst 0, 1) := by decide +kernel
theorem dX4_holdAgainst_21 : decode cX4_holdAgainst 21 = .ok (.ireturn, 1) := by decide +kernel
theorem dX4_holdAgainst_22 : decode cX4_holdAgainst 22 = .ok (.aload_n 0, 1) := by decide +kernel
theorem dX4_holdAgainst_23 : decode cX4_holdAgainst 23 = .ok (.aload_n 1, 1) := by decide +kernel
theorem dX4_holdAgainst_24 : decode cX4_holdAgainst 24 = .ok (.iload_n 3, 1) := by decide +kernel
theorem dX4_holdAgainst_25 : decode cX4_holdAgainst 25 = .ok (.iload 4, 2) := by decide +kernel
theorem dX4_holdAgainst_27 : decode cX4_holdAgainst 27 = .ok (.invokevirtual 58, 3) := by decide +kernel
theorem dX4_holdAgainst_30 : decode cX4_holdAgainst 30 = .ok (.ifCond .eq 15, 3) := by decide +kernel
theorem dX4_holdAgainst_33 : decode cX4_holdAgainst 33 = .ok (.aload_n 0, 1) := by decide +kernel
theorem dX4_holdAgainst_34 : decode cX4_holdAgainst 34 = .ok (.aload_n 1, 1) := by decide +kernel
theorem dX4_holdAgainst_35 : decode cX4_holdAgainst 35 = .ok (.aload_n 2, 1) := by decide +kernel
theorem dX4_holdAgainst_36 : decode cX4_holdAgainst 36 = .ok (.iload_n 3, 1) := by decide +kernel
theorem dX4_holdAgainst_37 : decode cX4_holdAgainst 37 = .ok (.iconst 1, 1) := by decide +kernel
theorem dX4_holdAgainst_38 : decode cX4_holdAgainst 38 = .ok (.iadd, 1) := by decide +kernel
theorem dX4_holdAgainst_39 : decode cX4_holdAgainst 39 = .ok (.invokevirtual 33, 3) := by decide +kernel
theorem dX4_holdAgainst_42 : decode cX4_holdAgainst 42 = .ok (.ifCond .eq 7, 3) := by decide +kernel
theorem dX4_holdAgainst_45 : decode cX4_holdAgainst 45 = .ok (.iconst 1, 1) := by decide +kernel
theorem dX4_holdAgainst_46 : decode cX4_holdAgainst 46 = .ok (.goto 4, 3) := by decide +kernel
theorem dX4_holdAgainst_49 : decode cX4_holdAgainst 49 = .ok (.iconst 0, 1) := by decide +kernel
theorem dX4_holdAgainst_50 : decode cX4_holdAgainst 50 = .ok (.ireturn, 1) := by decide +kernel
theorem dX4_keep_0 : decode cX4_keep 0 = .ok (.aload_n 0, 1) := by decide +kernel
theorem dX4_keep_1 : decode cX4_keep 1 = .ok (.dup, 1) := by decide +kernel
theorem dX4_keep_2 : decode cX4_keep 2 = .ok (.getfield 20, 3) := by decide +kernel
theorem dX4_keep_5 : decode cX4_keep 5 = .ok (.iconst 1, 1) := by decide +kernel
theorem dX4_keep_6 : decode cX4_keep 6 = .ok (.iadd, 1) := by decide +kernel
theorem dX4_keep_7 : decode cX4_keep 7 = .ok (.putfield 20, 3) := by decide +kernel
theorem dX4_keep_10 : decode cX4_keep 10 = .ok (.aload_n 0, 1) := by decide +kernel
theorem dX4_keep_11 : decode cX4_keep 11 = .ok (.getfield 20, 3) := by decide +kernel
theorem dX4_keep_14 : decode cX4_keep 14 = .ok (.bipush 100, 2) := by decide +kernel
theorem dX4_keep_16 : decode cX4_keep 16 = .ok (.if_icmp .le 5, 3) := by decide +kernel
theorem dX4_keep_19 : decode cX4_keep 19 = .ok (.iconst 0, 1) := by decide +kernel
theorem dX4_keep_20 : decode cX4_keep 20 = .ok (.ireturn, 1) := by decide +kernel
theorem dX4_keep_21 : decode cX4_keep 21 = .ok (.aload_n 1, 1) := by decide +kernel
theorem dX4_keep_22 : decode cX4_keep 22 = .ok (.iconst 0, 1) := by decide +kernel
theorem dX4_keep_23 : decode cX4_keep 23 = .ok (.aload_n 0, 1) := by decide +kernel
theorem dX4_keep_24 : decode cX4_keep 24 = .ok (.getfield 16, 3) := by decide +kernel
theorem dX4_keep_27 : decode cX4_keep 27 = .ok (.aload_n 0, 1) := by decide +kernel
theorem dX4_keep_28 : decode cX4_keep 28 = .ok (.getfield 20, 3) := by decide +kernel
theorem dX4_keep_31 : decode cX4_keep 31 = .ok (.iconst 1, 1) := by decide +kernel
theorem dX4_keep_32 : decode cX4_keep 32 = .ok (.isub, 1) := by decide +kernel
theorem dX4_keep_33 : decode cX4_keep 33 = .ok (.iconst 4, 1) := by decide +kernel
theorem dX4_keep_34 : decode cX4_keep 34 = .ok (.imul, 1) := by decide +kernel
theorem dX4_keep_35 : decode cX4_keep 35 = .ok (.iconst 4, 1) := by decide +kernel
theorem dX4_keep_36 : decode cX4_keep 36 = .ok (.invokestatic 62, 3) := by decide +kernel
theorem dX4_keep_39 : decode cX4_keep 39 = .ok (.iconst 1, 1) := by decide +kernel
theorem dX4_keep_40 : decode cX4_keep 40 = .ok (.ireturn, 1) := by decide +kernel
theorem dX4_fits_0 : decode cX4_fits 0 = .ok (.aload_n 0, 1) := by decide +kernel
theorem dX4_fits_1 : decode cX4_fits 1 = .ok (.getfield 11, 3) := by decide +kernel
theorem dX4_fits_4 : decode cX4_fits 4 = .ok (.iload_n 2, 1) := by decide +kernel
theorem dX4_fits_5 : decode cX4_fits 5 = .ok (.iconst 1, 1) := by decide +kernel
theorem dX4_fits_6 : decode cX4_fits 6 = .ok (.iadd, 1) := by decide +kernel
theorem dX4_fits_7 : decode cX4_fits 7 = .ok (.aaload, 1) := by decide +kernel
theorem dX4_fits_8 : decode cX4_fits 8 = .ok (.astore 4, 2) := by decide +kernel
theorem dX4_fits_10 : decode cX4_fits 10 = .ok (.aload_n 0, 1) := by decide +kernel
theorem dX4_fits_11 : decode cX4_fits 11 = .ok (.getfield 11, 3) := by decide +kernel
theorem dX4_fits_14 : decode cX4_fits 14 = .ok (.iload_n 2, 1) := by decide +kernel
theorem dX4_fits_15 : decode cX4_fits 15 = .ok (.aaload, 1) := by decide +kernel
theorem dX4_fits_16 : decode cX4_fits 16 = .ok (.iconst 0, 1) := by decide +kernel
theorem dX4_fits_17 : decode cX4_fits 17 = .ok (.aload 4, 2) := by decide +kernel
theorem dX4_fits_19 : decode cX4_fits 19 = .ok (.iconst 0, 1) := by decide +kernel
theorem dX4_fits_20 : decode cX4_fits 20 = .ok (.iconst 4, 1) := by decide +kernel
theorem dX4_fits_21 : decode cX4_fits 21 = .ok (.invokestatic 62, 3) := by decide +kernel
theorem dX4_fits_24 : decode cX4_fits 24 = .ok (.aload 4, 2) := by decide +kernel
theorem dX4_fits_26 : decode cX4_fits 26 = .ok (.aload_n 1, 1) := by decide +kernel
theorem dX4_fits_27 : decode cX4_fits 27 = .ok (.iload_n 2, 1) := by decide +kernel
theorem dX4_fits_28 : decode cX4_fits 28 = .ok (.invokevirtual 68, 3) := by decide +kernel
theorem dX4_fits_31 : decode cX4_fits 31 = .ok (.iload_n 3, 1) := by decide +kernel
theorem dX4_fits_32 : decode cX4_fits 32 = .ok (.iconst 0, 1) := by decide +kernel
theorem dX4_fits_33 : decode cX4_fits 33 = .ok (.invokestatic 72, 3) := by decide +kernel
theorem dX4_fits_36 : decode cX4_fits 36 = .ok (.invokestatic 76, 3) := by decide +kernel
theorem dX4_fits_39 : decode cX4_fits 39 = .ok (.ifCond .eq 43, 3) := by decide +kernel
theorem dX4_fits_42 : decode cX4_fits 42 = .ok (.aload 4, 2) := by decide +kernel
theorem dX4_fits_44 : decode cX4_fits 44 = .ok (.aload_n 1, 1) := by decide +kernel
theorem dX4_fits_45 : decode cX4_fits 45 = .ok (.iload_n 2, 1) := by decide +kernel
theorem dX4_fits_46 : decode cX4_fits 46 = .ok (.invokevirtual 80, 3) := by decide +kernel
theorem dX4_fits_49 : decode cX4_fits 49 = .ok (.iload_n 3, 1) := by decide +kernel
theorem dX4_fits_50 : decode cX4_fits 50 = .ok (.iconst 1, 1) := by decide +kernel
theorem dX4_fits_51 : decode cX4_fits 51 = .ok (.invokestatic 72, 3) := by decide +kernel
theorem dX4_fits_54 : decode cX4_fits 54 = .ok (.invokestatic 76, 3) := by decide +kernel
theorem dX4_fits_57 : decode cX4_fits 57 = .ok (.ifCond .eq 25, 3) := by decide +kernel
theorem dX4_fits_60 : decode cX4_fits 60 = .ok (.aload 4, 2) := by decide +kernel
theorem dX4_fits_62 : decode cX4_fits 62 = .ok (.aload_n 1, 1) := by decide +kernel
theorem dX4_fits_63 : decode cX4_fits 63 = .ok (.iload_n 2, 1) := by decide +kernel
theorem dX4_fits_64 : decode cX4_fits 64 = .ok (.invokevirtual 83, 3) := by decide +kernel
theorem dX4_fits_67 : decode cX4_fits 67 = .ok (.iload_n 3, 1) := by decide +kernel
theorem dX4_fits_68 : decode cX4_fits 68 = .ok (.iconst 2, 1) := by decide +kernel
theorem dX4_fits_69 : decode cX4_fits 69 = .ok (.invokestatic 72, 3) := by decide +kernel
theorem dX4_fits_72 : decode cX4_fits 72 = .ok (.invokestatic 76, 3) := by decide +kernel
theorem dX4_fits_75 : decode cX4_fits 75 = .ok (.ifCond .eq 7, 3) := by decide +kernel
theorem dX4_fits_78 : decode cX4_fits 78 = .ok (.iconst 1, 1) := by decide +kernel
theorem dX4_fits_79 : decode cX4_fits 79 = .ok (.goto 4, 3) := by decide +kernel
theorem dX4_fits_82 : decode cX4_fits 82 = .ok (.iconst 0, 1) := by decide +kernel
theorem dX4_fits_83 : decode cX4_fits 83 = .ok (.ireturn, 1) := by decide +kernel
theorem dX4_agrees_0 : decode cX4_agrees 0 = .ok (.iload_n 1, 1) := by decide +kernel
theorem dX4_agrees_1 : decode cX4_agrees 1 = .ok (.ifCond .lt 14, 3) := by decide +kernel
theorem dX4_agrees_4 : decode cX4_agrees 4 = .ok (.iload_n 1, 1) := by decide +kernel
theorem dX4_agrees_5 : decode cX4_agrees 5 = .ok (.iload_n 2, 1) := by decide +kernel
theorem dX4_agrees_6 : decode cX4_agrees 6 = .ok (.if_icmp .ne 7, 3) := by decide +kernel
theorem dX4_agrees_9 : decode cX4_agrees 9 = .ok (.iconst 1, 1) := by decide +kernel
theorem dX4_agrees_10 : decode cX4_agrees 10 = .ok (.goto 4, 3) := by decide +kernel
theorem dX4_agrees_13 : decode cX4_agrees 13 = .ok (.iconst 0, 1) := by decide +kernel
theorem dX4_agrees_14 : decode cX4_agrees 14 = .ok (.ireturn, 1) := by decide +kernel
theorem dX4_agrees_15 : decode cX4_agrees 15 = .ok (.iconst (-1), 1) := by decide +kernel
theorem dX4_agrees_16 : decode cX4_agrees 16 = .ok (.iload_n 1, 1) := by decide +kernel
theorem dX4_agrees_17 : decode cX4_agrees 17 = .ok (.isub, 1) := by decide +kernel
theorem dX4_agrees_18 : decode cX4_agrees 18 = .ok (.istore_n 3, 1) := by decide +kernel
theorem dX4_agrees_19 : decode cX4_agrees 19 = .ok (.aload_n 0, 1) := by decide +kernel
theorem dX4_agrees_20 : decode cX4_agrees 20 = .ok (.iload_n 3, 1) := by decide +kernel
theorem dX4_agrees_21 : decode cX4_agrees 21 = .ok (.iaload, 1) := by decide +kernel
theorem dX4_agrees_22 : decode cX4_agrees 22 = .ok (.iconst (-1), 1) := by decide +kernel
theorem dX4_agrees_23 : decode cX4_agrees 23 = .ok (.if_icmp .ne 7, 3) := by decide +kernel
theorem dX4_agrees_26 : decode cX4_agrees 26 = .ok (.aload_n 0, 1) := by decide +kernel
theorem dX4_agrees_27 : decode cX4_agrees 27 = .ok (.iload_n 3, 1) := by decide +kernel
theorem dX4_agrees_28 : decode cX4_agrees 28 = .ok (.iload_n 2, 1) := by decide +kernel
theorem dX4_agrees_29 : decode cX4_agrees 29 = .ok (.iastore, 1) := by decide +kernel
theorem dX4_agrees_30 : decode cX4_agrees 30 = .ok (.aload_n 0, 1) := by decide +kernel
theorem dX4_agrees_31 : decode cX4_agrees 31 = .ok (.iload_n 3, 1) := by decide +kernel
theorem dX4_agrees_32 : decode cX4_agrees 32 = .ok (.iaload, 1) := by decide +kernel
theorem dX4_agrees_33 : decode cX4_agrees 33 = .ok (.iload_n 2, 1) := by decide +kernel
theorem dX4_agrees_34 : decode cX4_agrees 34 = .ok (.if_icmp .ne 7, 3) := by decide +kernel
theorem dX4_agrees_37 : decode cX4_agrees 37 = .ok (.iconst 1, 1) := by decide +kernel
theorem dX4_agrees_38 : decode cX4_agrees 38 = .ok (.goto 4, 3) := by decide +kernel
theorem dX4_agrees_41 : decode cX4_agrees 41 = .ok (.iconst 0, 1) := by decide +kernel
theorem dX4_agrees_42 : decode cX4_agrees 42 = .ok (.ireturn, 1) := by decide +kernel
theorem dX5_init_0 : decode cX5_init 0 = .ok (.aload_n 0, 1) := by decide +kernel
theorem dX5_init_1 : decode cX5_init 1 = .ok (.invokespecial 3, 3) := by decide +kernel
theorem dX5_init_4 : decode cX5_init 4 = .ok (.aload_n 0, 1) := by decide +kernel
theorem dX5_init_5 : decode cX5_init 5 = .ok (.new 9, 3) := by decide +kernel
theorem dX5_init_8 : decode cX5_init 8 = .ok (.dup, 1) := by decide +kernel
theorem dX5_init_9 : decode cX5_init 9 = .ok (.bipush 6, 2) := by decide +kernel
theorem dX5_init_11 : decode cX5_init 11 = .ok (.invokespecial 11, 3) := by decide +kernel
theorem dX5_init_14 : decode cX5_init 14 = .ok (.putfield 14, 3) := by decide +kernel
theorem dX5_init_17 : decode cX5_init 17 = .ok (.aload_n 0, 1) := by decide +kernel
theorem dX5_init_18 : decode cX5_init 18 = .ok (.bipush 6, 2) := by decide +kernel
theorem dX5_init_20 : decode cX5_init 20 = .ok (.newarray .boolean, 2) := by decide +kernel
theorem dX5_init_22 : decode cX5_init 22 = .ok (.putfield 20, 3) := by decide +kernel
theorem dX5_init_25 : decode cX5_init 25 = .ok (.aload_n 0, 1) := by decide +kernel
theorem dX5_init_26 : decode cX5_init 26 = .ok (.new 9, 3) := by decide +kernel
theorem dX5_init_29 : decode cX5_init 29 = .ok (.dup, 1) := by decide +kernel
theorem dX5_init_30 : decode cX5_init 30 = .ok (.iconst 4, 1) := by decide +kernel
theorem dX5_init_31 : decode cX5_init 31 = .ok (.invokespecial 11, 3) := by decide +kernel
theorem dX5_init_34 : decode cX5_init 34 = .ok (.putfield 24, 3) := by decide +kernel
theorem dX5_init_37 : decode cX5_init 37 = .ok (.aload_n 0, 1) := by decide +kernel
theorem dX5_init_38 : decode cX5_init 38 = .ok (.iconst 0, 1) := by decide +kernel
theorem dX5_init_39 : decode cX5_init 39 = .ok (.putfield 27, 3) := by decide +kernel
theorem dX5_init_42 : decode cX5_init 42 = .ok (.aload_n 0, 1) := by decide +kernel
theorem dX5_init_43 : decode cX5_init 43 = .ok (.iconst 0, 1) := by decide +kernel
theorem dX5_init_44 : decode cX5_init 44 = .ok (.putfield 31, 3) := by decide +kernel
theorem dX5_init_47 : decode cX5_init 47 = .ok (.aload_n 0, 1) := by decide +kernel
theorem dX5_init_48 : decode cX5_init 48 = .ok (.iconst 0, 1) := by decide +kernel
theorem dX5_init_49 : decode cX5_init 49 = .ok (.putfield 34, 3) := by decide +kernel
theorem dX5_init_52 : decode cX5_init 52 = .ok (.aload_n 0, 1) := by decide +kernel
theorem dX5_init_53 : decode cX5_init 53 = .ok (.iconst 0, 1) := by decide +kernel
theorem dX5_init_54 : decode cX5_init 54 = .ok (.putfield 37, 3) := by decide +kernel
theorem dX5_init_57 : decode cX5_init 57 = .ok (.aload_n 0, 1) := by decide +kernel
theorem dX5_init_58 : decode cX5_init 58 = .ok (.iconst (-1), 1) := by decide +kernel
theorem dX5_init_59 : decode cX5_init 59 = .ok (.putfield 41, 3) := by decide +kernel
theorem dX5_init_62 : decode cX5_init 62 = .ok (.return_, 1) := by decide +kernel
theorem dX5_begin_0 : decode cX5_begin 0 = .ok (.aload_n 0, 1) := by decide +kernel
theorem dX5_begin_1 : decode cX5_begin 1 = .ok (.iload_n 1, 1) := by decide +kernel
theorem dX5_begin_2 : decode cX5_begin 2 = .ok (.putfield 27, 3) := by decide +kernel
theorem dX5_begin_5 : decode cX5_begin 5 = .ok (.aload_n 0, 1) := by decide +kernel
theorem dX5_begin_6 : decode cX5_begin 6 = .ok (.iload_n 2, 1) := by decide +kernel
theorem dX5_begin_7 : decode cX5_begin 7 = .ok (.putfield 31, 3) := by decide +kernel
theorem dX5_begin_10 : decode cX5_begin 10 = .ok (.aload_n 0, 1) := by decide +kernel
theorem dX5_begin_11 : decode cX5_begin 11 = .ok (.iload_n 3, 1) := by decide +kernel
theorem dX5_begin_12 : decode cX5_begin 12 = .ok (.putfield 34, 3) := by decide +kernel
theorem dX5_begin_15 : decode cX5_begin 15 = .ok (.aload_n 0, 1) := by decide +kernel
theorem dX5_begin_16 : decode cX5_begin 16 = .ok (.iconst 0, 1) := by decide +kernel
theorem dX5_begin_17 : decode cX5_begin 17 = .ok (.putfield 37, 3) := by decide +kernel
theorem dX5_begin_20 : decode cX5_begin 20 = .ok (.aload_n 0, 1) := by decide +kernel
theorem dX5_begin_21 : decode cX5_begin 21 = .ok (.iconst (-1), 1) := by decide +kernel
theorem dX5_begin_22 : decode cX5_begin 22 = .ok (.putfield 41, 3) := by decide +kernel
theorem dX5_begin_25 : decode cX5_begin 25 = .ok (.aload_n 0, 1) := by decide +kernel
theorem dX5_begin_26 : decode cX5_begin 26 = .ok (.getfield 14, 3) := by decide +kernel
theorem dX5_begin_29 : decode cX5_begin 29 = .ok (.iconst 0, 1) := by decide +kernel
theorem dX5_begin_30 : decode cX5_begin 30 = .ok (.putfield 44, 3) := by decide +kernel
theorem dX5_begin_33 : decode cX5_begin 33 = .ok (.aload_n 0, 1) := by decide +kernel
theorem dX5_begin_34 : decode cX5_begin 34 = .ok (.getfield 24, 3) := by decide +kernel
theorem dX5_begin_37 : decode cX5_begin 37 = .ok (.iconst 0, 1) := by decide +kernel
theorem dX5_begin_38 : decode cX5_begin 38 = .ok (.putfield 44, 3) := by decide +kernel
theorem dX5_begin_41 : decode cX5_begin 41 = .ok (.return_, 1) := by decide +kernel
theorem dX5_addTemplate_0 : decode cX5_addTemplate 0 = .ok (.aload_n 0, 1) := by decide +kernel
theorem dX5_addTemplate_1 : decode cX5_addTemplate 1 = .ok (.getfield 14, 3) := by decide +kernel
theorem dX5_addTemplate_4 : decode cX5_addTemplate 4 = .ok (.invokevirtual 47, 3) := by decide +kernel
theorem dX5_addTemplate_7 : decode cX5_addTemplate 7 = .ok (.ifCond .ne 17, 3) := by decide +kernel
theorem dX5_addTemplate_10 : decode cX5_addTemplate 10 = .ok (.aload_n 0, 1) := by decide +kernel
theorem dX5_addTemplate_11 : decode cX5_addTemplate 11 = .ok (.getfield 20, 3) := by decide +kernel
theorem dX5_addTemplate_14 : decode cX5_addTemplate 14 = .ok (.aload_n 0, 1) := by decide +kernel
theorem dX5_addTemplate_15 : decode cX5_addTemplate 15 = .ok (.getfield 14, 3) := by decide +kernel
theorem dX5_addTemplate_18 : decode cX5_addTemplate 18 = .ok (.getfield 44, 3) := by decide +kernel
theorem dX5_addTemplate_21 : decode cX5_addTemplate 21 = .ok (.iload 4, 2) := by decide +kernel
theorem dX5_addTemplate_23 : decode cX5_addTemplate 23 = .ok (.bastore, 1) := by decide +kernel
theorem dX5_addTemplate_24 : decode cX5_addTemplate 24 = .ok (.aload_n 0, 1) := by decide +kernel
theorem dX5_addTemplate_25 : decode cX5_addTemplate 25 = .ok (.getfield 14, 3) := by decide +kernel
theorem dX5_addTemplate_28 : decode cX5_addTemplate 28 = .ok (.iload_n 1, 1) := by decide +kernel
theorem dX5_addTemplate_29 : decode cX5_addTemplate 29 = .ok (.iload_n 2, 1) := by decide +kernel
theorem dX5_addTemplate_30 : decode cX5_addTemplate 30 = .ok (.iload_n 3, 1) := by decide +kernel
theorem dX5_addTemplate_31 : decode cX5_addTemplate 31 = .ok (.invokevirtual 51, 3) := by decide +kernel
theorem dX5_addTemplate_34 : decode cX5_addTemplate 34 = .ok (.ireturn, 1) := by decide +kernel
theorem dX6_init_0 : decode cX6_init 0 = .ok (.aload_n 0, 1) := by decide +kernel
theorem dX6_init_1 : decode cX6_init 1 = .ok (.invokespecial 3, 3) := by decide +kernel
theorem dX6_init_4 : decode cX6_init 4 = .ok (.aload_n 0, 1) := by decide +kernel
theorem dX6_init_5 : decode cX6_init 5 = .ok (.bipush 7, 2) := by decide +kernel
theorem dX6_init_7 : decode cX6_init 7 = .ok (.anewarray 9, 3) := by decide +kernel
theorem dX6_init_10 : decode cX6_init 10 = .ok (.putfield 11, 3) := by decide +kernel
theorem dX6_init_13 : decode cX6_init 13 = .ok (.aload_n 0, 1) := by decide +kernel
theorem dX6_init_14 : decode cX6_init 14 = .ok (.iconst 0, 1) := by decide +kernel
theorem dX6_init_15 : decode cX6_init 15 = .ok (.putfield 17, 3) := by decide +kernel
theorem dX6_init_18 : decode cX6_init 18 = .ok (.iconst 0, 1) := by decide +kernel
theorem dX6_init_19 : decode cX6_init 19 = .ok (.istore_n 1, 1) := by decide +kernel
theorem dX6_init_20 : decode cX6_init 20 = .ok (.iload_n 1, 1) := by decide +kernel
theorem dX6_init_21 : decode cX6_init 21 = .ok (.bipush 7, 2) := by decide +kernel
theorem dX6_init_23 : decode cX6_init 23 = .ok (.if_icmp .ge 22, 3) := by decide +kernel
theorem dX6_init_26 : decode cX6_init 26 = .ok (.aload_n 0, 1) := by decide +kernel
theorem dX6_init_27 : decode cX6_init 27 = .ok (.getfield 11, 3) := by decide +kernel
theorem dX6_init_30 : decode cX6_init 30 = .ok (.iload_n 1, 1) := by decide +kernel
theorem dX6_init_31 : decode cX6_init 31 = .ok (.new 9, 3) := by decide +kernel
theorem dX6_init_34 : decode cX6_init 34 = .ok (.dup, 1) := by decide +kernel
theorem dX6_init_35 : decode cX6_init 35 = .ok (.invokespecial 21, 3) := by decide +kernel
theorem dX6_init_38 : decode cX6_init 38 = .ok (.aastore, 1) := by decide +kernel
theorem dX6_init_39 : decode cX6_init 39 = .ok (.iinc 1 1, 3) := by decide +kernel
theorem dX6_init_42 : decode cX6_init 42 = .ok (.goto (-22), 3) := by decide +kernel
theorem dX6_init_45 : decode cX6_init 45 = .ok (.aload_n 0, 1) := by decide +kernel
theorem dX6_init_46 : decode cX6_init 46 = .ok (.getfield 11, 3) := by decide +kernel
theorem dX6_init_49 : decode cX6_init 49 = .ok (.iconst 0, 1) := by decide +kernel
theorem dX6_init_50 : decode cX6_init 50 = .ok (.aaload, 1) := by decide +kernel
theorem dX6_init_51 : decode cX6_init 51 = .ok (.iconst 1, 1) := by decide +kernel
theorem dX6_init_52 : decode cX6_init 52 = .ok (.putfield 22, 3) := by decide +kernel
theorem dX6_init_55 : decode cX6_init 55 = .ok (.return_, 1) := by decide +kernel
theorem dX6_factCount_0 : decode cX6_factCount 0 = .ok (.iconst 0, 1) := by decide +kernel
theorem dX6_factCount_1 : decode cX6_factCount 1 = .ok (.istore_n 1, 1) := by decide +kernel
theorem dX6_factCount_2 : decode cX6_factCount 2 = .ok (.iconst 0, 1) := by decide +kernel
theorem dX6_factCount_3 : decode cX6_factCount 3 = .ok (.istore_n 2, 1) := by decide +kernel
theorem dX6_factCount_4 : decode cX6_factCount 4 = .ok (.iload_n 2, 1) := by decide +kernel
theorem dX6_factCount_5 : decode cX6_factCount 5 = .ok (.bipush 7, 2) := by decide +kernel
theorem dX6_factCount_7 : decode cX6_factCount 7 = .ok (.if_icmp .ge 21, 3) := by decide +kernel
theorem dX6_factCount_10 : decode cX6_factCount 10 = .ok (.iload_n 1, 1) := by decide +kernel
theorem dX6_factCount_11 : decode cX6_factCount 11 = .ok (.aload_n 0, 1) := by decide +kernel
theorem dX6_factCount_12 : decode cX6_factCount 12 = .ok (.getfield 11, 3) := by decide +kernel
theorem dX6_factCount_15 : decode cX6_factCount 15 = .ok (.iload_n 2, 1) := by decide +kernel
theorem dX6_factCount_16 : decode cX6_factCount 16 = .ok (.aaload, 1) := by decide +kernel
theorem dX6_factCount_17 : decode cX6_factCount 17 = .ok (.getfield 26, 3) := by decide +kernel
theorem dX6_factCount_20 : decode cX6_factCount 20 = .ok (.iadd, 1) := by decide +kernel
theorem dX6_factCount_21 : decode cX6_factCount 21 = .ok (.istore_n 1, 1) := by decide +kernel
theorem dX6_factCount_22 : decode cX6_factCount 22 = .ok (.iinc 2 1, 3) := by decide +kernel
theorem dX6_factCount_25 : decode cX6_factCount 25 = .ok (.goto (-21), 3) := by decide +kernel
theorem dX6_factCount_28 : decode cX6_factCount 28 = .ok (.iload_n 1, 1) := by decide +kernel
theorem dX6_factCount_29 : decode cX6_factCount 29 = .ok (.ireturn, 1) := by decide +kernel
theorem dX6_put_0 : decode cX6_put 0 = .ok (.aload_n 1, 1) := by decide +kernel
theorem dX6_put_1 : decode cX6_put 1 = .ok (.iconst 1, 1) := by decide +kernel
theorem dX6_put_2 : decode cX6_put 2 = .ok (.putfield 22, 3) := by decide +kernel
theorem dX6_put_5 : decode cX6_put 5 = .ok (.aload_n 1, 1) := by decide +kernel
theorem dX6_put_6 : decode cX6_put 6 = .ok (.iload_n 2, 1) := by decide +kernel
theorem dX6_put_7 : decode cX6_put 7 = .ok (.invokevirtual 29, 3) := by decide +kernel
theorem dX6_put_10 : decode cX6_put 10 = .ok (.ifCond .eq 5, 3) := by decide +kernel
theorem dX6_put_13 : decode cX6_put 13 = .ok (.iconst 1, 1) := by decide +kernel
theorem dX6_put_14 : decode cX6_put 14 = .ok (.ireturn, 1) := by decide +kernel
theorem dX6_put_15 : decode cX6_put 15 = .ok (.aload_n 0, 1) := by decide +kernel
theorem dX6_put_16 : decode cX6_put 16 = .ok (.invokevirtual 33, 3) := by decide +kernel
theorem dX6_put_19 : decode cX6_put 19 = .ok (.bipush 120, 2) := by decide +kernel
theorem dX6_put_21 : decode cX6_put 21 = .ok (.if_icmp .lt 5, 3) := by decide +kernel
theorem dX6_put_24 : decode cX6_put 24 = .ok (.iconst 0, 1) := by decide +kernel
theorem dX6_put_25 : decode cX6_put 25 = .ok (.ireturn, 1) := by decide +kernel
theorem dX6_put_26 : decode cX6_put 26 = .ok (.aload_n 1, 1) := by decide +kernel
theorem dX6_put_27 : decode cX6_put 27 = .ok (.iload_n 2, 1) := by decide +kernel
theorem dX6_put_28 : decode cX6_put 28 = .ok (.invokevirtual 37, 3) := by decide +kernel
theorem dX6_put_31 : decode cX6_put 31 = .ok (.iconst 1, 1) := by decide +kernel
theorem dX6_put_32 : decode cX6_put 32 = .ok (.ireturn, 1) := by decide +kernel
theorem dX6_drop_0 : decode cX6_drop 0 = .ok (.aload_n 0, 1) := by decide +kernel
theorem dX6_drop_1 : decode cX6_drop 1 = .ok (.getfield 11, 3) := by decide +kernel
theorem dX6_drop_4 : decode cX6_drop 4 = .ok (.iload_n 1, 1) := by decide +kernel
theorem dX6_drop_5 : decode cX6_drop 5 = .ok (.aaload, 1) := by decide +kernel
theorem dX6_drop_6 : decode cX6_drop 6 = .ok (.iconst 0, 1) := by decide +kernel
theorem dX6_drop_7 : decode cX6_drop 7 = .ok (.putfield 26, 3) := by decide +kernel
theorem dX6_drop_10 : decode cX6_drop 10 = .ok (.aload_n 0, 1) := by decide +kernel
theorem dX6_drop_11 : decode cX6_drop 11 = .ok (.getfield 11, 3) := by decide +kernel
theorem dX6_drop_14 : decode cX6_drop 14 = .ok (.iload_n 1, 1) := by decide +kernel
theorem dX6_drop_15 : decode cX6_drop 15 = .ok (.aaload, 1) := by decide +kernel
theorem dX6_drop_16 : decode cX6_drop 16 = .ok (.iload_n 1, 1) := by decide +kernel
theorem dX6_drop_17 : decode cX6_drop 17 = .ok (.ifCond .ne 7, 3) := by decide +kernel
theorem dX6_drop_20 : decode cX6_drop 20 = .ok (.iconst 1, 1) := by decide +kernel
theorem dX6_drop_21 : decode cX6_drop 21 = .ok (.goto 4, 3) := by decide +kernel
theorem dX6_drop_24 : decode cX6_drop 24 = .ok (.iconst 0, 1) := by decide +kernel
theorem dX6_drop_25 : decode cX6_drop 25 = .ok (.putfield 22, 3) := by decide +kernel
theorem dX6_drop_28 : decode cX6_drop 28 = .ok (.return_, 1) := by decide +kernel
theorem dX6_makeBlank_0 : decode cX6_makeBlank 0 = .ok (.aload_n 0, 1) := by decide +kernel
theorem dX6_makeBlank_1 : decode cX6_makeBlank 1 = .ok (.getfield 17, 3) := by decide +kernel
theorem dX6_makeBlank_4 : decode cX6_makeBlank 4 = .ok (.bipush 60, 2) := by decide +kernel
theorem dX6_makeBlank_6 : decode cX6_makeBlank 6 = .ok (.if_icmp .lt 5, 3) := by decide +kernel
theorem dX6_makeBlank_9 : decode cX6_makeBlank 9 = .ok (.iconst (-1), 1) := by decide +kernel
theorem dX6_makeBlank_10 : decode cX6_makeBlank 10 = .ok (.ireturn, 1) := by decide +kernel
theorem dX6_makeBlank_11 : decode cX6_makeBlank 11 = .ok (.aload_n 0, 1) := by decide +kernel
theorem dX6_makeBlank_12 : decode cX6_makeBlank 12 = .ok (.dup, 1) := by decide +kernel
theorem dX6_makeBlank_13 : decode cX6_makeBlank 13 = .ok (.getfield 17, 3) := by decide +kernel
theorem dX6_makeBlank_16 : decode cX6_makeBlank 16 = .ok (.iconst 1, 1) := by decide +kernel
theorem dX6_makeBlank_17 : decode cX6_makeBlank 17 = .ok (.iadd, 1) := by decide +kernel
theorem dX6_makeBlank_18 : decode cX6_makeBlank 18 = .ok (.putfield 17, 3) := by decide +kernel
theorem dX6_makeBlank_21 : decode cX6_makeBlank 21 = .ok (.bipush 100, 2) := by decide +kernel
theorem dX6_makeBlank_23 : decode cX6_makeBlank 23 = .ok (.aload_n 0, 1) := by decide +kernel
theorem dX6_makeBlank_24 : decode cX6_makeBlank 24 = .ok (.getfield 17, 3) := by decide +kernel
theorem dX6_makeBlank_27 : decode cX6_makeBlank 27 = .ok (.iadd, 1) := by decide +kernel
theorem dX6_makeBlank_28 : decode cX6_makeBlank 28 = .ok (.iconst 1, 1) := by decide +kernel
theorem dX6_makeBlank_29 : decode cX6_makeBlank 29 = .ok (.isub, 1) := by decide +kernel
theorem dX6_makeBlank_30 : decode cX6_makeBlank 30 = .ok (.ireturn, 1) := by decide +kernel
theorem dX6_become_0 : decode cX6_become 0 = .ok (.iconst 0, 1) := by decide +kernel
theorem dX6_become_1 : decode cX6_become 1 = .ok (.istore_n 2, 1) := by decide +kernel
theorem dX6_become_2 : decode cX6_become 2 = .ok (.iload_n 2, 1) := by decide +kernel
theorem dX6_become_3 : decode cX6_become 3 = .ok (.bipush 7, 2) := by decide +kernel
theorem dX6_become_5 : decode cX6_become 5 = .ok (.if_icmp .ge 24, 3) := by decide +kernel
theorem dX6_become_8 : decode cX6_become 8 = .ok (.aload_n 0, 1) := by decide +kernel
theorem dX6_become_9 : decode cX6_become 9 = .ok (.getfield 11, 3) := by decide +kernel
theorem dX6_become_12 : decode cX6_become 12 = .ok (.iload_n 2, 1) := by decide +kernel
theorem dX6_become_13 : decode cX6_become 13 = .ok (.aaload, 1) := by decide +kernel
theorem dX6_become_14 : decode cX6_become 14 = .ok (.aload_n 1, 1) := by decide +kernel
theorem dX6_become_15 : decode cX6_become 15 = .ok (.getfield 11, 3) := by decide +kernel
theorem dX6_become_18 : decode cX6_become 18 = .ok (.iload_n 2, 1) := by decide +kernel
theorem dX6_become_19 : decode cX6_become 19 = .ok (.aaload, 1) := by decide +kernel
theorem dX6_become_20 : decode cX6_become 20 = .ok (.invokevirtual 41, 3) := by decide +kernel
theorem dX6_become_23 : decode cX6_become 23 = .ok (.iinc 2 1, 3) := by decide +kernel
theorem dX6_become_26 : decode cX6_become 26 = .ok (.goto (-24), 3) := by decide +kernel
theorem dX6_become_29 : decode cX6_become 29 = .ok (.aload_n 0, 1) := by decide +kernel
theorem dX6_become_30 : decode cX6_become 30 = .ok (.aload_n 1, 1) := by decide +kernel
theorem dX6_become_31 : decode cX6_become 31 = .ok (.getfield 17, 3) := by decide +kernel
theorem dX6_become_34 : decode cX6_become 34 = .ok (.putfield 17, 3) := by decide +kernel
theorem dX6_become_37 : decode cX6_become 37 = .ok (.return_, 1) := by decide +kernel
theorem dX7_init_0 : decode cX7_init 0 = .ok (.aload_n 0, 1) := by decide +kernel
theorem dX7_init_1 : decode cX7_init 1 = .ok (.invokespecial 3, 3) := by decide +kernel
theorem dX7_init_4 : decode cX7_init 4 = .ok (.aload_n 0, 1) := by decide +kernel
theorem dX7_init_5 : decode cX7_init 5 = .ok (.new 9, 3) := by decide +kernel
theorem dX7_init_8 : decode cX7_init 8 = .ok (.dup, 1) := by decide +kernel
theorem dX7_init_9 : decode cX7_init 9 = .ok (.invokespecial 11, 3) := by decide +kernel
theorem dX7_init_12 : decode cX7_init 12 = .ok (.putfield 12, 3) := by decide +kernel
theorem dX7_init_15 : decode cX7_init 15 = .ok (.aload_n 0, 1) := by decide +kernel
theorem dX7_init_16 : decode cX7_init 16 = .ok (.iconst 4, 1) := by decide +kernel
theorem dX7_init_17 : decode cX7_init 17 = .ok (.anewarray 18, 3) := by decide +kernel
theorem dX7_init_20 : decode cX7_init 20 = .ok (.putfield 20, 3) := by decide +kernel
theorem dX7_init_23 : decode cX7_init 23 = .ok (.aload_n 0, 1) := by decide +kernel
theorem dX7_init_24 : decode cX7_init 24 = .ok (.new 24, 3) := by decide +kernel
theorem dX7_init_27 : decode cX7_init 27 = .ok (.dup, 1) := by decide +kernel
theorem dX7_init_28 : decode cX7_init 28 = .ok (.invokespecial 26, 3) := by decide +kernel
theorem dX7_init_31 : decode cX7_init 31 = .ok (.putfield 27, 3) := by decide +kernel
theorem dX7_init_34 : decode cX7_init 34 = .ok (.aload_n 0, 1) := by decide +kernel
theorem dX7_init_35 : decode cX7_init 35 = .ok (.iconst 4, 1) := by decide +kernel
theorem dX7_init_36 : decode cX7_init 36 = .ok (.newarray .int, 2) := by decide +kernel
theorem dX7_init_38 : decode cX7_init 38 = .ok (.putfield 31, 3) := by decide +kernel
theorem dX7_init_41 : decode cX7_init 41 = .ok (.aload_n 0, 1) := by decide +kernel
theorem dX7_init_42 : decode cX7_init 42 = .ok (.iconst 0, 1) := by decide +kernel
theorem dX7_init_43 : decode cX7_init 43 = .ok (.putfield 35, 3) := by decide +kernel
theorem dX7_init_46 : decode cX7_init 46 = .ok (.iconst 0, 1) := by decide +kernel
theorem dX7_init_47 : decode cX7_init 47 = .ok (.istore_n 1, 1) := by decide +kernel
theorem dX7_init_48 : decode cX7_init 48 = .ok (.iload_n 1, 1) := by decide +kernel
theorem dX7_init_49 : decode cX7_init 49 = .ok (.iconst 4, 1) := by decide +kernel
theorem dX7_init_50 : decode cX7_init 50 = .ok (.if_icmp .ge 22, 3) := by decide +kernel
theorem dX7_init_53 : decode cX7_init 53 = .ok (.aload_n 0, 1) := by decide +kernel
theorem dX7_init_54 : decode cX7_init 54 = .ok (.getfield 20, 3) := by decide +kernel
theorem dX7_init_57 : decode cX7_init 57 = .ok (.iload_n 1, 1) := by decide +kernel
theorem dX7_init_58 : decode cX7_init 58 = .ok (.new 18, 3) := by decide +kernel
theorem dX7_init_61 : decode cX7_init 61 = .ok (.dup, 1) := by decide +kernel
theorem dX7_init_62 : decode cX7_init 62 = .ok (.invokespecial 39, 3) := by decide +kernel
theorem dX7_init_65 : decode cX7_init 65 = .ok (.aastore, 1) := by decide +kernel
theorem dX7_init_66 : decode cX7_init 66 = .ok (.iinc 1 1, 3) := by decide +kernel
theorem dX7_init_69 : decode cX7_init 69 = .ok (.goto (-21), 3) := by decide +kernel
theorem dX7_init_72 : decode cX7_init 72 = .ok (.return_, 1) := by decide +kernel
theorem dX7_perform_0 : decode cX7_perform 0 = .ok (.aload_n 1, 1) := by decide +kernel
theorem dX7_perform_1 : decode cX7_perform 1 = .ok (.getfield 40, 3) := by decide +kernel
theorem dX7_perform_4 : decode cX7_perform 4 = .ok (.tableswitch 68 3 9 #[44, 50, 44, 56, 56, 56, 62], 44) := by decide +kernel
theorem dX7_perform_48 : decode cX7_perform 48 = .ok (.aload_n 0, 1) := by decide +kernel
theorem dX7_perform_49 : decode cX7_perform 49 = .ok (.aload_n 1, 1) := by decide +kernel
theorem dX7_perform_50 : decode cX7_perform 50 = .ok (.invokevirtual 45, 3) := by decide +kernel
theorem dX7_perform_53 : decode cX7_perform 53 = .ok (.ireturn, 1) := by decide +kernel
theorem dX7_perform_54 : decode cX7_perform 54 = .ok (.aload_n 0, 1) := by decide +kernel
theorem dX7_perform_55 : decode cX7_perform 55 = .ok (.aload_n 1, 1) := by decide +kernel
theorem dX7_perform_56 : decode cX7_perform 56 = .ok (.invokevirtual 49, 3) := by decide +kernel
theorem dX7_perform_59 : decode cX7_perform 59 = .ok (.ireturn, 1) := by decide +kernel
theorem dX7_perform_60 : decode cX7_perform 60 = .ok (.aload_n 0, 1) := by decide +kernel
theorem dX7_perform_61 : decode cX7_perform 61 = .ok (.aload_n 1, 1) := by decide +kernel
theorem dX7_perform_62 : decode cX7_perform 62 = .ok (.invokevirtual 52, 3) := by decide +kernel
theorem dX7_perform_65 : decode cX7_perform 65 = .ok (.ireturn, 1) := by decide +kernel
theorem dX7_perform_66 : decode cX7_perform 66 = .ok (.aload_n 0, 1) := by decide +kernel
theorem dX7_perform_67 : decode cX7_perform 67 = .ok (.aload_n 1, 1) := by decide +kernel
theorem dX7_perform_68 : decode cX7_perform 68 = .ok (.invokevirtual 55, 3) := by decide +kernel
theorem dX7_perform_71 : decode cX7_perform 71 = .ok (.ireturn, 1) := by decide +kernel
theorem dX7_perform_72 : decode cX7_perform 72 = .ok (.aload_n 0, 1) := by decide +kernel
theorem dX7_perform_73 : decode cX7_perform 73 = .ok (.aload_n 1, 1) := by decide +kernel
theorem dX7_perform_74 : decode cX7_perform 74 = .ok (.invokevirtual 58, 3) := by decide +kernel
theorem dX7_perform_77 : decode cX7_perform 77 = .ok (.ireturn, 1) := by decide +kernel
theorem dX7_takeAllFacts_0 : decode cX7_takeAllFacts 0 = .ok (.aload_n 1, 1) := by decide +kernel
theorem dX7_takeAllFacts_1 : decode cX7_takeAllFacts 1 = .ok (.getfield 61, 3) := by decide +kernel
theorem dX7_takeAllFacts_4 : decode cX7_takeAllFacts 4 = .ok (.invokestatic 64, 3) := by decide +kernel
theorem dX7_takeAllFacts_7 : decode cX7_takeAllFacts 7 = .ok (.istore_n 2, 1) := by decide +kernel
theorem dX7_takeAllFacts_8 : decode cX7_takeAllFacts 8 = .ok (.iload_n 2, 1) := by decide +kernel
theorem dX7_takeAllFacts_9 : decode cX7_takeAllFacts 9 = .ok (.ifCond .eq 23, 3) := by decide +kernel
theorem dX7_takeAllFacts_12 : decode cX7_takeAllFacts 12 = .ok (.aload_n 0, 1) := by decide +kernel
theorem dX7_takeAllFacts_13 : decode cX7_takeAllFacts 13 = .ok (.getfield 12, 3) := by decide +kernel
theorem dX7_takeAllFacts_16 : decode cX7_takeAllFacts 16 = .ok (.getfield 68, 3) := by decide +kernel
theorem dX7_takeAllFacts_19 : decode cX7_takeAllFacts 19 = .ok (.aload_n 1, 1) := by decide +kernel
theorem dX7_takeAllFacts_20 : decode cX7_takeAllFacts 20 = .ok (.getfield 61, 3) := by decide +kernel
theorem dX7_takeAllFacts_23 : decode cX7_takeAllFacts 23 = .ok (.aaload, 1) := by decide +kernel
theorem dX7_takeAllFacts_24 : decode cX7_takeAllFacts 24 = .ok (.getfield 72, 3) := by decide +kernel
theorem dX7_takeAllFacts_27 : decode cX7_takeAllFacts 27 = .ok (.ifCond .ne 5, 3) := by decide +kernel
theorem dX7_takeAllFacts_30 : decode cX7_takeAllFacts 30 = .ok (.iconst 2, 1) := by decide +kernel
theorem dX7_takeAllFacts_31 : decode cX7_takeAllFacts 31 = .ok (.ireturn, 1) := by decide +kernel
theorem dX7_takeAllFacts_32 : decode cX7_takeAllFacts 32 = .ok (.iload_n 2, 1) := by decide +kernel
theorem dX7_takeAllFacts_33 : decode cX7_takeAllFacts 33 = .ok (.ifCond .eq 10, 3) := by decide +kernel
theorem dX7_takeAllFacts_36 : decode cX7_takeAllFacts 36 = .ok (.aload_n 1, 1) := by decide +kernel
theorem dX7_takeAllFacts_37 : decode cX7_takeAllFacts 37 = .ok (.getfield 61, 3) := by decide +kernel
theorem dX7_takeAllFacts_40 : decode cX7_takeAllFacts 40 = .ok (.goto 16, 3) := by decide +kernel
theorem dX7_takeAllFacts_43 : decode cX7_takeAllFacts 43 = .ok (.aload_n 1, 1) := by decide +kernel
theorem dX7_takeAllFacts_44 : decode cX7_takeAllFacts 44 = .ok (.getfield 61, 3) := by decide +kernel
theorem dX7_takeAllFacts_47 : decode cX7_takeAllFacts 47 = .ok (.iconst (-1), 1) := by decide +kernel
theorem dX7_takeAllFacts_48 : decode cX7_takeAllFacts 48 = .ok (.if_icmp .ne 7, 3) := by decide +kernel
theorem dX7_takeAllFacts_51 : decode cX7_takeAllFacts 51 = .ok (.iconst 0, 1) := by decide +kernel
theorem dX7_takeAllFacts_52 : decode cX7_takeAllFacts 52 = .ok (.goto 4, 3) := by decide +kernel
theorem dX7_takeAllFacts_55 : decode cX7_takeAllFacts 55 = .ok (.iconst 1, 1) := by decide +kernel
theorem dX7_takeAllFacts_56 : decode cX7_takeAllFacts 56 = .ok (.istore_n 3, 1) := by decide +kernel
theorem dX7_takeAllFacts_57 : decode cX7_takeAllFacts 57 = .ok (.iload_n 2, 1) := by decide +kernel
theorem dX7_takeAllFacts_58 : decode cX7_takeAllFacts 58 = .ok (.ifCond .eq 10, 3) := by decide +kernel
theorem dX7_takeAllFacts_61 : decode cX7_takeAllFacts 61 = .ok (.aload_n 1, 1) := by decide +kernel
theorem dX7_takeAllFacts_62 : decode cX7_takeAllFacts 62 = .ok (.getfield 61, 3) := by decide +kernel
theorem dX7_takeAllFacts_65 : decode cX7_takeAllFacts 65 = .ok (.goto 5, 3) := by decide +kernel
theorem dX7_takeAllFacts_68 : decode cX7_takeAllFacts 68 = .ok (.bipush 6, 2) := by decide +kernel
theorem dX7_takeAllFacts_70 : decode cX7_takeAllFacts 70 = .ok (.istore 4, 2) := by decide +kernel
theorem dX7_takeAllFacts_72 : decode cX7_takeAllFacts 72 = .ok (.iload_n 3, 1) := by decide +kernel
theorem dX7_takeAllFacts_73 : decode cX7_takeAllFacts 73 = .ok (.istore 5, 2) := by decide +kernel
theorem dX7_takeAllFacts_75 : decode cX7_takeAllFacts 75 = .ok (.iload 5, 2) := by decide +kernel
theorem dX7_takeAllFacts_77 : decode cX7_takeAllFacts 77 = .ok (.iload 4, 2) := by decide +kernel
theorem dX7_takeAllFacts_79 : decode cX7_takeAllFacts 79 = .ok (.if_icmp .gt 43, 3) := by decide +kernel
theorem dX7_takeAllFacts_82 : decode cX7_takeAllFacts 82 = .ok (.aload_n 1, 1) := by decide +kernel
theorem dX7_takeAllFacts_83 : decode cX7_takeAllFacts 83 = .ok (.getfield 40, 3) := by decide +kernel
theorem dX7_takeAllFacts_86 : decode cX7_takeAllFacts 86 = .ok (.iconst 5, 1) := by decide +kernel
theorem dX7_takeAllFacts_87 : decode cX7_takeAllFacts 87 = .ok (.if_icmp .ne 15, 3) := by decide +kernel
theorem dX7_takeAllFacts_90 : decode cX7_takeAllFacts 90 = .ok (.aload_n 0, 1) := by decide +kernel
theorem dX7_takeAllFacts_91 : decode cX7_takeAllFacts 91 = .ok (.getfield 12, 3) := by decide +kernel
theorem dX7_takeAllFacts_94 : decode cX7_takeAllFacts 94 = .ok (.iload 5, 2) := by decide +kernel
theorem dX7_takeAllFacts_96 : decode cX7_takeAllFacts 96 = .ok (.invokevirtual 78, 3) := by decide +kernel
theorem dX7_takeAllFacts_99 : decode cX7_takeAllFacts 99 = .ok (.goto 17, 3) := by decide +kernel
theorem dX7_takeAllFacts_102 : decode cX7_takeAllFacts 102 = .ok (.aload_n 0, 1) := by decide +kernel
theorem dX7_takeAllFacts_103 : decode cX7_takeAllFacts 103 = .ok (.getfield 12, 3) := by decide +kernel
theorem dX7_takeAllFacts_106 : decode cX7_takeAllFacts 106 = .ok (.getfield 68, 3) := by decide +kernel
theorem dX7_takeAllFacts_109 : decode cX7_takeAllFacts 109 = .ok (.iload 5, 2) := by decide +kernel
theorem dX7_takeAllFacts_111 : decode cX7_takeAllFacts 111 = .ok (.aaload, 1) := by decide +kernel
theorem dX7_takeAllFacts_112 : decode cX7_takeAllFacts 112 = .ok (.iconst 0, 1) := by decide +kernel
theorem dX7_takeAllFacts_113 : decode cX7_takeAllFacts 113 = .ok (.putfield 82, 3) := by decide +kernel
theorem dX7_takeAllFacts_116 : decode cX7_takeAllFacts 116 = .ok (.iinc 5 1, 3) := by decide +kernel
theorem dX7_takeAllFacts_119 : decode cX7_takeAllFacts 119 = .ok (.goto (-44), 3) := by decide +kernel
theorem dX7_takeAllFacts_122 : decode cX7_takeAllFacts 122 = .ok (.iconst 0, 1) := by decide +kernel
theorem dX7_takeAllFacts_123 : decode cX7_takeAllFacts 123 = .ok (.ireturn, 1) := by decide +kernel
theorem dX7_makeGraph_0 : decode cX7_makeGraph 0 = .ok (.aload_n 0, 1) := by decide +kernel
theorem dX7_makeGraph_1 : decode cX7_makeGraph 1 = .ok (.getfield 12, 3) := by decide +kernel
theorem dX7_makeGraph_4 : decode cX7_makeGraph 4 = .ok (.getfield 68, 3) := by decide +kernel
theorem dX7_makeGraph_7 : decode cX7_makeGraph 7 = .ok (.aload_n 1, 1) := by decide +kernel
theorem dX7_makeGraph_8 : decode cX7_makeGraph 8 = .ok (.getfield 61, 3) := by decide +kernel
theorem dX7_makeGraph_11 : decode cX7_makeGraph 11 = .ok (.aaload, 1) := by decide +kernel
theorem dX7_makeGraph_12 : decode cX7_makeGraph 12 = .ok (.astore_n 2, 1) := by decide +kernel
theorem dX7_makeGraph_13 : decode cX7_makeGraph 13 = .ok (.aload_n 2, 1) := by decide +kernel
theorem dX7_makeGraph_14 : decode cX7_makeGraph 14 = .ok (.getfield 72, 3) := by decide +kernel
theorem dX7_makeGraph_17 : decode cX7_makeGraph 17 = .ok (.ifCond .eq 5, 3) := by decide +kernel
theorem dX7_makeGraph_20 : decode cX7_makeGraph 20 = .ok (.iconst 1, 1) := by decide +kernel
theorem dX7_makeGraph_21 : decode cX7_makeGraph 21 = .ok (.ireturn, 1) := by decide +kernel
theorem dX7_makeGraph_22 : decode cX7_makeGraph 22 = .ok (.aload_n 2, 1) := by decide +kernel
theorem dX7_makeGraph_23 : decode cX7_makeGraph 23 = .ok (.iconst 1, 1) := by decide +kernel
theorem dX7_makeGraph_24 : decode cX7_makeGraph 24 = .ok (.putfield 72, 3) := by decide +kernel
theorem dX7_makeGraph_27 : decode cX7_makeGraph 27 = .ok (.iconst 0, 1) := by decide +kernel
theorem dX7_makeGraph_28 : decode cX7_makeGraph 28 = .ok (.ireturn, 1) := by decide +kernel
theorem dX7_bringGraph_0 : decode cX7_bringGraph 0 = .ok (.aload_n 0, 1) := by decide +kernel
theorem dX7_bringGraph_1 : decode cX7_bringGraph 1 = .ok (.getfield 12, 3) := by decide +kernel
theorem dX7_bringGraph_4 : decode cX7_bringGraph 4 = .ok (.getfield 68, 3) := by decide +kernel
theorem dX7_bringGraph_7 : decode cX7_bringGraph 7 = .ok (.aload_n 1, 1) := by decide +kernel
theorem dX7_bringGraph_8 : decode cX7_bringGraph 8 = .ok (.getfield 85, 3) := by decide +kernel
theorem dX7_bringGraph_11 : decode cX7_bringGraph 11 = .ok (.aaload, 1) := by decide +kernel
theorem dX7_bringGraph_12 : decode cX7_bringGraph 12 = .ok (.astore_n 2, 1) := by decide +kernel
theorem dX7_bringGraph_13 : decode cX7_bringGraph 13 = .ok (.aload_n 0, 1) := by decide +kernel
theorem dX7_bringGraph_14 : decode cX7_bringGraph 14 = .ok (.getfield 12, 3) := by decide +kernel
theorem dX7_bringGraph_17 : decode cX7_bringGraph 17 = .ok (.getfield 68, 3) := by decide +kernel
theorem dX7_bringGraph_20 : decode cX7_bringGraph 20 = .ok (.aload_n 1, 1) := by decide +kernel
theorem dX7_bringGraph_21 : decode cX7_bringGraph 21 = .ok (.getfield 61, 3) := by decide +kernel
theorem dX7_bringGraph_24 : decode cX7_bringGraph 24 = .ok (.aaload, 1) := by decide +kernel
theorem dX7_bringGraph_25 : decode cX7_bringGraph 25 = .ok (.astore_n 3, 1) := by decide +kernel
theorem dX7_bringGraph_26 : decode cX7_bringGraph 26 = .ok (.aload_n 2, 1) := by decide +kernel
theorem dX7_bringGraph_27 : decode cX7_bringGraph 27 = .ok (.getfield 72, 3) := by decide +kernel
theorem dX7_bringGraph_30 : decode cX7_bringGraph 30 = .ok (.ifCond .ne 5, 3) := by decide +kernel
theorem dX7_bringGraph_33 : decode cX7_bringGraph 33 = .ok (.iconst 2, 1) := by decide +kernel
theorem dX7_bringGraph_34 : decode cX7_bringGraph 34 = .ok (.ireturn, 1) := by decide +kernel
theorem dX7_bringGraph_35 : decode cX7_bringGraph 35 = .ok (.aload_n 1, 1) := by decide +kernel
theorem dX7_bringGraph_36 : decode cX7_bringGraph 36 = .ok (.getfield 85, 3) := by decide +kernel
theorem dX7_bringGraph_39 : decode cX7_bringGraph 39 = .ok (.aload_n 1, 1) := by decide +kernel
theorem dX7_bringGraph_40 : decode cX7_bringGraph 40 = .ok (.getfield 61, 3) := by decide +kernel
theorem dX7_bringGraph_43 : decode cX7_bringGraph 43 = .ok (.if_icmp .ne 5, 3) := by decide +kernel
theorem dX7_bringGraph_46 : decode cX7_bringGraph 46 = .ok (.iconst 0, 1) := by decide +kernel
theorem dX7_bringGraph_47 : decode cX7_bringGraph 47 = .ok (.ireturn, 1) := by decide +kernel
theorem dX7_bringGraph_48 : decode cX7_bringGraph 48 = .ok (.aload_n 1, 1) := by decide +kernel
theorem dX7_bringGraph_49 : decode cX7_bringGraph 49 = .ok (.getfield 40, 3) := by decide +kernel
theorem dX7_bringGraph_52 : decode cX7_bringGraph 52 = .ok (.bipush 8, 2) := by decide +kernel
theorem dX7_bringGraph_54 : decode cX7_bringGraph 54 = .ok (.if_icmp .ne 10, 3) := by decide +kernel
theorem dX7_bringGraph_57 : decode cX7_bringGraph 57 = .ok (.aload_n 0, 1) := by decide +kernel
theorem dX7_bringGraph_58 : decode cX7_bringGraph 58 = .ok (.aload_n 2, 1) := by decide +kernel
theorem dX7_bringGraph_59 : decode cX7_bringGraph 59 = .ok (.aload_n 3, 1) := by decide +kernel
theorem dX7_bringGraph_60 : decode cX7_bringGraph 60 = .ok (.invokevirtual 88, 3) := by decide +kernel
theorem dX7_bringGraph_63 : decode cX7_bringGraph 63 = .ok (.ireturn, 1) := by decide +kernel
theorem dX7_bringGraph_64 : decode cX7_bringGraph 64 = .ok (.aload_n 3, 1) := by decide +kernel
theorem dX7_bringGraph_65 : decode cX7_bringGraph 65 = .ok (.iconst 0, 1) := by decide +kernel
theorem dX7_bringGraph_66 : decode cX7_bringGraph 66 = .ok (.putfield 82, 3) := by decide +kernel
theorem dX7_bringGraph_69 : decode cX7_bringGraph 69 = .ok (.aload_n 1, 1) := by decide +kernel
theorem dX7_bringGraph_70 : decode cX7_bringGraph 70 = .ok (.getfield 40, 3) := by decide +kernel
theorem dX7_bringGraph_73 : decode cX7_bringGraph 73 = .ok (.bipush 6, 2) := by decide +kernel
theorem dX7_bringGraph_75 : decode cX7_bringGraph 75 = .ok (.if_icmp .ne 22, 3) := by decide +kernel
theorem dX7_bringGraph_78 : decode cX7_bringGraph 78 = .ok (.aload_n 0, 1) := by decide +kernel
theorem dX7_bringGraph_79 : decode cX7_bringGraph 79 = .ok (.getfield 12, 3) := by decide +kernel
theorem dX7_bringGraph_82 : decode cX7_bringGraph 82 = .ok (.invokevirtual 92, 3) := by decide +kernel
theorem dX7_bringGraph_85 : decode cX7_bringGraph 85 = .ok (.aload_n 2, 1) := by decide +kernel
theorem dX7_bringGraph_86 : decode cX7_bringGraph 86 = .ok (.getfield 82, 3) := by decide +kernel
theorem dX7_bringGraph_89 : decode cX7_bringGraph 89 = .ok (.iadd, 1) := by decide +kernel
theorem dX7_bringGraph_90 : decode cX7_bringGraph 90 = .ok (.bipush 120, 2) := by decide +kernel
theorem dX7_bringGraph_92 : decode cX7_bringGraph 92 = .ok (.if_icmp .le 5, 3) := by decide +kernel
theorem dX7_bringGraph_95 : decode cX7_bringGraph 95 = .ok (.iconst 4, 1) := by decide +kernel
theorem dX7_bringGraph_96 : decode cX7_bringGraph 96 = .ok (.ireturn, 1) := by decide +kernel
theorem dX7_bringGraph_97 : decode cX7_bringGraph 97 = .ok (.aload_n 3, 1) := by decide +kernel
theorem dX7_bringGraph_98 : decode cX7_bringGraph 98 = .ok (.aload_n 2, 1) := by decide +kernel
theorem dX7_bringGraph_99 : decode cX7_bringGraph 99 = .ok (.invokevirtual 96, 3) := by decide +kernel
theorem dX7_bringGraph_102 : decode cX7_bringGraph 102 = .ok (.aload_n 1, 1) := by decide +kernel
theorem dX7_bringGraph_103 : decode cX7_bringGraph 103 = .ok (.getfield 40, 3) := by decide +kernel
theorem dX7_bringGraph_106 : decode cX7_bringGraph 106 = .ok (.bipush 7, 2) := by decide +kernel
theorem dX7_bringGraph_108 : decode cX7_bringGraph 108 = .ok (.if_icmp .ne 14, 3) := by decide +kernel
theorem dX7_bringGraph_111 : decode cX7_bringGraph 111 = .ok (.aload_n 0, 1) := by decide +kernel
theorem dX7_bringGraph_112 : decode cX7_bringGraph 112 = .ok (.getfield 12, 3) := by decide +kernel
theorem dX7_bringGraph_115 : decode cX7_bringGraph 115 = .ok (.aload_n 1, 1) := by decide +kernel
theorem dX7_bringGraph_116 : decode cX7_bringGraph 116 = .ok (.getfield 85, 3) := by decide +kernel
theorem dX7_bringGraph_119 : decode cX7_bringGraph 119 = .ok (.invokevirtual 78, 3) := by decide +kernel
theorem dX7_bringGraph_122 : decode cX7_bringGraph 122 = .ok (.iconst 0, 1) := by decide +kernel
theorem dX7_bringGraph_123 : decode cX7_bringGraph 123 = .ok (.ireturn, 1) := by decide +kernel
theorem dX7_addGraph_0 : decode cX7_addGraph 0 = .ok (.aload_n 2, 1) := by decide +kernel
theorem dX7_addGraph_1 : decode cX7_addGraph 1 = .ok (.iconst 1, 1) := by decide +kernel
theorem dX7_addGraph_2 : decode cX7_addGraph 2 = .ok (.putfield 72, 3) := by decide +kernel
theorem dX7_addGraph_5 : decode cX7_addGraph 5 = .ok (.iconst 0, 1) := by decide +kernel
theorem dX7_addGraph_6 : decode cX7_addGraph 6 = .ok (.istore_n 3, 1) := by decide +kernel
theorem dX7_addGraph_7 : decode cX7_addGraph 7 = .ok (.iload_n 3, 1) := by decide +kernel
theorem dX7_addGraph_8 : decode cX7_addGraph 8 = .ok (.aload_n 1, 1) := by decide +kernel
theorem dX7_addGraph_9 : decode cX7_addGraph 9 = .ok (.getfield 82, 3) := by decide +kernel
theorem dX7_addGraph_12 : decode cX7_addGraph 12 = .ok (.if_icmp .ge 28, 3) := by decide +kernel
theorem dX7_addGraph_15 : decode cX7_addGraph 15 = .ok (.aload_n 0, 1) := by decide +kernel
theorem dX7_addGraph_16 : decode cX7_addGraph 16 = .ok (.getfield 12, 3) := by decide +kernel
theorem dX7_addGraph_19 : decode cX7_addGraph 19 = .ok (.aload_n 2, 1) := by decide +kernel
theorem dX7_addGraph_20 : decode cX7_addGraph 20 = .ok (.aload_n 1, 1) := by decide +kernel
theorem dX7_addGraph_21 : decode cX7_addGraph 21 = .ok (.getfield 100, 3) := by decide +kernel
theorem dX7_addGraph_24 : decode cX7_addGraph 24 = .ok (.iload_n 3, 1) := by decide +kernel
theorem dX7_addGraph_25 : decode cX7_addGraph 25 = .ok (.iaload, 1) := by decide +kernel
theorem dX7_addGraph_26 : decode cX7_addGraph 26 = .ok (.invokevirtual 103, 3) := by decide +kernel
theorem dX7_addGraph_29 : decode cX7_addGraph 29 = .ok (.ifCond .ne 5, 3) := by decide +kernel
theorem dX7_addGraph_32 : decode cX7_addGraph 32 = .ok (.iconst 4, 1) := by decide +kernel
theorem dX7_addGraph_33 : decode cX7_addGraph 33 = .ok (.ireturn, 1) := by decide +kernel
theorem dX7_addGraph_34 : decode cX7_addGraph 34 = .ok (.iinc 3 1, 3) := by decide +kernel
theorem dX7_addGraph_37 : decode cX7_addGraph 37 = .ok (.goto (-30), 3) := by decide +kernel
theorem dX7_addGraph_40 : decode cX7_addGraph 40 = .ok (.iconst 0, 1) := by decide +kernel
theorem dX7_addGraph_41 : decode cX7_addGraph 41 = .ok (.ireturn, 1) := by decide +kernel
theorem dX7_readFile_0 : decode cX7_readFile 0 = .ok (.aload_n 0, 1) := by decide +kernel
theorem dX7_readFile_1 : decode cX7_readFile 1 = .ok (.getfield 20, 3) := by decide +kernel
theorem dX7_readFile_4 : decode cX7_readFile 4 = .ok (.aload_n 1, 1) := by decide +kernel
theorem dX7_readFile_5 : decode cX7_readFile 5 = .ok (.getfield 85, 3) := by decide +kernel
theorem dX7_readFile_8 : decode cX7_readFile 8 = .ok (.aaload, 1) := by decide +kernel
theorem dX7_readFile_9 : decode cX7_readFile 9 = .ok (.astore_n 2, 1) := by decide +kernel
theorem dX7_readFile_10 : decode cX7_readFile 10 = .ok (.aload_n 2, 1) := by decide +kernel
theorem dX7_readFile_11 : decode cX7_readFile 11 = .ok (.getfield 107, 3) := by decide +kernel
theorem dX7_readFile_14 : decode cX7_readFile 14 = .ok (.ifCond .eq 5, 3) := by decide +kernel
theorem dX7_readFile_17 : decode cX7_readFile 17 = .ok (.iconst 3, 1) := by decide +kernel
theorem dX7_readFile_18 : decode cX7_readFile 18 = .ok (.ireturn, 1) := by decide +kernel
theorem dX7_readFile_19 : decode cX7_readFile 19 = .ok (.aload_n 0, 1) := by decide +kernel
theorem dX7_readFile_20 : decode cX7_readFile 20 = .ok (.getfield 12, 3) := by decide +kernel
theorem dX7_readFile_23 : decode cX7_readFile 23 = .ok (.getfield 68, 3) := by decide +kernel
theorem dX7_readFile_26 : decode cX7_readFile 26 = .ok (.aload_n 1, 1) := by decide +kernel
theorem dX7_readFile_27 : decode cX7_readFile 27 = .ok (.getfield 61, 3) := by decide +kernel
theorem dX7_readFile_30 : decode cX7_readFile 30 = .ok (.aaload, 1) := by decide +kernel
theorem dX7_readFile_31 : decode cX7_readFile 31 = .ok (.astore_n 3, 1) := by decide +kernel
theorem dX7_readFile_32 : decode cX7_readFile 32 = .ok (.aload_n 3, 1) := by decide +kernel
theorem dX7_readFile_33 : decode cX7_readFile 33 = .ok (.iconst 1, 1) := by decide +kernel
theorem dX7_readFile_34 : decode cX7_readFile 34 = .ok (.putfield 72, 3) := by decide +kernel
theorem dX7_readFile_37 : decode cX7_readFile 37 = .ok (.iconst 0, 1) := by decide +kernel
theorem dX7_readFile_38 : decode cX7_readFile 38 = .ok (.istore 4, 2) := by decide +kernel
theorem dX7_readFile_40 : decode cX7_readFile 40 = .ok (.iload 4, 2) := by decide +kernel
theorem dX7_readFile_42 : decode cX7_readFile 42 = .ok (.aload_n 2, 1) := by decide +kernel
theorem dX7_readFile_43 : decode cX7_readFile 43 = .ok (.getfield 110, 3) := by decide +kernel
theorem dX7_readFile_46 : decode cX7_readFile 46 = .ok (.getfield 114, 3) := by decide +kernel
theorem dX7_readFile_49 : decode cX7_readFile 49 = .ok (.if_icmp .ge 52, 3) := by decide +kernel
theorem dX7_readFile_52 : decode cX7_readFile 52 = .ok (.aload_n 0, 1) := by decide +kernel
theorem dX7_readFile_53 : decode cX7_readFile 53 = .ok (.getfield 12, 3) := by decide +kernel
theorem dX7_readFile_56 : decode cX7_readFile 56 = .ok (.aload_n 3, 1) := by decide +kernel
theorem dX7_readFile_57 : decode cX7_readFile 57 = .ok (.aload_n 2, 1) := by decide +kernel
theorem dX7_readFile_58 : decode cX7_readFile 58 = .ok (.getfield 110, 3) := by decide +kernel
theorem dX7_readFile_61 : decode cX7_readFile 61 = .ok (.iload 4, 2) := by decide +kernel
theorem dX7_readFile_63 : decode cX7_readFile 63 = .ok (.invokevirtual 119, 3) := by decide +kernel
theorem dX7_readFile_66 : decode cX7_readFile 66 = .ok (.aload_n 2, 1) := by decide +kernel
theorem dX7_readFile_67 : decode cX7_readFile 67 = .ok (.getfield 110, 3) := by decide +kernel
theorem dX7_readFile_70 : decode cX7_readFile 70 = .ok (.iload 4, 2) := by decide +kernel
theorem dX7_readFile_72 : decode cX7_readFile 72 = .ok (.invokevirtual 123, 3) := by decide +kernel
theorem dX7_readFile_75 : decode cX7_readFile 75 = .ok (.aload_n 2, 1) := by decide +kernel
theorem dX7_readFile_76 : decode cX7_readFile 76 = .ok (.getfield 110, 3) := by decide +kernel
theorem dX7_readFile_79 : decode cX7_readFile 79 = .ok (.iload 4, 2) := by decide +kernel
theorem dX7_readFile_81 : decode cX7_readFile 81 = .ok (.invokevirtual 126, 3) := by decide +kernel
theorem dX7_readFile_84 : decode cX7_readFile 84 = .ok (.invokestatic 129, 3) := by decide +kernel
theorem dX7_readFile_87 : decode cX7_readFile 87 = .ok (.invokevirtual 103, 3) := by decide +kernel
theorem dX7_readFile_90 : decode cX7_readFile 90 = .ok (.ifCond .ne 5, 3) := by decide +kernel
theorem dX7_readFile_93 : decode cX7_readFile 93 = .ok (.iconst 4, 1) := by decide +kernel
theorem dX7_readFile_94 : decode cX7_readFile 94 = .ok (.ireturn, 1) := by decide +kernel
theorem dX7_readFile_95 : decode cX7_readFile 95 = .ok (.iinc 4 1, 3) := by decide +kernel
theorem dX7_readFile_98 : decode cX7_readFile 98 = .ok (.goto (-58), 3) := by decide +kernel
theorem dX7_readFile_101 : decode cX7_readFile 101 = .ok (.iconst 0, 1) := by decide +kernel
theorem dX7_readFile_102 : decode cX7_readFile 102 = .ok (.ireturn, 1) := by decide +kernel
theorem dX7_rewrite_0 : decode cX7_rewrite 0 = .ok (.aload_n 0, 1) := by decide +kernel
theorem dX7_rewrite_1 : decode cX7_rewrite 1 = .ok (.getfield 27, 3) := by decide +kernel
theorem dX7_rewrite_4 : decode cX7_rewrite 4 = .ok (.aload_n 1, 1) := by decide +kernel
theorem dX7_rewrite_5 : decode cX7_rewrite 5 = .ok (.getfield 133, 3) := by decide +kernel
theorem dX7_rewrite_8 : decode cX7_rewrite 8 = .ok (.aload_n 0, 1) := by decide +kernel
theorem dX7_rewrite_9 : decode cX7_rewrite 9 = .ok (.getfield 12, 3) := by decide +kernel
theorem dX7_rewrite_12 : decode cX7_rewrite 12 = .ok (.getfield 68, 3) := by decide +kernel
theorem dX7_rewrite_15 : decode cX7_rewrite 15 = .ok (.aload_n 1, 1) := by decide +kernel
theorem dX7_rewrite_16 : decode cX7_rewrite 16 = .ok (.getfield 85, 3) := by decide +kernel
theorem dX7_rewrite_19 : decode cX7_rewrite 19 = .ok (.aaload, 1) := by decide +kernel
theorem dX7_rewrite_20 : decode cX7_rewrite 20 = .ok (.invokevirtual 136, 3) := by decide +kernel
theorem dX7_rewrite_23 : decode cX7_rewrite 23 = .ok (.istore_n 2, 1) := by decide +kernel
theorem dX7_rewrite_24 : decode cX7_rewrite 24 = .ok (.aload_n 0, 1) := by decide +kernel
theorem dX7_rewrite_25 : decode cX7_rewrite 25 = .ok (.dup, 1) := by decide +kernel
theorem dX7_rewrite_26 : decode cX7_rewrite 26 = .ok (.getfield 35, 3) := by decide +kernel
theorem dX7_rewrite_29 : decode cX7_rewrite 29 = .ok (.aload_n 0, 1) := by decide +kernel
theorem dX7_rewrite_30 : decode cX7_rewrite 30 = .ok (.getfield 27, 3) := by decide +kernel
theorem dX7_rewrite_33 : decode cX7_rewrite 33 = .ok (.getfield 140, 3) := by decide +kernel
theorem dX7_rewrite_36 : decode cX7_rewrite 36 = .ok (.iadd, 1) := by decide +kernel
theorem dX7_rewrite_37 : decode cX7_rewrite 37 = .ok (.putfield 35, 3) := by decide +kernel
theorem dX7_rewrite_40 : decode cX7_rewrite 40 = .ok (.aload_n 1, 1) := by decide +kernel
theorem dX7_rewrite_41 : decode cX7_rewrite 41 = .ok (.getfield 40, 3) := by decide +kernel
theorem dX7_rewrite_44 : decode cX7_rewrite 44 = .ok (.iconst 2, 1) := by decide +kernel
theorem dX7_rewrite_45 : decode cX7_rewrite 45 = .ok (.if_icmp .ne 14, 3) := by decide +kernel
theorem dX7_rewrite_48 : decode cX7_rewrite 48 = .ok (.aload_n 1, 1) := by decide +kernel
theorem dX7_rewrite_49 : decode cX7_rewrite 49 = .ok (.aload_n 0, 1) := by decide +kernel
theorem dX7_rewrite_50 : decode cX7_rewrite 50 = .ok (.getfield 27, 3) := by decide +kernel
theorem dX7_rewrite_53 : decode cX7_rewrite 53 = .ok (.getfield 141, 3) := by decide +kernel
theorem dX7_rewrite_56 : decode cX7_rewrite 56 = .ok (.putfield 144, 3) := by decide +kernel
theorem dX7_rewrite_59 : decode cX7_rewrite 59 = .ok (.iload_n 2, 1) := by decide +kernel
theorem dX7_rewrite_60 : decode cX7_rewrite 60 = .ok (.ifCond .ne 5, 3) := by decide +kernel
theorem dX7_rewrite_63 : decode cX7_rewrite 63 = .ok (.iconst 5, 1) := by decide +kernel
theorem dX7_rewrite_64 : decode cX7_rewrite 64 = .ok (.ireturn, 1) := by decide +kernel
theorem dX7_rewrite_65 : decode cX7_rewrite 65 = .ok (.iconst 0, 1) := by decide +kernel
theorem dX7_rewrite_66 : decode cX7_rewrite 66 = .ok (.istore_n 3, 1) := by decide +kernel
theorem dX7_rewrite_67 : decode cX7_rewrite 67 = .ok (.iload_n 3, 1) := by decide +kernel
theorem dX7_rewrite_68 : decode cX7_rewrite 68 = .ok (.aload_n 0, 1) := by decide +kernel
theorem dX7_rewrite_69 : decode cX7_rewrite 69 = .ok (.getfield 27, 3) := by decide +kernel
theorem dX7_rewrite_72 : decode cX7_rewrite 72 = .ok (.getfield 141, 3) := by decide +kernel
theorem dX7_rewrite_75 : decode cX7_rewrite 75 = .ok (.if_icmp .ge 15, 3) := by decide +kernel
theorem dX7_rewrite_78 : decode cX7_rewrite 78 = .ok (.aload_n 0, 1) := by decide +kernel
theorem dX7_rewrite_79 : decode cX7_rewrite 79 = .ok (.aload_n 1, 1) := by decide +kernel
theorem dX7_rewrite_80 : decode cX7_rewrite 80 = .ok (.iload_n 3, 1) := by decide +kernel
theorem dX7_rewrite_81 : decode cX7_rewrite 81 = .ok (.invokevirtual 145, 3) := by decide +kernel
theorem dX7_rewrite_84 : decode cX7_rewrite 84 = .ok (.iinc 3 1, 3) := by decide +kernel
theorem dX7_rewrite_87 : decode cX7_rewrite 87 = .ok (.goto (-20), 3) := by decide +kernel
theorem dX7_rewrite_90 : decode cX7_rewrite 90 = .ok (.iconst 0, 1) := by decide +kernel
theorem dX7_rewrite_91 : decode cX7_rewrite 91 = .ok (.istore_n 3, 1) := by decide +kernel
theorem dX7_rewrite_92 : decode cX7_rewrite 92 = .ok (.iload_n 3, 1) := by decide +kernel
theorem dX7_rewrite_93 : decode cX7_rewrite 93 = .ok (.aload_n 0, 1) := by decide +kernel
theorem dX7_rewrite_94 : decode cX7_rewrite 94 = .ok (.getfield 27, 3) := by decide +kernel
theorem dX7_rewrite_97 : decode cX7_rewrite 97 = .ok (.getfield 141, 3) := by decide +kernel
theorem dX7_rewrite_100 : decode cX7_rewrite 100 = .ok (.if_icmp .ge 20, 3) := by decide +kernel
theorem dX7_rewrite_103 : decode cX7_rewrite 103 = .ok (.aload_n 0, 1) := by decide +kernel
theorem dX7_rewrite_104 : decode cX7_rewrite 104 = .ok (.aload_n 1, 1) := by decide +kernel
theorem dX7_rewrite_105 : decode cX7_rewrite 105 = .ok (.iload_n 3, 1) := by decide +kernel
theorem dX7_rewrite_106 : decode cX7_rewrite 106 = .ok (.invokevirtual 149, 3) := by decide +kernel
theorem dX7_rewrite_109 : decode cX7_rewrite 109 = .ok (.ifCond .ne 5, 3) := by decide +kernel
theorem dX7_rewrite_112 : decode cX7_rewrite 112 = .ok (.iconst 4, 1) := by decide +kernel
theorem dX7_rewrite_113 : decode cX7_rewrite 113 = .ok (.ireturn, 1) := by decide +kernel
theorem dX7_rewrite_114 : decode cX7_rewrite 114 = .ok (.iinc 3 1, 3) := by decide +kernel
theorem dX7_rewrite_117 : decode cX7_rewrite 117 = .ok (.goto (-25), 3) := by decide +kernel
theorem dX7_rewrite_120 : decode cX7_rewrite 120 = .ok (.iconst 0, 1) := by decide +kernel
theorem dX7_rewrite_121 : decode cX7_rewrite 121 = .ok (.ireturn, 1) := by decide +kernel
theorem dX7_takeAwayFor_0 : decode cX7_takeAwayFor 0 = .ok (.iconst 0, 1) := by decide +kernel
theorem dX7_takeAwayFor_1 : decode cX7_takeAwayFor 1 = .ok (.istore_n 3, 1) := by decide +kernel
theorem dX7_takeAwayFor_2 : decode cX7_takeAwayFor 2 = .ok (.iload_n 3, 1) := by decide +kernel
theorem dX7_takeAwayFor_3 : decode cX7_takeAwayFor 3 = .ok (.aload_n 1, 1) := by decide +kernel
theorem dX7_takeAwayFor_4 : decode cX7_takeAwayFor 4 = .ok (.getfield 153, 3) := by decide +kernel
theorem dX7_takeAwayFor_7 : decode cX7_takeAwayFor 7 = .ok (.getfield 114, 3) := by decide +kernel
theorem dX7_takeAwayFor_10 : decode cX7_takeAwayFor 10 = .ok (.if_icmp .ge 26, 3) := by decide +kernel
theorem dX7_takeAwayFor_13 : decode cX7_takeAwayFor 13 = .ok (.aload_n 1, 1) := by decide +kernel
theorem dX7_takeAwayFor_14 : decode cX7_takeAwayFor 14 = .ok (.getfield 156, 3) := by decide +kernel
theorem dX7_takeAwayFor_17 : decode cX7_takeAwayFor 17 = .ok (.iload_n 3, 1) := by decide +kernel
theorem dX7_takeAwayFor_18 : decode cX7_takeAwayFor 18 = .ok (.baload, 1) := by decide +kernel
theorem dX7_takeAwayFor_19 : decode cX7_takeAwayFor 19 = .ok (.ifCond .ne 11, 3) := by decide +kernel
theorem dX7_takeAwayFor_22 : decode cX7_takeAwayFor 22 = .ok (.aload_n 0, 1) := by decide +kernel
theorem dX7_takeAwayFor_23 : decode cX7_takeAwayFor 23 = .ok (.aload_n 1, 1) := by decide +kernel
theorem dX7_takeAwayFor_24 : decode cX7_takeAwayFor 24 = .ok (.iload_n 3, 1) := by decide +kernel
theorem dX7_takeAwayFor_25 : decode cX7_takeAwayFor 25 = .ok (.iload_n 2, 1) := by decide +kernel
theorem dX7_takeAwayFor_26 : decode cX7_takeAwayFor 26 = .ok (.invokevirtual 160, 3) := by decide +kernel
theorem dX7_takeAwayFor_29 : decode cX7_takeAwayFor 29 = .ok (.pop, 1) := by decide +kernel
theorem dX7_takeAwayFor_30 : decode cX7_takeAwayFor 30 = .ok (.iinc 3 1, 3) := by decide +kernel
theorem dX7_takeAwayFor_33 : decode cX7_takeAwayFor 33 = .ok (.goto (-31), 3) := by decide +kernel
theorem dX7_takeAwayFor_36 : decode cX7_takeAwayFor 36 = .ok (.return_, 1) := by decide +kernel
theorem dX7_addFor_0 : decode cX7_addFor 0 = .ok (.aload_n 0, 1) := by decide +kernel
theorem dX7_addFor_1 : decode cX7_addFor 1 = .ok (.getfield 31, 3) := by decide +kernel
theorem dX7_addFor_4 : decode cX7_addFor 4 = .ok (.iconst (-1), 1) := by decide +kernel
theorem dX7_addFor_5 : decode cX7_addFor 5 = .ok (.invokestatic 164, 3) := by decide +kernel
theorem dX7_addFor_8 : decode cX7_addFor 8 = .ok (.iconst 1, 1) := by decide +kernel
theorem dX7_addFor_9 : decode cX7_addFor 9 = .ok (.istore_n 3, 1) := by decide +kernel
theorem dX7_addFor_10 : decode cX7_addFor 10 = .ok (.iconst 0, 1) := by decide +kernel
theorem dX7_addFor_11 : decode cX7_addFor 11 = .ok (.istore 4, 2) := by decide +kernel
theorem dX7_addFor_13 : decode cX7_addFor 13 = .ok (.iload 4, 2) := by decide +kernel
theorem dX7_addFor_15 : decode cX7_addFor 15 = .ok (.aload_n 1, 1) := by decide +kernel
theorem dX7_addFor_16 : decode cX7_addFor 16 = .ok (.getfield 153, 3) := by decide +kernel
theorem dX7_addFor_19 : decode cX7_addFor 19 = .ok (.getfield 114, 3) := by decide +kernel
theorem dX7_addFor_22 : decode cX7_addFor 22 = .ok (.if_icmp .ge 40, 3) := by decide +kernel
theorem dX7_addFor_25 : decode cX7_addFor 25 = .ok (.iload_n 3, 1) := by decide +kernel
theorem dX7_addFor_26 : decode cX7_addFor 26 = .ok (.ifCond .eq 36, 3) := by decide +kernel
theorem dX7_addFor_29 : decode cX7_addFor 29 = .ok (.aload_n 1, 1) := by decide +kernel
theorem dX7_addFor_30 : decode cX7_addFor 30 = .ok (.getfield 156, 3) := by decide +kernel
theorem dX7_addFor_33 : decode cX7_addFor 33 = .ok (.iload 4, 2) := by decide +kernel
theorem dX7_addFor_35 : decode cX7_addFor 35 = .ok (.baload, 1) := by decide +kernel
theorem dX7_addFor_36 : decode cX7_addFor 36 = .ok (.ifCond .eq 14, 3) := by decide +kernel
theorem dX7_addFor_39 : decode cX7_addFor 39 = .ok (.aload_n 0, 1) := by decide +kernel
theorem dX7_addFor_40 : decode cX7_addFor 40 = .ok (.aload_n 1, 1) := by decide +kernel
theorem dX7_addFor_41 : decode cX7_addFor 41 = .ok (.iload 4, 2) := by decide +kernel
theorem dX7_addFor_43 : decode cX7_addFor 43 = .ok (.iload_n 2, 1) := by decide +kernel
theorem dX7_addFor_44 : decode cX7_addFor 44 = .ok (.invokevirtual 160, 3) := by decide +kernel
theorem dX7_addFor_47 : decode cX7_addFor 47 = .ok (.ifCond .eq 7, 3) := by decide +kernel
theorem dX7_addFor_50 : decode cX7_addFor 50 = .ok (.iconst 1, 1) := by decide +kernel
theorem dX7_addFor_51 : decode cX7_addFor 51 = .ok (.goto 4, 3) := by decide +kernel
theorem dX7_addFor_54 : decode cX7_addFor 54 = .ok (.iconst 0, 1) := by decide +kernel
theorem dX7_addFor_55 : decode cX7_addFor 55 = .ok (.istore_n 3, 1) := by decide +kernel
theorem dX7_addFor_56 : decode cX7_addFor 56 = .ok (.iinc 4 1, 3) := by decide +kernel
theorem dX7_addFor_59 : decode cX7_addFor 59 = .ok (.goto (-46), 3) := by decide +kernel
theorem dX7_addFor_62 : decode cX7_addFor 62 = .ok (.iload_n 3, 1) := by decide +kernel
theorem dX7_addFor_63 : decode cX7_addFor 63 = .ok (.ireturn, 1) := by decide +kernel
theorem dX7_applyRow_0 : decode cX7_applyRow 0 = .ok (.aload_n 0, 1) := by decide +kernel
theorem dX7_applyRow_1 : decode cX7_applyRow 1 = .ok (.getfield 12, 3) := by decide +kernel
theorem dX7_applyRow_4 : decode cX7_applyRow 4 = .ok (.getfield 68, 3) := by decide +kernel
theorem dX7_applyRow_7 : decode cX7_applyRow 7 = .ok (.aload_n 1, 1) := by decide +kernel
theorem dX7_applyRow_8 : decode cX7_applyRow 8 = .ok (.getfield 61, 3) := by decide +kernel
theorem dX7_applyRow_11 : decode cX7_applyRow 11 = .ok (.aaload, 1) := by decide +kernel
theorem dX7_applyRow_12 : decode cX7_applyRow 12 = .ok (.astore 4, 2) := by decide +kernel
theorem dX7_applyRow_14 : decode cX7_applyRow 14 = .ok (.aload_n 0, 1) := by decide +kernel
theorem dX7_applyRow_15 : decode cX7_applyRow 15 = .ok (.aload_n 1, 1) := by decide +kernel
theorem dX7_applyRow_16 : decode cX7_applyRow 16 = .ok (.getfield 153, 3) := by decide +kernel
theorem dX7_applyRow_19 : decode cX7_applyRow 19 = .ok (.iload_n 2, 1) := by decide +kernel
theorem dX7_applyRow_20 : decode cX7_applyRow 20 = .ok (.invokevirtual 119, 3) := by decide +kernel
theorem dX7_applyRow_23 : decode cX7_applyRow 23 = .ok (.iload_n 3, 1) := by decide +kernel
theorem dX7_applyRow_24 : decode cX7_applyRow 24 = .ok (.invokevirtual 170, 3) := by decide +kernel
theorem dX7_applyRow_27 : decode cX7_applyRow 27 = .ok (.istore 5, 2) := by decide +kernel
theorem dX7_applyRow_29 : decode cX7_applyRow 29 = .ok (.aload_n 0, 1) := by decide +kernel
theorem dX7_applyRow_30 : decode cX7_applyRow 30 = .ok (.aload_n 1, 1) := by decide +kernel
theorem dX7_applyRow_31 : decode cX7_applyRow 31 = .ok (.getfield 153, 3) := by decide +kernel
theorem dX7_applyRow_34 : decode cX7_applyRow 34 = .ok (.iload_n 2, 1) := by decide +kernel
theorem dX7_applyRow_35 : decode cX7_applyRow 35 = .ok (.invokevirtual 123, 3) := by decide +kernel
theorem dX7_applyRow_38 : decode cX7_applyRow 38 = .ok (.iload_n 3, 1) := by decide +kernel
theorem dX7_applyRow_39 : decode cX7_applyRow 39 = .ok (.invokevirtual 170, 3) := by decide +kernel
theorem dX7_applyRow_42 : decode cX7_applyRow 42 = .ok (.istore 6, 2) := by decide +kernel
theorem dX7_applyRow_44 : decode cX7_applyRow 44 = .ok (.aload_n 0, 1) := by decide +kernel
theorem dX7_applyRow_45 : decode cX7_applyRow 45 = .ok (.aload_n 1, 1) := by decide +kernel
theorem dX7_applyRow_46 : decode cX7_applyRow 46 = .ok (.getfield 153, 3) := by decide +kernel
theorem dX7_applyRow_49 : decode cX7_applyRow 49 = .ok (.iload_n 2, 1) := by decide +kernel
theorem dX7_applyRow_50 : decode cX7_applyRow 50 = .ok (.invokevirtual 126, 3) := by decide +kernel
theorem dX7_applyRow_53 : decode cX7_applyRow 53 = .ok (.iload_n 3, 1) := by decide +kernel
theorem dX7_applyRow_54 : decode cX7_applyRow 54 = .ok (.invokevirtual 170, 3) := by decide +kernel
theorem dX7_applyRow_57 : decode cX7_applyRow 57 = .ok (.istore 7, 2) := by decide +kernel
theorem dX7_applyRow_59 : decode cX7_applyRow 59 = .ok (.iload 5, 2) := by decide +kernel
theorem dX7_applyRow_61 : decode cX7_applyRow 61 = .ok (.iconst (-1), 1) := by decide +kernel
theorem dX7_applyRow_62 : decode cX7_applyRow 62 = .ok (.if_icmp .eq 17, 3) := by decide +kernel
theorem dX7_applyRow_65 : decode cX7_applyRow 65 = .ok (.iload 7, 2) := by decide +kernel
theorem dX7_applyRow_67 : decode cX7_applyRow 67 = .ok (.iconst (-1), 1) := by decide +kernel
theorem dX7_applyRow_68 : decode cX7_applyRow 68 = .ok (.if_icmp .eq 11, 3) := by decide +kernel
theorem dX7_applyRow_71 : decode cX7_applyRow 71 = .ok (.iload 6, 2) := by decide +kernel
theorem dX7_applyRow_73 : decode cX7_applyRow 73 = .ok (.invokestatic 174, 3) := by decide +kernel
theorem dX7_applyRow_76 : decode cX7_applyRow 76 = .ok (.ifCond .ne 5, 3) := by decide +kernel
theorem dX7_applyRow_79 : decode cX7_applyRow 79 = .ok (.iconst 1, 1) := by decide +kernel
theorem dX7_applyRow_80 : decode cX7_applyRow 80 = .ok (.ireturn, 1) := by decide +kernel
theorem dX7_applyRow_81 : decode cX7_applyRow 81 = .ok (.aload_n 1, 1) := by decide +kernel
theorem dX7_applyRow_82 : decode cX7_applyRow 82 = .ok (.getfield 156, 3) := by decide +kernel
theorem dX7_applyRow_85 : decode cX7_applyRow 85 = .ok (.iload_n 2, 1) := by decide +kernel
theorem dX7_applyRow_86 : decode cX7_applyRow 86 = .ok (.baload, 1) := by decide +kernel
theorem dX7_applyRow_87 : decode cX7_applyRow 87 = .ok (.ifCond .ne 19, 3) := by decide +kernel
theorem dX7_applyRow_90 : decode cX7_applyRow 90 = .ok (.aload 4, 2) := by decide +kernel
theorem dX7_applyRow_92 : decode cX7_applyRow 92 = .ok (.iload 5, 2) := by decide +kernel
theorem dX7_applyRow_94 : decode cX7_applyRow 94 = .ok (.iload 6, 2) := by decide +kernel
theorem dX7_applyRow_96 : decode cX7_applyRow 96 = .ok (.iload 7, 2) := by decide +kernel
theorem dX7_applyRow_98 : decode cX7_applyRow 98 = .ok (.invokestatic 129, 3) := by decide +kernel
theorem dX7_applyRow_101 : decode cX7_applyRow 101 = .ok (.invokevirtual 177, 3) := by decide +kernel
theorem dX7_applyRow_104 : decode cX7_applyRow 104 = .ok (.iconst 1, 1) := by decide +kernel
theorem dX7_applyRow_105 : decode cX7_applyRow 105 = .ok (.ireturn, 1) := by decide +kernel
theorem dX7_applyRow_106 : decode cX7_applyRow 106 = .ok (.aload_n 0, 1) := by decide +kernel
theorem dX7_applyRow_107 : decode cX7_applyRow 107 = .ok (.iload 5, 2) := by decide +kernel
theorem dX7_applyRow_109 : decode cX7_applyRow 109 = .ok (.invokevirtual 180, 3) := by decide +kernel
theorem dX7_applyRow_112 : decode cX7_applyRow 112 = .ok (.istore 8, 2) := by decide +kernel
theorem dX7_applyRow_114 : decode cX7_applyRow 114 = .ok (.aload_n 0, 1) := by decide +kernel
theorem dX7_applyRow_115 : decode cX7_applyRow 115 = .ok (.iload 7, 2) := by decide +kernel
theorem dX7_applyRow_117 : decode cX7_applyRow 117 = .ok (.invokevirtual 180, 3) := by decide +kernel
theorem dX7_applyRow_120 : decode cX7_applyRow 120 = .ok (.istore 9, 2) := by decide +kernel
theorem dX7_applyRow_122 : decode cX7_applyRow 122 = .ok (.iload 8, 2) := by decide +kernel
theorem dX7_applyRow_124 : decode cX7_applyRow 124 = .ok (.iconst (-1), 1) := by decide +kernel
theorem dX7_applyRow_125 : decode cX7_applyRow 125 = .ok (.if_icmp .eq 34, 3) := by decide +kernel
theorem dX7_applyRow_128 : decode cX7_applyRow 128 = .ok (.iload 9, 2) := by decide +kernel
theorem dX7_applyRow_130 : decode cX7_applyRow 130 = .ok (.iconst (-1), 1) := by decide +kernel
theorem dX7_applyRow_131 : decode cX7_applyRow 131 = .ok (.if_icmp .eq 28, 3) := by decide +kernel
theorem dX7_applyRow_134 : decode cX7_applyRow 134 = .ok (.aload_n 0, 1) := by decide +kernel
theorem dX7_applyRow_135 : decode cX7_applyRow 135 = .ok (.getfield 12, 3) := by decide +kernel
theorem dX7_applyRow_138 : decode cX7_applyRow 138 = .ok (.aload 4, 2) := by decide +kernel
theorem dX7_applyRow_140 : decode cX7_applyRow 140 = .ok (.iload 8, 2) := by decide +kernel
theorem dX7_applyRow_142 : decode cX7_applyRow 142 = .ok (.iload 6, 2) := by decide +kernel
theorem dX7_applyRow_144 : decode cX7_applyRow 144 = .ok (.iload 9, 2) := by decide +kernel
theorem dX7_applyRow_146 : decode cX7_applyRow 146 = .ok (.invokestatic 129, 3) := by decide +kernel
theorem dX7_applyRow_149 : decode cX7_applyRow 149 = .ok (.invokevirtual 103, 3) := by decide +kernel
theorem dX7_applyRow_152 : decode cX7_applyRow 152 = .ok (.ifCond .eq 7, 3) := by decide +kernel
theorem dX7_applyRow_155 : decode cX7_applyRow 155 = .ok (.iconst 1, 1) := by decide +kernel
theorem dX7_applyRow_156 : decode cX7_applyRow 156 = .ok (.goto 4, 3) := by decide +kernel
theorem dX7_applyRow_159 : decode cX7_applyRow 159 = .ok (.iconst 0, 1) := by decide +kernel
theorem dX7_applyRow_160 : decode cX7_applyRow 160 = .ok (.ireturn, 1) := by decide +kernel
theorem dX7_valueOf_0 : decode cX7_valueOf 0 = .ok (.iload_n 1, 1) := by decide +kernel
theorem dX7_valueOf_1 : decode cX7_valueOf 1 = .ok (.invokestatic 183, 3) := by decide +kernel
theorem dX7_valueOf_4 : decode cX7_valueOf 4 = .ok (.ifCond .eq 15, 3) := by decide +kernel
theorem dX7_valueOf_7 : decode cX7_valueOf 7 = .ok (.aload_n 0, 1) := by decide +kernel
theorem dX7_valueOf_8 : decode cX7_valueOf 8 = .ok (.getfield 27, 3) := by decide +kernel
theorem dX7_valueOf_11 : decode cX7_valueOf 11 = .ok (.iload_n 2, 1) := by decide +kernel
theorem dX7_valueOf_12 : decode cX7_valueOf 12 = .ok (.iload_n 1, 1) := by decide +kernel
theorem dX7_valueOf_13 : decode cX7_valueOf 13 = .ok (.invokevirtual 186, 3) := by decide +kernel
theorem dX7_valueOf_16 : decode cX7_valueOf 16 = .ok (.goto 4, 3) := by decide +kernel
theorem dX7_valueOf_19 : decode cX7_valueOf 19 = .ok (.iload_n 1, 1) := by decide +kernel
theorem dX7_valueOf_20 : decode cX7_valueOf 20 = .ok (.ireturn, 1) := by decide +kernel
theorem dX7_withBlank_0 : decode cX7_withBlank 0 = .ok (.iload_n 1, 1) := by decide +kernel
theorem dX7_withBlank_1 : decode cX7_withBlank 1 = .ok (.invokestatic 189, 3) := by decide +kernel
theorem dX7_withBlank_4 : decode cX7_withBlank 4 = .ok (.ifCond .ne 5, 3) := by decide +kernel
theorem dX7_withBlank_7 : decode cX7_withBlank 7 = .ok (.iload_n 1, 1) := by decide +kernel
theorem dX7_withBlank_8 : decode cX7_withBlank 8 = .ok (.ireturn, 1) := by decide +kernel
theorem dX7_withBlank_9 : decode cX7_withBlank 9 = .ok (.bipush (-11), 2) := by decide +kernel
theorem dX7_withBlank_11 : decode cX7_withBlank 11 = .ok (.iload_n 1, 1) := by decide +kernel
theorem dX7_withBlank_12 : decode cX7_withBlank 12 = .ok (.isub, 1) := by decide +kernel
theorem dX7_withBlank_13 : decode cX7_withBlank 13 = .ok (.istore_n 2, 1) := by decide +kernel
theorem dX7_withBlank_14 : decode cX7_withBlank 14 = .ok (.aload_n 0, 1) := by decide +kernel
theorem dX7_withBlank_15 : decode cX7_withBlank 15 = .ok (.getfield 31, 3) := by decide +kernel
theorem dX7_withBlank_18 : decode cX7_withBlank 18 = .ok (.iload_n 2, 1) := by decide +kernel
theorem dX7_withBlank_19 : decode cX7_withBlank 19 = .ok (.iaload, 1) := by decide +kernel
theorem dX7_withBlank_20 : decode cX7_withBlank 20 = .ok (.iconst (-1), 1) := by decide +kernel
theorem dX7_withBlank_21 : decode cX7_withBlank 21 = .ok (.if_icmp .ne 16, 3) := by decide +kernel
theorem dX7_withBlank_24 : decode cX7_withBlank 24 = .ok (.aload_n 0, 1) := by decide +kernel
theorem dX7_withBlank_25 : decode cX7_withBlank 25 = .ok (.getfield 31, 3) := by decide +kernel
theorem dX7_withBlank_28 : decode cX7_withBlank 28 = .ok (.iload_n 2, 1) := by decide +kernel
theorem dX7_withBlank_29 : decode cX7_withBlank 29 = .ok (.aload_n 0, 1) := by decide +kernel
theorem dX7_withBlank_30 : decode cX7_withBlank 30 = .ok (.getfield 12, 3) := by decide +kernel
theorem dX7_withBlank_33 : decode cX7_withBlank 33 = .ok (.invokevirtual 192, 3) := by decide +kernel
theorem dX7_withBlank_36 : decode cX7_withBlank 36 = .ok (.iastore, 1) := by decide +kernel
theorem dX7_withBlank_37 : decode cX7_withBlank 37 = .ok (.aload_n 0, 1) := by decide +kernel
theorem dX7_withBlank_38 : decode cX7_withBlank 38 = .ok (.getfield 31, 3) := by decide +kernel
theorem dX7_withBlank_41 : decode cX7_withBlank 41 = .ok (.iload_n 2, 1) := by decide +kernel
theorem dX7_withBlank_42 : decode cX7_withBlank 42 = .ok (.iaload, 1) := by decide +kernel
theorem dX7_withBlank_43 : decode cX7_withBlank 43 = .ok (.ireturn, 1) := by decide +kernel
theorem dX8_init_0 : decode cX8_init 0 = .ok (.aload_n 0, 1) := by decide +kernel
theorem dX8_init_1 : decode cX8_init 1 = .ok (.invokespecial 1, 3) := by decide +kernel
theorem dX8_init_4 : decode cX8_init 4 = .ok (.aload_n 0, 1) := by decide +kernel
theorem dX8_init_5 : decode cX8_init 5 = .ok (.bipush 12, 2) := by decide +kernel
theorem dX8_init_7 : decode cX8_init 7 = .ok (.anewarray 9, 3) := by decide +kernel
theorem dX8_init_10 : decode cX8_init 10 = .ok (.putfield 11, 3) := by decide +kernel
theorem dX8_init_13 : decode cX8_init 13 = .ok (.aload_n 0, 1) := by decide +kernel
theorem dX8_init_14 : decode cX8_init 14 = .ok (.new 15, 3) := by decide +kernel
theorem dX8_init_17 : decode cX8_init 17 = .ok (.dup, 1) := by decide +kernel
theorem dX8_init_18 : decode cX8_init 18 = .ok (.invokespecial 17, 3) := by decide +kernel
end

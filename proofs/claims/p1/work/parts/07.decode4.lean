theorem dX9_wasIn_15 : decode cX9_wasIn 15 = .ok (.iload 5, 2) := by decide +kernel
theorem dX9_wasIn_17 : decode cX9_wasIn 17 = .ok (.ifCond .ne 48, 3) := by decide +kernel
theorem dX9_wasIn_20 : decode cX9_wasIn 20 = .ok (.aload_n 0, 1) := by decide +kernel
theorem dX9_wasIn_21 : decode cX9_wasIn 21 = .ok (.getfield 80, 3) := by decide +kernel
theorem dX9_wasIn_24 : decode cX9_wasIn 24 = .ok (.iload 6, 2) := by decide +kernel
theorem dX9_wasIn_26 : decode cX9_wasIn 26 = .ok (.iaload, 1) := by decide +kernel
theorem dX9_wasIn_27 : decode cX9_wasIn 27 = .ok (.iload_n 1, 1) := by decide +kernel
theorem dX9_wasIn_28 : decode cX9_wasIn 28 = .ok (.if_icmp .ne 41, 3) := by decide +kernel
theorem dX9_wasIn_31 : decode cX9_wasIn 31 = .ok (.aload_n 0, 1) := by decide +kernel
theorem dX9_wasIn_32 : decode cX9_wasIn 32 = .ok (.getfield 83, 3) := by decide +kernel
theorem dX9_wasIn_35 : decode cX9_wasIn 35 = .ok (.iload 6, 2) := by decide +kernel
theorem dX9_wasIn_37 : decode cX9_wasIn 37 = .ok (.iaload, 1) := by decide +kernel
theorem dX9_wasIn_38 : decode cX9_wasIn 38 = .ok (.iload_n 2, 1) := by decide +kernel
theorem dX9_wasIn_39 : decode cX9_wasIn 39 = .ok (.if_icmp .ne 30, 3) := by decide +kernel
theorem dX9_wasIn_42 : decode cX9_wasIn 42 = .ok (.aload_n 0, 1) := by decide +kernel
theorem dX9_wasIn_43 : decode cX9_wasIn 43 = .ok (.getfield 86, 3) := by decide +kernel
theorem dX9_wasIn_46 : decode cX9_wasIn 46 = .ok (.iload 6, 2) := by decide +kernel
theorem dX9_wasIn_48 : decode cX9_wasIn 48 = .ok (.iaload, 1) := by decide +kernel
theorem dX9_wasIn_49 : decode cX9_wasIn 49 = .ok (.iload_n 3, 1) := by decide +kernel
theorem dX9_wasIn_50 : decode cX9_wasIn 50 = .ok (.if_icmp .ne 19, 3) := by decide +kernel
theorem dX9_wasIn_53 : decode cX9_wasIn 53 = .ok (.aload_n 0, 1) := by decide +kernel
theorem dX9_wasIn_54 : decode cX9_wasIn 54 = .ok (.getfield 89, 3) := by decide +kernel
theorem dX9_wasIn_57 : decode cX9_wasIn 57 = .ok (.iload 6, 2) := by decide +kernel
theorem dX9_wasIn_59 : decode cX9_wasIn 59 = .ok (.iaload, 1) := by decide +kernel
theorem dX9_wasIn_60 : decode cX9_wasIn 60 = .ok (.iload 4, 2) := by decide +kernel
theorem dX9_wasIn_62 : decode cX9_wasIn 62 = .ok (.if_icmp .ne 7, 3) := by decide +kernel
theorem dX9_wasIn_65 : decode cX9_wasIn 65 = .ok (.iconst 1, 1) := by decide +kernel
theorem dX9_wasIn_66 : decode cX9_wasIn 66 = .ok (.goto 4, 3) := by decide +kernel
theorem dX9_wasIn_69 : decode cX9_wasIn 69 = .ok (.iconst 0, 1) := by decide +kernel
theorem dX9_wasIn_70 : decode cX9_wasIn 70 = .ok (.istore 5, 2) := by decide +kernel
theorem dX9_wasIn_72 : decode cX9_wasIn 72 = .ok (.iinc 6 1, 3) := by decide +kernel
theorem dX9_wasIn_75 : decode cX9_wasIn 75 = .ok (.goto (-69), 3) := by decide +kernel
theorem dX9_wasIn_78 : decode cX9_wasIn 78 = .ok (.iload 5, 2) := by decide +kernel
theorem dX9_wasIn_80 : decode cX9_wasIn 80 = .ok (.ireturn, 1) := by decide +kernel
theorem dX9_noteAll_0 : decode cX9_noteAll 0 = .ok (.aload_n 0, 1) := by decide +kernel
theorem dX9_noteAll_1 : decode cX9_noteAll 1 = .ok (.iconst 0, 1) := by decide +kernel
theorem dX9_noteAll_2 : decode cX9_noteAll 2 = .ok (.putfield 250, 3) := by decide +kernel
theorem dX9_noteAll_5 : decode cX9_noteAll 5 = .ok (.iconst 0, 1) := by decide +kernel
theorem dX9_noteAll_6 : decode cX9_noteAll 6 = .ok (.istore_n 1, 1) := by decide +kernel
theorem dX9_noteAll_7 : decode cX9_noteAll 7 = .ok (.iload_n 1, 1) := by decide +kernel
theorem dX9_noteAll_8 : decode cX9_noteAll 8 = .ok (.aload_n 0, 1) := by decide +kernel
theorem dX9_noteAll_9 : decode cX9_noteAll 9 = .ok (.getfield 160, 3) := by decide +kernel
theorem dX9_noteAll_12 : decode cX9_noteAll 12 = .ok (.if_icmp .ge 69, 3) := by decide +kernel
theorem dX9_noteAll_15 : decode cX9_noteAll 15 = .ok (.aload_n 0, 1) := by decide +kernel
theorem dX9_noteAll_16 : decode cX9_noteAll 16 = .ok (.aload_n 0, 1) := by decide +kernel
theorem dX9_noteAll_17 : decode cX9_noteAll 17 = .ok (.getfield 65, 3) := by decide +kernel
theorem dX9_noteAll_20 : decode cX9_noteAll 20 = .ok (.iload_n 1, 1) := by decide +kernel
theorem dX9_noteAll_21 : decode cX9_noteAll 21 = .ok (.iaload, 1) := by decide +kernel
theorem dX9_noteAll_22 : decode cX9_noteAll 22 = .ok (.aload_n 0, 1) := by decide +kernel
theorem dX9_noteAll_23 : decode cX9_noteAll 23 = .ok (.getfield 68, 3) := by decide +kernel
theorem dX9_noteAll_26 : decode cX9_noteAll 26 = .ok (.iload_n 1, 1) := by decide +kernel
theorem dX9_noteAll_27 : decode cX9_noteAll 27 = .ok (.iaload, 1) := by decide +kernel
theorem dX9_noteAll_28 : decode cX9_noteAll 28 = .ok (.aload_n 0, 1) := by decide +kernel
theorem dX9_noteAll_29 : decode cX9_noteAll 29 = .ok (.getfield 71, 3) := by decide +kernel
theorem dX9_noteAll_32 : decode cX9_noteAll 32 = .ok (.iload_n 1, 1) := by decide +kernel
theorem dX9_noteAll_33 : decode cX9_noteAll 33 = .ok (.iaload, 1) := by decide +kernel
theorem dX9_noteAll_34 : decode cX9_noteAll 34 = .ok (.aload_n 0, 1) := by decide +kernel
theorem dX9_noteAll_35 : decode cX9_noteAll 35 = .ok (.getfield 74, 3) := by decide +kernel
theorem dX9_noteAll_38 : decode cX9_noteAll 38 = .ok (.iload_n 1, 1) := by decide +kernel
theorem dX9_noteAll_39 : decode cX9_noteAll 39 = .ok (.iaload, 1) := by decide +kernel
theorem dX9_noteAll_40 : decode cX9_noteAll 40 = .ok (.invokevirtual 257, 3) := by decide +kernel
theorem dX9_noteAll_43 : decode cX9_noteAll 43 = .ok (.ifCond .ne 32, 3) := by decide +kernel
theorem dX9_noteAll_46 : decode cX9_noteAll 46 = .ok (.aload_n 0, 1) := by decide +kernel
theorem dX9_noteAll_47 : decode cX9_noteAll 47 = .ok (.aload_n 0, 1) := by decide +kernel
theorem dX9_noteAll_48 : decode cX9_noteAll 48 = .ok (.getfield 65, 3) := by decide +kernel
theorem dX9_noteAll_51 : decode cX9_noteAll 51 = .ok (.iload_n 1, 1) := by decide +kernel
theorem dX9_noteAll_52 : decode cX9_noteAll 52 = .ok (.iaload, 1) := by decide +kernel
theorem dX9_noteAll_53 : decode cX9_noteAll 53 = .ok (.aload_n 0, 1) := by decide +kernel
theorem dX9_noteAll_54 : decode cX9_noteAll 54 = .ok (.getfield 68, 3) := by decide +kernel
theorem dX9_noteAll_57 : decode cX9_noteAll 57 = .ok (.iload_n 1, 1) := by decide +kernel
theorem dX9_noteAll_58 : decode cX9_noteAll 58 = .ok (.iaload, 1) := by decide +kernel
theorem dX9_noteAll_59 : decode cX9_noteAll 59 = .ok (.aload_n 0, 1) := by decide +kernel
theorem dX9_noteAll_60 : decode cX9_noteAll 60 = .ok (.getfield 71, 3) := by decide +kernel
theorem dX9_noteAll_63 : decode cX9_noteAll 63 = .ok (.iload_n 1, 1) := by decide +kernel
theorem dX9_noteAll_64 : decode cX9_noteAll 64 = .ok (.iaload, 1) := by decide +kernel
theorem dX9_noteAll_65 : decode cX9_noteAll 65 = .ok (.aload_n 0, 1) := by decide +kernel
theorem dX9_noteAll_66 : decode cX9_noteAll 66 = .ok (.getfield 74, 3) := by decide +kernel
theorem dX9_noteAll_69 : decode cX9_noteAll 69 = .ok (.iload_n 1, 1) := by decide +kernel
theorem dX9_noteAll_70 : decode cX9_noteAll 70 = .ok (.iaload, 1) := by decide +kernel
theorem dX9_noteAll_71 : decode cX9_noteAll 71 = .ok (.iconst 1, 1) := by decide +kernel
theorem dX9_noteAll_72 : decode cX9_noteAll 72 = .ok (.invokevirtual 260, 3) := by decide +kernel
theorem dX9_noteAll_75 : decode cX9_noteAll 75 = .ok (.iinc 1 1, 3) := by decide +kernel
theorem dX9_noteAll_78 : decode cX9_noteAll 78 = .ok (.goto (-71), 3) := by decide +kernel
theorem dX9_noteAll_81 : decode cX9_noteAll 81 = .ok (.iconst 0, 1) := by decide +kernel
theorem dX9_noteAll_82 : decode cX9_noteAll 82 = .ok (.istore_n 1, 1) := by decide +kernel
theorem dX9_noteAll_83 : decode cX9_noteAll 83 = .ok (.iload_n 1, 1) := by decide +kernel
theorem dX9_noteAll_84 : decode cX9_noteAll 84 = .ok (.aload_n 0, 1) := by decide +kernel
theorem dX9_noteAll_85 : decode cX9_noteAll 85 = .ok (.getfield 244, 3) := by decide +kernel
theorem dX9_noteAll_88 : decode cX9_noteAll 88 = .ok (.if_icmp .ge 69, 3) := by decide +kernel
theorem dX9_noteAll_91 : decode cX9_noteAll 91 = .ok (.aload_n 0, 1) := by decide +kernel
theorem dX9_noteAll_92 : decode cX9_noteAll 92 = .ok (.aload_n 0, 1) := by decide +kernel
theorem dX9_noteAll_93 : decode cX9_noteAll 93 = .ok (.getfield 80, 3) := by decide +kernel
theorem dX9_noteAll_96 : decode cX9_noteAll 96 = .ok (.iload_n 1, 1) := by decide +kernel
theorem dX9_noteAll_97 : decode cX9_noteAll 97 = .ok (.iaload, 1) := by decide +kernel
theorem dX9_noteAll_98 : decode cX9_noteAll 98 = .ok (.aload_n 0, 1) := by decide +kernel
theorem dX9_noteAll_99 : decode cX9_noteAll 99 = .ok (.getfield 83, 3) := by decide +kernel
theorem dX9_noteAll_102 : decode cX9_noteAll 102 = .ok (.iload_n 1, 1) := by decide +kernel
theorem dX9_noteAll_103 : decode cX9_noteAll 103 = .ok (.iaload, 1) := by decide +kernel
theorem dX9_noteAll_104 : decode cX9_noteAll 104 = .ok (.aload_n 0, 1) := by decide +kernel
theorem dX9_noteAll_105 : decode cX9_noteAll 105 = .ok (.getfield 86, 3) := by decide +kernel
theorem dX9_noteAll_108 : decode cX9_noteAll 108 = .ok (.iload_n 1, 1) := by decide +kernel
theorem dX9_noteAll_109 : decode cX9_noteAll 109 = .ok (.iaload, 1) := by decide +kernel
theorem dX9_noteAll_110 : decode cX9_noteAll 110 = .ok (.aload_n 0, 1) := by decide +kernel
theorem dX9_noteAll_111 : decode cX9_noteAll 111 = .ok (.getfield 89, 3) := by decide +kernel
theorem dX9_noteAll_114 : decode cX9_noteAll 114 = .ok (.iload_n 1, 1) := by decide +kernel
theorem dX9_noteAll_115 : decode cX9_noteAll 115 = .ok (.iaload, 1) := by decide +kernel
theorem dX9_noteAll_116 : decode cX9_noteAll 116 = .ok (.invokevirtual 163, 3) := by decide +kernel
theorem dX9_noteAll_119 : decode cX9_noteAll 119 = .ok (.ifCond .ge 32, 3) := by decide +kernel
theorem dX9_noteAll_122 : decode cX9_noteAll 122 = .ok (.aload_n 0, 1) := by decide +kernel
theorem dX9_noteAll_123 : decode cX9_noteAll 123 = .ok (.aload_n 0, 1) := by decide +kernel
theorem dX9_noteAll_124 : decode cX9_noteAll 124 = .ok (.getfield 80, 3) := by decide +kernel
theorem dX9_noteAll_127 : decode cX9_noteAll 127 = .ok (.iload_n 1, 1) := by decide +kernel
theorem dX9_noteAll_128 : decode cX9_noteAll 128 = .ok (.iaload, 1) := by decide +kernel
theorem dX9_noteAll_129 : decode cX9_noteAll 129 = .ok (.aload_n 0, 1) := by decide +kernel
theorem dX9_noteAll_130 : decode cX9_noteAll 130 = .ok (.getfield 83, 3) := by decide +kernel
theorem dX9_noteAll_133 : decode cX9_noteAll 133 = .ok (.iload_n 1, 1) := by decide +kernel
theorem dX9_noteAll_134 : decode cX9_noteAll 134 = .ok (.iaload, 1) := by decide +kernel
theorem dX9_noteAll_135 : decode cX9_noteAll 135 = .ok (.aload_n 0, 1) := by decide +kernel
theorem dX9_noteAll_136 : decode cX9_noteAll 136 = .ok (.getfield 86, 3) := by decide +kernel
theorem dX9_noteAll_139 : decode cX9_noteAll 139 = .ok (.iload_n 1, 1) := by decide +kernel
theorem dX9_noteAll_140 : decode cX9_noteAll 140 = .ok (.iaload, 1) := by decide +kernel
theorem dX9_noteAll_141 : decode cX9_noteAll 141 = .ok (.aload_n 0, 1) := by decide +kernel
theorem dX9_noteAll_142 : decode cX9_noteAll 142 = .ok (.getfield 89, 3) := by decide +kernel
theorem dX9_noteAll_145 : decode cX9_noteAll 145 = .ok (.iload_n 1, 1) := by decide +kernel
theorem dX9_noteAll_146 : decode cX9_noteAll 146 = .ok (.iaload, 1) := by decide +kernel
theorem dX9_noteAll_147 : decode cX9_noteAll 147 = .ok (.iconst 0, 1) := by decide +kernel
theorem dX9_noteAll_148 : decode cX9_noteAll 148 = .ok (.invokevirtual 260, 3) := by decide +kernel
theorem dX9_noteAll_151 : decode cX9_noteAll 151 = .ok (.iinc 1 1, 3) := by decide +kernel
theorem dX9_noteAll_154 : decode cX9_noteAll 154 = .ok (.goto (-71), 3) := by decide +kernel
theorem dX9_noteAll_157 : decode cX9_noteAll 157 = .ok (.return_, 1) := by decide +kernel
theorem dX9_run_0 : decode cX9_run 0 = .ok (.aload_n 0, 1) := by decide +kernel
theorem dX9_run_1 : decode cX9_run 1 = .ok (.iconst 0, 1) := by decide +kernel
theorem dX9_run_2 : decode cX9_run 2 = .ok (.putfield 129, 3) := by decide +kernel
theorem dX9_run_5 : decode cX9_run 5 = .ok (.aload_n 0, 1) := by decide +kernel
theorem dX9_run_6 : decode cX9_run 6 = .ok (.invokevirtual 264, 3) := by decide +kernel
theorem dX9_run_9 : decode cX9_run 9 = .ok (.aload_n 0, 1) := by decide +kernel
theorem dX9_run_10 : decode cX9_run 10 = .ok (.iconst 0, 1) := by decide +kernel
theorem dX9_run_11 : decode cX9_run 11 = .ok (.putfield 196, 3) := by decide +kernel
theorem dX9_run_14 : decode cX9_run 14 = .ok (.aload_n 0, 1) := by decide +kernel
theorem dX9_run_15 : decode cX9_run 15 = .ok (.iconst (-1), 1) := by decide +kernel
theorem dX9_run_16 : decode cX9_run 16 = .ok (.putfield 113, 3) := by decide +kernel
theorem dX9_run_19 : decode cX9_run 19 = .ok (.iconst 0, 1) := by decide +kernel
theorem dX9_run_20 : decode cX9_run 20 = .ok (.istore_n 1, 1) := by decide +kernel
theorem dX9_run_21 : decode cX9_run 21 = .ok (.iload_n 1, 1) := by decide +kernel
theorem dX9_run_22 : decode cX9_run 22 = .ok (.bipush 12, 2) := by decide +kernel
theorem dX9_run_24 : decode cX9_run 24 = .ok (.if_icmp .ge 16, 3) := by decide +kernel
theorem dX9_run_27 : decode cX9_run 27 = .ok (.aload_n 0, 1) := by decide +kernel
theorem dX9_run_28 : decode cX9_run 28 = .ok (.getfield 110, 3) := by decide +kernel
theorem dX9_run_31 : decode cX9_run 31 = .ok (.iload_n 1, 1) := by decide +kernel
theorem dX9_run_32 : decode cX9_run 32 = .ok (.iconst (-1), 1) := by decide +kernel
theorem dX9_run_33 : decode cX9_run 33 = .ok (.iastore, 1) := by decide +kernel
theorem dX9_run_34 : decode cX9_run 34 = .ok (.iinc 1 1, 3) := by decide +kernel
theorem dX9_run_37 : decode cX9_run 37 = .ok (.goto (-16), 3) := by decide +kernel
theorem dX9_run_40 : decode cX9_run 40 = .ok (.iconst 0, 1) := by decide +kernel
theorem dX9_run_41 : decode cX9_run 41 = .ok (.istore_n 1, 1) := by decide +kernel
theorem dX9_run_42 : decode cX9_run 42 = .ok (.iload_n 1, 1) := by decide +kernel
theorem dX9_run_43 : decode cX9_run 43 = .ok (.aload_n 0, 1) := by decide +kernel
theorem dX9_run_44 : decode cX9_run 44 = .ok (.getfield 132, 3) := by decide +kernel
theorem dX9_run_47 : decode cX9_run 47 = .ok (.if_icmp .ge 51, 3) := by decide +kernel
theorem dX9_run_50 : decode cX9_run 50 = .ok (.aload_n 0, 1) := by decide +kernel
theorem dX9_run_51 : decode cX9_run 51 = .ok (.iload_n 1, 1) := by decide +kernel
theorem dX9_run_52 : decode cX9_run 52 = .ok (.invokevirtual 267, 3) := by decide +kernel
theorem dX9_run_55 : decode cX9_run 55 = .ok (.istore_n 2, 1) := by decide +kernel
theorem dX9_run_56 : decode cX9_run 56 = .ok (.iload_n 2, 1) := by decide +kernel
theorem dX9_run_57 : decode cX9_run 57 = .ok (.ifCond .le 35, 3) := by decide +kernel
theorem dX9_run_60 : decode cX9_run 60 = .ok (.aload_n 0, 1) := by decide +kernel
theorem dX9_run_61 : decode cX9_run 61 = .ok (.getfield 19, 3) := by decide +kernel
theorem dX9_run_64 : decode cX9_run 64 = .ok (.iload_n 1, 1) := by decide +kernel
theorem dX9_run_65 : decode cX9_run 65 = .ok (.baload, 1) := by decide +kernel
theorem dX9_run_66 : decode cX9_run 66 = .ok (.ifCond .eq 8, 3) := by decide +kernel
theorem dX9_run_69 : decode cX9_run 69 = .ok (.iload_n 2, 1) := by decide +kernel
theorem dX9_run_70 : decode cX9_run 70 = .ok (.iconst 4, 1) := by decide +kernel
theorem dX9_run_71 : decode cX9_run 71 = .ok (.if_icmp .lt 21, 3) := by decide +kernel
theorem dX9_run_74 : decode cX9_run 74 = .ok (.aload_n 0, 1) := by decide +kernel
theorem dX9_run_75 : decode cX9_run 75 = .ok (.invokevirtual 270, 3) := by decide +kernel
theorem dX9_run_78 : decode cX9_run 78 = .ok (.aload_n 0, 1) := by decide +kernel
theorem dX9_run_79 : decode cX9_run 79 = .ok (.iload_n 1, 1) := by decide +kernel
theorem dX9_run_80 : decode cX9_run 80 = .ok (.putfield 113, 3) := by decide +kernel
theorem dX9_run_83 : decode cX9_run 83 = .ok (.aload_n 0, 1) := by decide +kernel
theorem dX9_run_84 : decode cX9_run 84 = .ok (.iconst 0, 1) := by decide +kernel
theorem dX9_run_85 : decode cX9_run 85 = .ok (.putfield 196, 3) := by decide +kernel
theorem dX9_run_88 : decode cX9_run 88 = .ok (.iconst (-1), 1) := by decide +kernel
theorem dX9_run_89 : decode cX9_run 89 = .ok (.iload_n 2, 1) := by decide +kernel
theorem dX9_run_90 : decode cX9_run 90 = .ok (.isub, 1) := by decide +kernel
theorem dX9_run_91 : decode cX9_run 91 = .ok (.ireturn, 1) := by decide +kernel
theorem dX9_run_92 : decode cX9_run 92 = .ok (.iinc 1 1, 3) := by decide +kernel
theorem dX9_run_95 : decode cX9_run 95 = .ok (.goto (-53), 3) := by decide +kernel
theorem dX9_run_98 : decode cX9_run 98 = .ok (.aload_n 0, 1) := by decide +kernel
theorem dX9_run_99 : decode cX9_run 99 = .ok (.invokevirtual 273, 3) := by decide +kernel
theorem dX9_run_102 : decode cX9_run 102 = .ok (.aload_n 0, 1) := by decide +kernel
theorem dX9_run_103 : decode cX9_run 103 = .ok (.getfield 250, 3) := by decide +kernel
theorem dX9_run_106 : decode cX9_run 106 = .ok (.ireturn, 1) := by decide +kernel
theorem dX9_fails_0 : decode cX9_fails 0 = .ok (.aload_n 0, 1) := by decide +kernel
theorem dX9_fails_1 : decode cX9_fails 1 = .ok (.iconst 0, 1) := by decide +kernel
theorem dX9_fails_2 : decode cX9_fails 2 = .ok (.putfield 129, 3) := by decide +kernel
theorem dX9_fails_5 : decode cX9_fails 5 = .ok (.aload_n 0, 1) := by decide +kernel
theorem dX9_fails_6 : decode cX9_fails 6 = .ok (.getfield 113, 3) := by decide +kernel
theorem dX9_fails_9 : decode cX9_fails 9 = .ok (.ireturn, 1) := by decide +kernel
theorem dX9_clear_0 : decode cX9_clear 0 = .ok (.aload_n 0, 1) := by decide +kernel
theorem dX9_clear_1 : decode cX9_clear 1 = .ok (.iconst 0, 1) := by decide +kernel
theorem dX9_clear_2 : decode cX9_clear 2 = .ok (.putfield 129, 3) := by decide +kernel
theorem dX9_clear_5 : decode cX9_clear 5 = .ok (.aload_n 0, 1) := by decide +kernel
theorem dX9_clear_6 : decode cX9_clear 6 = .ok (.getfield 132, 3) := by decide +kernel
theorem dX9_clear_9 : decode cX9_clear 9 = .ok (.istore_n 1, 1) := by decide +kernel
theorem dX9_clear_10 : decode cX9_clear 10 = .ok (.aload_n 0, 1) := by decide +kernel
theorem dX9_clear_11 : decode cX9_clear 11 = .ok (.iconst 0, 1) := by decide +kernel
theorem dX9_clear_12 : decode cX9_clear 12 = .ok (.putfield 132, 3) := by decide +kernel
theorem dX9_clear_15 : decode cX9_clear 15 = .ok (.iconst 0, 1) := by decide +kernel
theorem dX9_clear_16 : decode cX9_clear 16 = .ok (.istore_n 2, 1) := by decide +kernel
theorem dX9_clear_17 : decode cX9_clear 17 = .ok (.iload_n 2, 1) := by decide +kernel
theorem dX9_clear_18 : decode cX9_clear 18 = .ok (.bipush 12, 2) := by decide +kernel
theorem dX9_clear_20 : decode cX9_clear 20 = .ok (.if_icmp .ge 16, 3) := by decide +kernel
theorem dX9_clear_23 : decode cX9_clear 23 = .ok (.aload_n 0, 1) := by decide +kernel
theorem dX9_clear_24 : decode cX9_clear 24 = .ok (.getfield 110, 3) := by decide +kernel
theorem dX9_clear_27 : decode cX9_clear 27 = .ok (.iload_n 2, 1) := by decide +kernel
theorem dX9_clear_28 : decode cX9_clear 28 = .ok (.iconst (-1), 1) := by decide +kernel
theorem dX9_clear_29 : decode cX9_clear 29 = .ok (.iastore, 1) := by decide +kernel
theorem dX9_clear_30 : decode cX9_clear 30 = .ok (.iinc 2 1, 3) := by decide +kernel
theorem dX9_clear_33 : decode cX9_clear 33 = .ok (.goto (-16), 3) := by decide +kernel
theorem dX9_clear_36 : decode cX9_clear 36 = .ok (.iload_n 1, 1) := by decide +kernel
theorem dX9_clear_37 : decode cX9_clear 37 = .ok (.ireturn, 1) := by decide +kernel
theorem dX9_many_0 : decode cX9_many 0 = .ok (.aload_n 0, 1) := by decide +kernel
theorem dX9_many_1 : decode cX9_many 1 = .ok (.iload_n 1, 1) := by decide +kernel
theorem dX9_many_2 : decode cX9_many 2 = .ok (.iconst 0, 1) := by decide +kernel
theorem dX9_many_3 : decode cX9_many 3 = .ok (.bipush 6, 2) := by decide +kernel
theorem dX9_many_5 : decode cX9_many 5 = .ok (.invokestatic 135, 3) := by decide +kernel
theorem dX9_many_8 : decode cX9_many 8 = .ok (.ifCond .eq 7, 3) := by decide +kernel
theorem dX9_many_11 : decode cX9_many 11 = .ok (.iconst 0, 1) := by decide +kernel
theorem dX9_many_12 : decode cX9_many 12 = .ok (.goto 4, 3) := by decide +kernel
theorem dX9_many_15 : decode cX9_many 15 = .ok (.iconst 1, 1) := by decide +kernel
theorem dX9_many_16 : decode cX9_many 16 = .ok (.putfield 129, 3) := by decide +kernel
theorem dX9_many_19 : decode cX9_many 19 = .ok (.aload_n 0, 1) := by decide +kernel
theorem dX9_many_20 : decode cX9_many 20 = .ok (.getfield 129, 3) := by decide +kernel
theorem dX9_many_23 : decode cX9_many 23 = .ok (.ifCond .gt 12, 3) := by decide +kernel
theorem dX9_many_26 : decode cX9_many 26 = .ok (.aload_n 0, 1) := by decide +kernel
theorem dX9_many_27 : decode cX9_many 27 = .ok (.getfield 77, 3) := by decide +kernel
theorem dX9_many_30 : decode cX9_many 30 = .ok (.iload_n 1, 1) := by decide +kernel
theorem dX9_many_31 : decode cX9_many 31 = .ok (.baload, 1) := by decide +kernel
theorem dX9_many_32 : decode cX9_many 32 = .ok (.ifCond .ne 16, 3) := by decide +kernel
theorem dX9_many_35 : decode cX9_many 35 = .ok (.aload_n 0, 1) := by decide +kernel
theorem dX9_many_36 : decode cX9_many 36 = .ok (.getfield 129, 3) := by decide +kernel
theorem dX9_many_39 : decode cX9_many 39 = .ok (.ifCond .le 7, 3) := by decide +kernel
theorem dX9_many_42 : decode cX9_many 42 = .ok (.iconst 0, 1) := by decide +kernel
theorem dX9_many_43 : decode cX9_many 43 = .ok (.goto 4, 3) := by decide +kernel
theorem dX9_many_46 : decode cX9_many 46 = .ok (.iconst (-1), 1) := by decide +kernel
theorem dX9_many_47 : decode cX9_many 47 = .ok (.ireturn, 1) := by decide +kernel
theorem dX9_many_48 : decode cX9_many 48 = .ok (.aload_n 0, 1) := by decide +kernel
theorem dX9_many_49 : decode cX9_many 49 = .ok (.iload_n 1, 1) := by decide +kernel
theorem dX9_many_50 : decode cX9_many 50 = .ok (.invokevirtual 187, 3) := by decide +kernel
theorem dX9_many_53 : decode cX9_many 53 = .ok (.aload_n 0, 1) := by decide +kernel
theorem dX9_many_54 : decode cX9_many 54 = .ok (.getfield 174, 3) := by decide +kernel
theorem dX9_many_57 : decode cX9_many 57 = .ok (.ireturn, 1) := by decide +kernel
theorem dX9_at_0 : decode cX9_at 0 = .ok (.aload_n 0, 1) := by decide +kernel
theorem dX9_at_1 : decode cX9_at 1 = .ok (.iconst 1, 1) := by decide +kernel
theorem dX9_at_2 : decode cX9_at 2 = .ok (.putfield 129, 3) := by decide +kernel
theorem dX9_at_5 : decode cX9_at 5 = .ok (.iload_n 1, 1) := by decide +kernel
theorem dX9_at_6 : decode cX9_at 6 = .ok (.iconst 0, 1) := by decide +kernel
theorem dX9_at_7 : decode cX9_at 7 = .ok (.bipush 6, 2) := by decide +kernel
theorem dX9_at_9 : decode cX9_at 9 = .ok (.invokestatic 135, 3) := by decide +kernel
theorem dX9_at_12 : decode cX9_at 12 = .ok (.ifCond .eq 42, 3) := by decide +kernel
theorem dX9_at_15 : decode cX9_at 15 = .ok (.aload_n 0, 1) := by decide +kernel
theorem dX9_at_16 : decode cX9_at 16 = .ok (.iload_n 1, 1) := by decide +kernel
theorem dX9_at_17 : decode cX9_at 17 = .ok (.invokevirtual 187, 3) := by decide +kernel
theorem dX9_at_20 : decode cX9_at 20 = .ok (.aload_n 0, 1) := by decide +kernel
theorem dX9_at_21 : decode cX9_at 21 = .ok (.iload_n 2, 1) := by decide +kernel
theorem dX9_at_22 : decode cX9_at 22 = .ok (.ifCond .lt 11, 3) := by decide +kernel
theorem dX9_at_25 : decode cX9_at 25 = .ok (.iload_n 2, 1) := by decide +kernel
theorem dX9_at_26 : decode cX9_at 26 = .ok (.aload_n 0, 1) := by decide +kernel
theorem dX9_at_27 : decode cX9_at 27 = .ok (.getfield 174, 3) := by decide +kernel
theorem dX9_at_30 : decode cX9_at 30 = .ok (.if_icmp .lt 7, 3) := by decide +kernel
theorem dX9_at_33 : decode cX9_at 33 = .ok (.iconst 1, 1) := by decide +kernel
theorem dX9_at_34 : decode cX9_at 34 = .ok (.goto 17, 3) := by decide +kernel
theorem dX9_at_37 : decode cX9_at 37 = .ok (.iload_n 3, 1) := by decide +kernel
theorem dX9_at_38 : decode cX9_at 38 = .ok (.iconst 0, 1) := by decide +kernel
theorem dX9_at_39 : decode cX9_at 39 = .ok (.iconst 2, 1) := by decide +kernel
theorem dX9_at_40 : decode cX9_at 40 = .ok (.invokestatic 135, 3) := by decide +kernel
theorem dX9_at_43 : decode cX9_at 43 = .ok (.ifCond .ne 7, 3) := by decide +kernel
theorem dX9_at_46 : decode cX9_at 46 = .ok (.iconst 2, 1) := by decide +kernel
theorem dX9_at_47 : decode cX9_at 47 = .ok (.goto 4, 3) := by decide +kernel
theorem dX9_at_50 : decode cX9_at 50 = .ok (.iconst 0, 1) := by decide +kernel
theorem dX9_at_51 : decode cX9_at 51 = .ok (.putfield 129, 3) := by decide +kernel
theorem dX9_at_54 : decode cX9_at 54 = .ok (.aload_n 0, 1) := by decide +kernel
theorem dX9_at_55 : decode cX9_at 55 = .ok (.getfield 129, 3) := by decide +kernel
theorem dX9_at_58 : decode cX9_at 58 = .ok (.ifCond .le 5, 3) := by decide +kernel
theorem dX9_at_61 : decode cX9_at 61 = .ok (.iconst 0, 1) := by decide +kernel
theorem dX9_at_62 : decode cX9_at 62 = .ok (.ireturn, 1) := by decide +kernel
theorem dX9_at_63 : decode cX9_at 63 = .ok (.iload_n 3, 1) := by decide +kernel
theorem dX9_at_64 : decode cX9_at 64 = .ok (.ifCond .ne 17, 3) := by decide +kernel
theorem dX9_at_67 : decode cX9_at 67 = .ok (.aload_n 0, 1) := by decide +kernel
theorem dX9_at_68 : decode cX9_at 68 = .ok (.getfield 68, 3) := by decide +kernel
theorem dX9_at_71 : decode cX9_at 71 = .ok (.aload_n 0, 1) := by decide +kernel
theorem dX9_at_72 : decode cX9_at 72 = .ok (.getfield 123, 3) := by decide +kernel
theorem dX9_at_75 : decode cX9_at 75 = .ok (.iload_n 2, 1) := by decide +kernel
theorem dX9_at_76 : decode cX9_at 76 = .ok (.iaload, 1) := by decide +kernel
theorem dX9_at_77 : decode cX9_at 77 = .ok (.iaload, 1) := by decide +kernel
theorem dX9_at_78 : decode cX9_at 78 = .ok (.goto 33, 3) := by decide +kernel
theorem dX9_at_81 : decode cX9_at 81 = .ok (.iload_n 3, 1) := by decide +kernel
theorem dX9_at_82 : decode cX9_at 82 = .ok (.iconst 1, 1) := by decide +kernel
theorem dX9_at_83 : decode cX9_at 83 = .ok (.if_icmp .ne 17, 3) := by decide +kernel
theorem dX9_at_86 : decode cX9_at 86 = .ok (.aload_n 0, 1) := by decide +kernel
theorem dX9_at_87 : decode cX9_at 87 = .ok (.getfield 71, 3) := by decide +kernel
theorem dX9_at_90 : decode cX9_at 90 = .ok (.aload_n 0, 1) := by decide +kernel
theorem dX9_at_91 : decode cX9_at 91 = .ok (.getfield 123, 3) := by decide +kernel
theorem dX9_at_94 : decode cX9_at 94 = .ok (.iload_n 2, 1) := by decide +kernel
theorem dX9_at_95 : decode cX9_at 95 = .ok (.iaload, 1) := by decide +kernel
theorem dX9_at_96 : decode cX9_at 96 = .ok (.iaload, 1) := by decide +kernel
theorem dX9_at_97 : decode cX9_at 97 = .ok (.goto 14, 3) := by decide +kernel
theorem dX9_at_100 : decode cX9_at 100 = .ok (.aload_n 0, 1) := by decide +kernel
theorem dX9_at_101 : decode cX9_at 101 = .ok (.getfield 74, 3) := by decide +kernel
theorem dX9_at_104 : decode cX9_at 104 = .ok (.aload_n 0, 1) := by decide +kernel
theorem dX9_at_105 : decode cX9_at 105 = .ok (.getfield 123, 3) := by decide +kernel
theorem dX9_at_108 : decode cX9_at 108 = .ok (.iload_n 2, 1) := by decide +kernel
theorem dX9_at_109 : decode cX9_at 109 = .ok (.iaload, 1) := by decide +kernel
theorem dX9_at_110 : decode cX9_at 110 = .ok (.iaload, 1) := by decide +kernel
theorem dX9_at_111 : decode cX9_at 111 = .ok (.ireturn, 1) := by decide +kernel
theorem dX9_has_0 : decode cX9_has 0 = .ok (.aload_n 0, 1) := by decide +kernel
theorem dX9_has_1 : decode cX9_has 1 = .ok (.iload_n 1, 1) := by decide +kernel
theorem dX9_has_2 : decode cX9_has 2 = .ok (.iconst 0, 1) := by decide +kernel
theorem dX9_has_3 : decode cX9_has 3 = .ok (.bipush 6, 2) := by decide +kernel
theorem dX9_has_5 : decode cX9_has 5 = .ok (.invokestatic 135, 3) := by decide +kernel
theorem dX9_has_8 : decode cX9_has 8 = .ok (.ifCond .eq 7, 3) := by decide +kernel
theorem dX9_has_11 : decode cX9_has 11 = .ok (.iconst 0, 1) := by decide +kernel
theorem dX9_has_12 : decode cX9_has 12 = .ok (.goto 4, 3) := by decide +kernel
theorem dX9_has_15 : decode cX9_has 15 = .ok (.iconst 1, 1) := by decide +kernel
theorem dX9_has_16 : decode cX9_has 16 = .ok (.putfield 129, 3) := by decide +kernel
theorem dX9_has_19 : decode cX9_has 19 = .ok (.aload_n 0, 1) := by decide +kernel
theorem dX9_has_20 : decode cX9_has 20 = .ok (.getfield 129, 3) := by decide +kernel
theorem dX9_has_23 : decode cX9_has 23 = .ok (.ifCond .ne 19, 3) := by decide +kernel
theorem dX9_has_26 : decode cX9_has 26 = .ok (.aload_n 0, 1) := by decide +kernel
theorem dX9_has_27 : decode cX9_has 27 = .ok (.iload_n 1, 1) := by decide +kernel
theorem dX9_has_28 : decode cX9_has 28 = .ok (.iload_n 2, 1) := by decide +kernel
theorem dX9_has_29 : decode cX9_has 29 = .ok (.iload_n 3, 1) := by decide +kernel
theorem dX9_has_30 : decode cX9_has 30 = .ok (.iload 4, 2) := by decide +kernel
theorem dX9_has_32 : decode cX9_has 32 = .ok (.invokevirtual 163, 3) := by decide +kernel
theorem dX9_has_35 : decode cX9_has 35 = .ok (.ifCond .lt 7, 3) := by decide +kernel
theorem dX9_has_38 : decode cX9_has 38 = .ok (.iconst 1, 1) := by decide +kernel
theorem dX9_has_39 : decode cX9_has 39 = .ok (.goto 4, 3) := by decide +kernel
theorem dX9_has_42 : decode cX9_has 42 = .ok (.iconst 0, 1) := by decide +kernel
theorem dX9_has_43 : decode cX9_has 43 = .ok (.ireturn, 1) := by decide +kernel
theorem dX9_changed_0 : decode cX9_changed 0 = .ok (.aload_n 0, 1) := by decide +kernel
theorem dX9_changed_1 : decode cX9_changed 1 = .ok (.iload_n 1, 1) := by decide +kernel
theorem dX9_changed_2 : decode cX9_changed 2 = .ok (.ifCond .lt 11, 3) := by decide +kernel
theorem dX9_changed_5 : decode cX9_changed 5 = .ok (.iload_n 1, 1) := by decide +kernel
theorem dX9_changed_6 : decode cX9_changed 6 = .ok (.aload_n 0, 1) := by decide +kernel
theorem dX9_changed_7 : decode cX9_changed 7 = .ok (.getfield 250, 3) := by decide +kernel
theorem dX9_changed_10 : decode cX9_changed 10 = .ok (.if_icmp .lt 7, 3) := by decide +kernel
theorem dX9_changed_13 : decode cX9_changed 13 = .ok (.iconst 1, 1) := by decide +kernel
theorem dX9_changed_14 : decode cX9_changed 14 = .ok (.goto 17, 3) := by decide +kernel
theorem dX9_changed_17 : decode cX9_changed 17 = .ok (.iload_n 2, 1) := by decide +kernel
theorem dX9_changed_18 : decode cX9_changed 18 = .ok (.iconst 0, 1) := by decide +kernel
theorem dX9_changed_19 : decode cX9_changed 19 = .ok (.iconst 4, 1) := by decide +kernel
theorem dX9_changed_20 : decode cX9_changed 20 = .ok (.invokestatic 135, 3) := by decide +kernel
theorem dX9_changed_23 : decode cX9_changed 23 = .ok (.ifCond .ne 7, 3) := by decide +kernel
theorem dX9_changed_26 : decode cX9_changed 26 = .ok (.iconst 2, 1) := by decide +kernel
theorem dX9_changed_27 : decode cX9_changed 27 = .ok (.goto 4, 3) := by decide +kernel
theorem dX9_changed_30 : decode cX9_changed 30 = .ok (.iconst 0, 1) := by decide +kernel
theorem dX9_changed_31 : decode cX9_changed 31 = .ok (.putfield 129, 3) := by decide +kernel
theorem dX9_changed_34 : decode cX9_changed 34 = .ok (.aload_n 0, 1) := by decide +kernel
theorem dX9_changed_35 : decode cX9_changed 35 = .ok (.getfield 129, 3) := by decide +kernel
theorem dX9_changed_38 : decode cX9_changed 38 = .ok (.ifCond .le 5, 3) := by decide +kernel
theorem dX9_changed_41 : decode cX9_changed 41 = .ok (.iconst 0, 1) := by decide +kernel
theorem dX9_changed_42 : decode cX9_changed 42 = .ok (.ireturn, 1) := by decide +kernel
theorem dX9_changed_43 : decode cX9_changed 43 = .ok (.iload_n 2, 1) := by decide +kernel
theorem dX9_changed_44 : decode cX9_changed 44 = .ok (.tableswitch 60 0 3 #[32, 39, 46, 53], 32) := by decide +kernel
theorem dX9_changed_76 : decode cX9_changed 76 = .ok (.aload_n 0, 1) := by decide +kernel
theorem dX9_changed_77 : decode cX9_changed 77 = .ok (.getfield 95, 3) := by decide +kernel
theorem dX9_changed_80 : decode cX9_changed 80 = .ok (.iload_n 1, 1) := by decide +kernel
theorem dX9_changed_81 : decode cX9_changed 81 = .ok (.iaload, 1) := by decide +kernel
theorem dX9_changed_82 : decode cX9_changed 82 = .ok (.ireturn, 1) := by decide +kernel
theorem dX9_changed_83 : decode cX9_changed 83 = .ok (.aload_n 0, 1) := by decide +kernel
theorem dX9_changed_84 : decode cX9_changed 84 = .ok (.getfield 98, 3) := by decide +kernel
theorem dX9_changed_87 : decode cX9_changed 87 = .ok (.iload_n 1, 1) := by decide +kernel
theorem dX9_changed_88 : decode cX9_changed 88 = .ok (.iaload, 1) := by decide +kernel
theorem dX9_changed_89 : decode cX9_changed 89 = .ok (.ireturn, 1) := by decide +kernel
theorem dX9_changed_90 : decode cX9_changed 90 = .ok (.aload_n 0, 1) := by decide +kernel
theorem dX9_changed_91 : decode cX9_changed 91 = .ok (.getfield 101, 3) := by decide +kernel
theorem dX9_changed_94 : decode cX9_changed 94 = .ok (.iload_n 1, 1) := by decide +kernel
theorem dX9_changed_95 : decode cX9_changed 95 = .ok (.iaload, 1) := by decide +kernel
theorem dX9_changed_96 : decode cX9_changed 96 = .ok (.ireturn, 1) := by decide +kernel
theorem dX9_changed_97 : decode cX9_changed 97 = .ok (.aload_n 0, 1) := by decide +kernel
theorem dX9_changed_98 : decode cX9_changed 98 = .ok (.getfield 104, 3) := by decide +kernel
theorem dX9_changed_101 : decode cX9_changed 101 = .ok (.iload_n 1, 1) := by decide +kernel
theorem dX9_changed_102 : decode cX9_changed 102 = .ok (.iaload, 1) := by decide +kernel
theorem dX9_changed_103 : decode cX9_changed 103 = .ok (.ireturn, 1) := by decide +kernel
theorem dX9_changed_104 : decode cX9_changed 104 = .ok (.aload_n 0, 1) := by decide +kernel
theorem dX9_changed_105 : decode cX9_changed 105 = .ok (.getfield 107, 3) := by decide +kernel
theorem dX9_changed_108 : decode cX9_changed 108 = .ok (.iload_n 1, 1) := by decide +kernel
theorem dX9_changed_109 : decode cX9_changed 109 = .ok (.baload, 1) := by decide +kernel
theorem dX9_changed_110 : decode cX9_changed 110 = .ok (.ifCond .eq 7, 3) := by decide +kernel
theorem dX9_changed_113 : decode cX9_changed 113 = .ok (.iconst 1, 1) := by decide +kernel
theorem dX9_changed_114 : decode cX9_changed 114 = .ok (.goto 4, 3) := by decide +kernel
theorem dX9_changed_117 : decode cX9_changed 117 = .ok (.iconst 0, 1) := by decide +kernel
theorem dX9_changed_118 : decode cX9_changed 118 = .ok (.ireturn, 1) := by decide +kernel
theorem dX9_solutions_0 : decode cX9_solutions 0 = .ok (.aload_n 0, 1) := by decide +kernel
theorem dX9_solutions_1 : decode cX9_solutions 1 = .ok (.aload_n 0, 1) := by decide +kernel
theorem dX9_solutions_2 : decode cX9_solutions 2 = .ok (.iload_n 1, 1) := by decide +kernel
theorem dX9_solutions_3 : decode cX9_solutions 3 = .ok (.invokevirtual 143, 3) := by decide +kernel
theorem dX9_solutions_6 : decode cX9_solutions 6 = .ok (.ifCond .eq 7, 3) := by decide +kernel
theorem dX9_solutions_9 : decode cX9_solutions 9 = .ok (.iconst 0, 1) := by decide +kernel
theorem dX9_solutions_10 : decode cX9_solutions 10 = .ok (.goto 4, 3) := by decide +kernel
theorem dX9_solutions_13 : decode cX9_solutions 13 = .ok (.iconst 1, 1) := by decide +kernel
theorem dX9_solutions_14 : decode cX9_solutions 14 = .ok (.putfield 129, 3) := by decide +kernel
theorem dX9_solutions_17 : decode cX9_solutions 17 = .ok (.aload_n 0, 1) := by decide +kernel
theorem dX9_solutions_18 : decode cX9_solutions 18 = .ok (.getfield 129, 3) := by decide +kernel
theorem dX9_solutions_21 : decode cX9_solutions 21 = .ok (.ifCond .le 7, 3) := by decide +kernel
theorem dX9_solutions_24 : decode cX9_solutions 24 = .ok (.iconst 0, 1) := by decide +kernel
theorem dX9_solutions_25 : decode cX9_solutions 25 = .ok (.goto 9, 3) := by decide +kernel
theorem dX9_solutions_28 : decode cX9_solutions 28 = .ok (.aload_n 0, 1) := by decide +kernel
theorem dX9_solutions_29 : decode cX9_solutions 29 = .ok (.getfield 110, 3) := by decide +kernel
theorem dX9_solutions_32 : decode cX9_solutions 32 = .ok (.iload_n 1, 1) := by decide +kernel
theorem dX9_solutions_33 : decode cX9_solutions 33 = .ok (.iaload, 1) := by decide +kernel
theorem dX9_solutions_34 : decode cX9_solutions 34 = .ok (.ireturn, 1) := by decide +kernel
theorem dX9_told_0 : decode cX9_told 0 = .ok (.aload_n 0, 1) := by decide +kernel
theorem dX9_told_1 : decode cX9_told 1 = .ok (.iload_n 1, 1) := by decide +kernel
theorem dX9_told_2 : decode cX9_told 2 = .ok (.iconst 0, 1) := by decide +kernel
theorem dX9_told_3 : decode cX9_told 3 = .ok (.iconst 4, 1) := by decide +kernel
theorem dX9_told_4 : decode cX9_told 4 = .ok (.invokestatic 135, 3) := by decide +kernel
theorem dX9_told_7 : decode cX9_told 7 = .ok (.ifCond .eq 7, 3) := by decide +kernel
theorem dX9_told_10 : decode cX9_told 10 = .ok (.iconst 0, 1) := by decide +kernel
theorem dX9_told_11 : decode cX9_told 11 = .ok (.goto 4, 3) := by decide +kernel
theorem dX9_told_14 : decode cX9_told 14 = .ok (.iconst 1, 1) := by decide +kernel
theorem dX9_told_15 : decode cX9_told 15 = .ok (.putfield 129, 3) := by decide +kernel
theorem dX9_told_18 : decode cX9_told 18 = .ok (.aload_n 0, 1) := by decide +kernel
theorem dX9_told_19 : decode cX9_told 19 = .ok (.getfield 129, 3) := by decide +kernel
theorem dX9_told_22 : decode cX9_told 22 = .ok (.ifCond .le 5, 3) := by decide +kernel
theorem dX9_told_25 : decode cX9_told 25 = .ok (.iconst 0, 1) := by decide +kernel
theorem dX9_told_26 : decode cX9_told 26 = .ok (.ireturn, 1) := by decide +kernel
theorem dX9_told_27 : decode cX9_told 27 = .ok (.iload_n 1, 1) := by decide +kernel
theorem dX9_told_28 : decode cX9_told 28 = .ok (.ifCond .ne 10, 3) := by decide +kernel
theorem dX9_told_31 : decode cX9_told 31 = .ok (.aload_n 0, 1) := by decide +kernel
theorem dX9_told_32 : decode cX9_told 32 = .ok (.getfield 132, 3) := by decide +kernel
theorem dX9_told_35 : decode cX9_told 35 = .ok (.goto 43, 3) := by decide +kernel
theorem dX9_told_38 : decode cX9_told 38 = .ok (.iload_n 1, 1) := by decide +kernel
theorem dX9_told_39 : decode cX9_told 39 = .ok (.iconst 1, 1) := by decide +kernel
theorem dX9_told_40 : decode cX9_told 40 = .ok (.if_icmp .ne 10, 3) := by decide +kernel
theorem dX9_told_43 : decode cX9_told 43 = .ok (.aload_n 0, 1) := by decide +kernel
theorem dX9_told_44 : decode cX9_told 44 = .ok (.getfield 160, 3) := by decide +kernel
theorem dX9_told_47 : decode cX9_told 47 = .ok (.goto 31, 3) := by decide +kernel
theorem dX9_told_50 : decode cX9_told 50 = .ok (.iload_n 1, 1) := by decide +kernel
theorem dX9_told_51 : decode cX9_told 51 = .ok (.iconst 2, 1) := by decide +kernel
theorem dX9_told_52 : decode cX9_told 52 = .ok (.if_icmp .ne 10, 3) := by decide +kernel
theorem dX9_told_55 : decode cX9_told 55 = .ok (.aload_n 0, 1) := by decide +kernel
theorem dX9_told_56 : decode cX9_told 56 = .ok (.getfield 199, 3) := by decide +kernel
theorem dX9_told_59 : decode cX9_told 59 = .ok (.goto 19, 3) := by decide +kernel
theorem dX9_told_62 : decode cX9_told 62 = .ok (.iload_n 1, 1) := by decide +kernel
theorem dX9_told_63 : decode cX9_told 63 = .ok (.iconst 3, 1) := by decide +kernel
theorem dX9_told_64 : decode cX9_told 64 = .ok (.if_icmp .ne 10, 3) := by decide +kernel
theorem dX9_told_67 : decode cX9_told 67 = .ok (.aload_n 0, 1) := by decide +kernel
theorem dX9_told_68 : decode cX9_told 68 = .ok (.getfield 250, 3) := by decide +kernel
theorem dX9_told_71 : decode cX9_told 71 = .ok (.goto 7, 3) := by decide +kernel
theorem dX9_told_74 : decode cX9_told 74 = .ok (.aload_n 0, 1) := by decide +kernel
theorem dX9_told_75 : decode cX9_told 75 = .ok (.getfield 196, 3) := by decide +kernel
theorem dX9_told_78 : decode cX9_told 78 = .ok (.ireturn, 1) := by decide +kernel
theorem dJ7_fill_53178_0 : decode cJ7_fill_53178 0 = .ok (.iconst 0, 1) := by decide +kernel
theorem dJ7_fill_53178_1 : decode cJ7_fill_53178 1 = .ok (.istore_n 2, 1) := by decide +kernel
theorem dJ7_fill_53178_2 : decode cJ7_fill_53178 2 = .ok (.aload_n 0, 1) := by decide +kernel
theorem dJ7_fill_53178_3 : decode cJ7_fill_53178 3 = .ok (.arraylength, 1) := by decide +kernel
theorem dJ7_fill_53178_4 : decode cJ7_fill_53178 4 = .ok (.istore_n 3, 1) := by decide +kernel
theorem dJ7_fill_53178_5 : decode cJ7_fill_53178 5 = .ok (.iload_n 2, 1) := by decide +kernel
theorem dJ7_fill_53178_6 : decode cJ7_fill_53178 6 = .ok (.iload_n 3, 1) := by decide +kernel
theorem dJ7_fill_53178_7 : decode cJ7_fill_53178 7 = .ok (.if_icmp .ge 13, 3) := by decide +kernel
theorem dJ7_fill_53178_10 : decode cJ7_fill_53178 10 = .ok (.aload_n 0, 1) := by decide +kernel
theorem dJ7_fill_53178_11 : decode cJ7_fill_53178 11 = .ok (.iload_n 2, 1) := by decide +kernel
theorem dJ7_fill_53178_12 : decode cJ7_fill_53178 12 = .ok (.iload_n 1, 1) := by decide +kernel
theorem dJ7_fill_53178_13 : decode cJ7_fill_53178 13 = .ok (.iastore, 1) := by decide +kernel
theorem dJ7_fill_53178_14 : decode cJ7_fill_53178 14 = .ok (.iinc 2 1, 3) := by decide +kernel
theorem dJ7_fill_53178_17 : decode cJ7_fill_53178 17 = .ok (.goto (-12), 3) := by decide +kernel
theorem dJ7_fill_53178_20 : decode cJ7_fill_53178 20 = .ok (.return_, 1) := by decide +kernel
theorem dL_step_0 : decode cL_step 0 = .ok (.aload 4, 2) := by decide +kernel
theorem dL_step_2 : decode cL_step 2 = .ok (.iconst 0, 1) := by decide +kernel
theorem dL_step_3 : decode cL_step 3 = .ok (.aload_n 0, 1) := by decide +kernel
theorem dL_step_4 : decode cL_step 4 = .ok (.iload_n 1, 1) := by decide +kernel
theorem dL_step_5 : decode cL_step 5 = .ok (.iload_n 2, 1) := by decide +kernel
theorem dL_step_6 : decode cL_step 6 = .ok (.iload_n 3, 1) := by decide +kernel
theorem dL_step_7 : decode cL_step 7 = .ok (.invokevirtual 7, 3) := by decide +kernel
theorem dL_step_10 : decode cL_step 10 = .ok (.i2l, 1) := by decide +kernel
theorem dL_step_11 : decode cL_step 11 = .ok (.lastore, 1) := by decide +kernel
theorem dL_step_12 : decode cL_step 12 = .ok (.goto 11, 3) := by decide +kernel
theorem dL_step_15 : decode cL_step 15 = .ok (.astore 5, 2) := by decide +kernel
theorem dL_step_17 : decode cL_step 17 = .ok (.iconst 1, 1) := by decide +kernel
theorem dL_step_18 : decode cL_step 18 = .ok (.ireturn, 1) := by decide +kernel
theorem dL_step_19 : decode cL_step 19 = .ok (.astore 5, 2) := by decide +kernel
theorem dL_step_21 : decode cL_step 21 = .ok (.iconst 2, 1) := by decide +kernel
theorem dL_step_22 : decode cL_step 22 = .ok (.ireturn, 1) := by decide +kernel
theorem dL_step_23 : decode cL_step 23 = .ok (.iconst 0, 1) := by decide +kernel
theorem dL_step_24 : decode cL_step 24 = .ok (.ireturn, 1) := by decide +kernel
theorem dL_silent_0 : decode cL_silent 0 = .ok (.aload_n 3, 1) := by decide +kernel
theorem dL_silent_1 : decode cL_silent 1 = .ok (.iconst 0, 1) := by decide +kernel
theorem dL_silent_2 : decode cL_silent 2 = .ok (.aload_n 0, 1) := by decide +kernel
theorem dL_silent_3 : decode cL_silent 3 = .ok (.iload_n 1, 1) := by decide +kernel
theorem dL_silent_4 : decode cL_silent 4 = .ok (.iload_n 2, 1) := by decide +kernel
theorem dL_silent_5 : decode cL_silent 5 = .ok (.invokevirtual 17, 3) := by decide +kernel
theorem dL_silent_8 : decode cL_silent 8 = .ok (.ifCond .eq 7, 3) := by decide +kernel
theorem dL_silent_11 : decode cL_silent 11 = .ok (.lconst 1, 1) := by decide +kernel
theorem dL_silent_12 : decode cL_silent 12 = .ok (.goto 4, 3) := by decide +kernel
theorem dL_silent_15 : decode cL_silent 15 = .ok (.lconst 0, 1) := by decide +kernel
theorem dL_silent_16 : decode cL_silent 16 = .ok (.lastore, 1) := by decide +kernel
theorem dL_silent_17 : decode cL_silent 17 = .ok (.goto 7, 3) := by decide +kernel
theorem dL_silent_20 : decode cL_silent 20 = .ok (.astore 4, 2) := by decide +kernel
theorem dL_silent_22 : decode cL_silent 22 = .ok (.iconst 1, 1) := by decide +kernel
theorem dL_silent_23 : decode cL_silent 23 = .ok (.ireturn, 1) := by decide +kernel
theorem dL_silent_24 : decode cL_silent 24 = .ok (.iconst 0, 1) := by decide +kernel
theorem dL_silent_25 : decode cL_silent 25 = .ok (.ireturn, 1) := by decide +kernel
theorem dL_template_0 : decode cL_template 0 = .ok (.aload 6, 2) := by decide +kernel
theorem dL_template_2 : decode cL_template 2 = .ok (.iconst 0, 1) := by decide +kernel
theorem dL_template_3 : decode cL_template 3 = .ok (.aload_n 0, 1) := by decide +kernel
theorem dL_template_4 : decode cL_template 4 = .ok (.iload_n 1, 1) := by decide +kernel
theorem dL_template_5 : decode cL_template 5 = .ok (.iload_n 2, 1) := by decide +kernel
theorem dL_template_6 : decode cL_template 6 = .ok (.iload_n 3, 1) := by decide +kernel
theorem dL_template_7 : decode cL_template 7 = .ok (.iload 4, 2) := by decide +kernel
theorem dL_template_9 : decode cL_template 9 = .ok (.iload 5, 2) := by decide +kernel
theorem dL_template_11 : decode cL_template 11 = .ok (.invokevirtual 23, 3) := by decide +kernel
theorem dL_template_14 : decode cL_template 14 = .ok (.i2l, 1) := by decide +kernel
theorem dL_template_15 : decode cL_template 15 = .ok (.lastore, 1) := by decide +kernel
theorem dL_template_16 : decode cL_template 16 = .ok (.goto 15, 3) := by decide +kernel
theorem dL_template_19 : decode cL_template 19 = .ok (.astore 7, 2) := by decide +kernel
theorem dL_template_21 : decode cL_template 21 = .ok (.iconst 1, 1) := by decide +kernel
theorem dL_template_22 : decode cL_template 22 = .ok (.ireturn, 1) := by decide +kernel
theorem dL_template_23 : decode cL_template 23 = .ok (.astore 7, 2) := by decide +kernel
theorem dL_template_25 : decode cL_template 25 = .ok (.iconst 2, 1) := by decide +kernel
theorem dL_template_26 : decode cL_template 26 = .ok (.ireturn, 1) := by decide +kernel
theorem dL_template_27 : decode cL_template 27 = .ok (.astore 7, 2) := by decide +kernel
theorem dL_template_29 : decode cL_template 29 = .ok (.iconst 3, 1) := by decide +kernel
theorem dL_template_30 : decode cL_template 30 = .ok (.ireturn, 1) := by decide +kernel
theorem dL_template_31 : decode cL_template 31 = .ok (.iconst 0, 1) := by decide +kernel
theorem dL_template_32 : decode cL_template 32 = .ok (.ireturn, 1) := by decide +kernel
theorem dL_pattern_0 : decode cL_pattern 0 = .ok (.aload 5, 2) := by decide +kernel
theorem dL_pattern_2 : decode cL_pattern 2 = .ok (.iconst 0, 1) := by decide +kernel
theorem dL_pattern_3 : decode cL_pattern 3 = .ok (.aload_n 0, 1) := by decide +kernel
theorem dL_pattern_4 : decode cL_pattern 4 = .ok (.iload_n 1, 1) := by decide +kernel
theorem dL_pattern_5 : decode cL_pattern 5 = .ok (.iload_n 2, 1) := by decide +kernel
theorem dL_pattern_6 : decode cL_pattern 6 = .ok (.iload_n 3, 1) := by decide +kernel
theorem dL_pattern_7 : decode cL_pattern 7 = .ok (.iload 4, 2) := by decide +kernel
theorem dL_pattern_9 : decode cL_pattern 9 = .ok (.invokevirtual 27, 3) := by decide +kernel
theorem dL_pattern_12 : decode cL_pattern 12 = .ok (.i2l, 1) := by decide +kernel
theorem dL_pattern_13 : decode cL_pattern 13 = .ok (.lastore, 1) := by decide +kernel
theorem dL_pattern_14 : decode cL_pattern 14 = .ok (.goto 15, 3) := by decide +kernel
theorem dL_pattern_17 : decode cL_pattern 17 = .ok (.astore 6, 2) := by decide +kernel
theorem dL_pattern_19 : decode cL_pattern 19 = .ok (.iconst 1, 1) := by decide +kernel
theorem dL_pattern_20 : decode cL_pattern 20 = .ok (.ireturn, 1) := by decide +kernel
theorem dL_pattern_21 : decode cL_pattern 21 = .ok (.astore 6, 2) := by decide +kernel
theorem dL_pattern_23 : decode cL_pattern 23 = .ok (.iconst 2, 1) := by decide +kernel
theorem dL_pattern_24 : decode cL_pattern 24 = .ok (.ireturn, 1) := by decide +kernel
theorem dL_pattern_25 : decode cL_pattern 25 = .ok (.astore 6, 2) := by decide +kernel
theorem dL_pattern_27 : decode cL_pattern 27 = .ok (.iconst 3, 1) := by decide +kernel
theorem dL_pattern_28 : decode cL_pattern 28 = .ok (.ireturn, 1) := by decide +kernel
theorem dL_pattern_29 : decode cL_pattern 29 = .ok (.iconst 0, 1) := by decide +kernel
theorem dL_pattern_30 : decode cL_pattern 30 = .ok (.ireturn, 1) := by decide +kernel
theorem dL_file_0 : decode cL_file 0 = .ok (.aload 5, 2) := by decide +kernel
theorem dL_file_2 : decode cL_file 2 = .ok (.iconst 0, 1) := by decide +kernel
theorem dL_file_3 : decode cL_file 3 = .ok (.aload_n 0, 1) := by decide +kernel
theorem dL_file_4 : decode cL_file 4 = .ok (.iload_n 1, 1) := by decide +kernel
theorem dL_file_5 : decode cL_file 5 = .ok (.iload_n 2, 1) := by decide +kernel
theorem dL_file_6 : decode cL_file 6 = .ok (.iload_n 3, 1) := by decide +kernel
theorem dL_file_7 : decode cL_file 7 = .ok (.iload 4, 2) := by decide +kernel
theorem dL_file_9 : decode cL_file 9 = .ok (.invokevirtual 31, 3) := by decide +kernel
theorem dL_file_12 : decode cL_file 12 = .ok (.i2l, 1) := by decide +kernel
theorem dL_file_13 : decode cL_file 13 = .ok (.lastore, 1) := by decide +kernel
theorem dL_file_14 : decode cL_file 14 = .ok (.goto 15, 3) := by decide +kernel
theorem dL_file_17 : decode cL_file 17 = .ok (.astore 6, 2) := by decide +kernel
theorem dL_file_19 : decode cL_file 19 = .ok (.iconst 1, 1) := by decide +kernel
theorem dL_file_20 : decode cL_file 20 = .ok (.ireturn, 1) := by decide +kernel
theorem dL_file_21 : decode cL_file 21 = .ok (.astore 6, 2) := by decide +kernel
theorem dL_file_23 : decode cL_file 23 = .ok (.iconst 2, 1) := by decide +kernel
theorem dL_file_24 : decode cL_file 24 = .ok (.ireturn, 1) := by decide +kernel
theorem dL_file_25 : decode cL_file 25 = .ok (.astore 6, 2) := by decide +kernel
theorem dL_file_27 : decode cL_file 27 = .ok (.iconst 3, 1) := by decide +kernel
theorem dL_file_28 : decode cL_file 28 = .ok (.ireturn, 1) := by decide +kernel
theorem dL_file_29 : decode cL_file 29 = .ok (.iconst 0, 1) := by decide +kernel
theorem dL_file_30 : decode cL_file 30 = .ok (.ireturn, 1) := by decide +kernel
theorem dL_torn_0 : decode cL_torn 0 = .ok (.aload_n 3, 1) := by decide +kernel
theorem dL_torn_1 : decode cL_torn 1 = .ok (.iconst 0, 1) := by decide +kernel
theorem dL_torn_2 : decode cL_torn 2 = .ok (.aload_n 0, 1) := by decide +kernel
theorem dL_torn_3 : decode cL_torn 3 = .ok (.iload_n 1, 1) := by decide +kernel
theorem dL_torn_4 : decode cL_torn 4 = .ok (.iload_n 2, 1) := by decide +kernel
theorem dL_torn_5 : decode cL_torn 5 = .ok (.invokevirtual 34, 3) := by decide +kernel
theorem dL_torn_8 : decode cL_torn 8 = .ok (.ifCond .eq 7, 3) := by decide +kernel
theorem dL_torn_11 : decode cL_torn 11 = .ok (.lconst 1, 1) := by decide +kernel
theorem dL_torn_12 : decode cL_torn 12 = .ok (.goto 4, 3) := by decide +kernel
theorem dL_torn_15 : decode cL_torn 15 = .ok (.lconst 0, 1) := by decide +kernel
theorem dL_torn_16 : decode cL_torn 16 = .ok (.lastore, 1) := by decide +kernel
theorem dL_torn_17 : decode cL_torn 17 = .ok (.goto 7, 3) := by decide +kernel
theorem dL_torn_20 : decode cL_torn 20 = .ok (.astore 4, 2) := by decide +kernel
theorem dL_torn_22 : decode cL_torn 22 = .ok (.iconst 1, 1) := by decide +kernel
theorem dL_torn_23 : decode cL_torn 23 = .ok (.ireturn, 1) := by decide +kernel
theorem dL_torn_24 : decode cL_torn 24 = .ok (.iconst 0, 1) := by decide +kernel
theorem dL_torn_25 : decode cL_torn 25 = .ok (.ireturn, 1) := by decide +kernel
theorem dL_many_0 : decode cL_many 0 = .ok (.aload_n 2, 1) := by decide +kernel
theorem dL_many_1 : decode cL_many 1 = .ok (.iconst 0, 1) := by decide +kernel
theorem dL_many_2 : decode cL_many 2 = .ok (.aload_n 0, 1) := by decide +kernel
theorem dL_many_3 : decode cL_many 3 = .ok (.iload_n 1, 1) := by decide +kernel
theorem dL_many_4 : decode cL_many 4 = .ok (.invokevirtual 37, 3) := by decide +kernel
theorem dL_many_7 : decode cL_many 7 = .ok (.i2l, 1) := by decide +kernel
theorem dL_many_8 : decode cL_many 8 = .ok (.lastore, 1) := by decide +kernel
theorem dL_many_9 : decode cL_many 9 = .ok (.goto 6, 3) := by decide +kernel
theorem dL_many_12 : decode cL_many 12 = .ok (.astore_n 3, 1) := by decide +kernel
theorem dL_many_13 : decode cL_many 13 = .ok (.iconst 1, 1) := by decide +kernel
theorem dL_many_14 : decode cL_many 14 = .ok (.ireturn, 1) := by decide +kernel
theorem dL_many_15 : decode cL_many 15 = .ok (.iconst 0, 1) := by decide +kernel
theorem dL_many_16 : decode cL_many 16 = .ok (.ireturn, 1) := by decide +kernel
theorem dL_at_0 : decode cL_at 0 = .ok (.aload 4, 2) := by decide +kernel
theorem dL_at_2 : decode cL_at 2 = .ok (.iconst 0, 1) := by decide +kernel
theorem dL_at_3 : decode cL_at 3 = .ok (.aload_n 0, 1) := by decide +kernel
theorem dL_at_4 : decode cL_at 4 = .ok (.iload_n 1, 1) := by decide +kernel
theorem dL_at_5 : decode cL_at 5 = .ok (.iload_n 2, 1) := by decide +kernel
theorem dL_at_6 : decode cL_at 6 = .ok (.iload_n 3, 1) := by decide +kernel
theorem dL_at_7 : decode cL_at 7 = .ok (.invokevirtual 41, 3) := by decide +kernel
theorem dL_at_10 : decode cL_at 10 = .ok (.i2l, 1) := by decide +kernel
theorem dL_at_11 : decode cL_at 11 = .ok (.lastore, 1) := by decide +kernel
theorem dL_at_12 : decode cL_at 12 = .ok (.goto 11, 3) := by decide +kernel
theorem dL_at_15 : decode cL_at 15 = .ok (.astore 5, 2) := by decide +kernel
theorem dL_at_17 : decode cL_at 17 = .ok (.iconst 1, 1) := by decide +kernel
theorem dL_at_18 : decode cL_at 18 = .ok (.ireturn, 1) := by decide +kernel
theorem dL_at_19 : decode cL_at 19 = .ok (.astore 5, 2) := by decide +kernel
theorem dL_at_21 : decode cL_at 21 = .ok (.iconst 2, 1) := by decide +kernel
theorem dL_at_22 : decode cL_at 22 = .ok (.ireturn, 1) := by decide +kernel
theorem dL_at_23 : decode cL_at 23 = .ok (.iconst 0, 1) := by decide +kernel
theorem dL_at_24 : decode cL_at 24 = .ok (.ireturn, 1) := by decide +kernel
theorem dL_has_0 : decode cL_has 0 = .ok (.aload 5, 2) := by decide +kernel
theorem dL_has_2 : decode cL_has 2 = .ok (.iconst 0, 1) := by decide +kernel
theorem dL_has_3 : decode cL_has 3 = .ok (.aload_n 0, 1) := by decide +kernel
theorem dL_has_4 : decode cL_has 4 = .ok (.iload_n 1, 1) := by decide +kernel
theorem dL_has_5 : decode cL_has 5 = .ok (.iload_n 2, 1) := by decide +kernel
theorem dL_has_6 : decode cL_has 6 = .ok (.iload_n 3, 1) := by decide +kernel
theorem dL_has_7 : decode cL_has 7 = .ok (.iload 4, 2) := by decide +kernel
theorem dL_has_9 : decode cL_has 9 = .ok (.invokevirtual 44, 3) := by decide +kernel
theorem dL_has_12 : decode cL_has 12 = .ok (.ifCond .eq 7, 3) := by decide +kernel
theorem dL_has_15 : decode cL_has 15 = .ok (.lconst 1, 1) := by decide +kernel
theorem dL_has_16 : decode cL_has 16 = .ok (.goto 4, 3) := by decide +kernel
theorem dL_has_19 : decode cL_has 19 = .ok (.lconst 0, 1) := by decide +kernel
theorem dL_has_20 : decode cL_has 20 = .ok (.lastore, 1) := by decide +kernel
theorem dL_has_21 : decode cL_has 21 = .ok (.goto 7, 3) := by decide +kernel
theorem dL_has_24 : decode cL_has 24 = .ok (.astore 6, 2) := by decide +kernel
theorem dL_has_26 : decode cL_has 26 = .ok (.iconst 1, 1) := by decide +kernel
theorem dL_has_27 : decode cL_has 27 = .ok (.ireturn, 1) := by decide +kernel
theorem dL_has_28 : decode cL_has 28 = .ok (.iconst 0, 1) := by decide +kernel
theorem dL_has_29 : decode cL_has 29 = .ok (.ireturn, 1) := by decide +kernel
theorem dL_changed_0 : decode cL_changed 0 = .ok (.aload_n 3, 1) := by decide +kernel
theorem dL_changed_1 : decode cL_changed 1 = .ok (.iconst 0, 1) := by decide +kernel
theorem dL_changed_2 : decode cL_changed 2 = .ok (.aload_n 0, 1) := by decide +kernel
theorem dL_changed_3 : decode cL_changed 3 = .ok (.iload_n 1, 1) := by decide +kernel
theorem dL_changed_4 : decode cL_changed 4 = .ok (.iload_n 2, 1) := by decide +kernel
theorem dL_changed_5 : decode cL_changed 5 = .ok (.invokevirtual 48, 3) := by decide +kernel
theorem dL_changed_8 : decode cL_changed 8 = .ok (.i2l, 1) := by decide +kernel
theorem dL_changed_9 : decode cL_changed 9 = .ok (.lastore, 1) := by decide +kernel
theorem dL_changed_10 : decode cL_changed 10 = .ok (.goto 11, 3) := by decide +kernel
theorem dL_changed_13 : decode cL_changed 13 = .ok (.astore 4, 2) := by decide +kernel
theorem dL_changed_15 : decode cL_changed 15 = .ok (.iconst 1, 1) := by decide +kernel
theorem dL_changed_16 : decode cL_changed 16 = .ok (.ireturn, 1) := by decide +kernel
theorem dL_changed_17 : decode cL_changed 17 = .ok (.astore 4, 2) := by decide +kernel
theorem dL_changed_19 : decode cL_changed 19 = .ok (.iconst 2, 1) := by decide +kernel
theorem dL_changed_20 : decode cL_changed 20 = .ok (.ireturn, 1) := by decide +kernel
theorem dL_changed_21 : decode cL_changed 21 = .ok (.iconst 0, 1) := by decide +kernel
theorem dL_changed_22 : decode cL_changed 22 = .ok (.ireturn, 1) := by decide +kernel
theorem dL_solutions_0 : decode cL_solutions 0 = .ok (.aload_n 2, 1) := by decide +kernel
theorem dL_solutions_1 : decode cL_solutions 1 = .ok (.iconst 0, 1) := by decide +kernel
theorem dL_solutions_2 : decode cL_solutions 2 = .ok (.aload_n 0, 1) := by decide +kernel
theorem dL_solutions_3 : decode cL_solutions 3 = .ok (.iload_n 1, 1) := by decide +kernel
theorem dL_solutions_4 : decode cL_solutions 4 = .ok (.invokevirtual 52, 3) := by decide +kernel
theorem dL_solutions_7 : decode cL_solutions 7 = .ok (.i2l, 1) := by decide +kernel
theorem dL_solutions_8 : decode cL_solutions 8 = .ok (.lastore, 1) := by decide +kernel
theorem dL_solutions_9 : decode cL_solutions 9 = .ok (.goto 6, 3) := by decide +kernel
theorem dL_solutions_12 : decode cL_solutions 12 = .ok (.astore_n 3, 1) := by decide +kernel
theorem dL_solutions_13 : decode cL_solutions 13 = .ok (.iconst 1, 1) := by decide +kernel
theorem dL_solutions_14 : decode cL_solutions 14 = .ok (.ireturn, 1) := by decide +kernel
theorem dL_solutions_15 : decode cL_solutions 15 = .ok (.iconst 0, 1) := by decide +kernel
theorem dL_solutions_16 : decode cL_solutions 16 = .ok (.ireturn, 1) := by decide +kernel
theorem dL_told_0 : decode cL_told 0 = .ok (.aload_n 2, 1) := by decide +kernel
theorem dL_told_1 : decode cL_told 1 = .ok (.iconst 0, 1) := by decide +kernel
theorem dL_told_2 : decode cL_told 2 = .ok (.aload_n 0, 1) := by decide +kernel
theorem dL_told_3 : decode cL_told 3 = .ok (.iload_n 1, 1) := by decide +kernel
theorem dL_told_4 : decode cL_told 4 = .ok (.invokevirtual 55, 3) := by decide +kernel
theorem dL_told_7 : decode cL_told 7 = .ok (.i2l, 1) := by decide +kernel
theorem dL_told_8 : decode cL_told 8 = .ok (.lastore, 1) := by decide +kernel
theorem dL_told_9 : decode cL_told 9 = .ok (.goto 6, 3) := by decide +kernel
theorem dL_told_12 : decode cL_told 12 = .ok (.astore_n 3, 1) := by decide +kernel
theorem dL_told_13 : decode cL_told 13 = .ok (.iconst 1, 1) := by decide +kernel
theorem dL_told_14 : decode cL_told 14 = .ok (.ireturn, 1) := by decide +kernel
theorem dL_told_15 : decode cL_told 15 = .ok (.iconst 0, 1) := by decide +kernel
theorem dL_told_16 : decode cL_told 16 = .ok (.ireturn, 1) := by decide +kernel
theorem dL_law_0 : decode cL_law 0 = .ok (.new 8, 3) := by decide +kernel
theorem dL_law_3 : decode cL_law 3 = .ok (.dup, 1) := by decide +kernel
theorem dL_law_4 : decode cL_law 4 = .ok (.invokespecial 58, 3) := by decide +kernel
theorem dL_law_7 : decode cL_law 7 = .ok (.astore_n 1, 1) := by decide +kernel
theorem dL_law_8 : decode cL_law 8 = .ok (.new 59, 3) := by decide +kernel
theorem dL_law_11 : decode cL_law 11 = .ok (.dup, 1) := by decide +kernel
theorem dL_law_12 : decode cL_law 12 = .ok (.invokespecial 61, 3) := by decide +kernel
theorem dL_law_15 : decode cL_law 15 = .ok (.astore_n 2, 1) := by decide +kernel
theorem dL_law_16 : decode cL_law 16 = .ok (.iconst 1, 1) := by decide +kernel
theorem dL_law_17 : decode cL_law 17 = .ok (.newarray .long, 2) := by decide +kernel
theorem dL_law_19 : decode cL_law 19 = .ok (.astore_n 3, 1) := by decide +kernel
theorem dL_law_20 : decode cL_law 20 = .ok (.iconst 0, 1) := by decide +kernel
theorem dL_law_21 : decode cL_law 21 = .ok (.istore 4, 2) := by decide +kernel
theorem dL_law_23 : decode cL_law 23 = .ok (.iload 4, 2) := by decide +kernel
theorem dL_law_25 : decode cL_law 25 = .ok (.aload_n 0, 1) := by decide +kernel
theorem dL_law_26 : decode cL_law 26 = .ok (.arraylength, 1) := by decide +kernel
theorem dL_law_27 : decode cL_law 27 = .ok (.bipush 6, 2) := by decide +kernel
theorem dL_law_29 : decode cL_law 29 = .ok (.isub, 1) := by decide +kernel
theorem dL_law_30 : decode cL_law 30 = .ok (.if_icmp .gt 1112, 3) := by decide +kernel
theorem dL_law_33 : decode cL_law 33 = .ok (.aload_n 0, 1) := by decide +kernel
theorem dL_law_34 : decode cL_law 34 = .ok (.iload 4, 2) := by decide +kernel
theorem dL_law_36 : decode cL_law 36 = .ok (.iaload, 1) := by decide +kernel
theorem dL_law_37 : decode cL_law 37 = .ok (.bipush 15, 2) := by decide +kernel
theorem dL_law_39 : decode cL_law 39 = .ok (.iand, 1) := by decide +kernel
theorem dL_law_40 : decode cL_law 40 = .ok (.tableswitch 1096 0 14 #[76, 156, 247, 367, 459, 551, 642, 655, 668, 681, 737, 817, 916, 984, 1040], 76) := by decide +kernel
theorem dL_law_116 : decode cL_law 116 = .ok (.aload_n 1, 1) := by decide +kernel
theorem dL_law_117 : decode cL_law 117 = .ok (.aload_n 0, 1) := by decide +kernel
theorem dL_law_118 : decode cL_law 118 = .ok (.iload 4, 2) := by decide +kernel
theorem dL_law_120 : decode cL_law 120 = .ok (.iconst 1, 1) := by decide +kernel
theorem dL_law_121 : decode cL_law 121 = .ok (.iadd, 1) := by decide +kernel
theorem dL_law_122 : decode cL_law 122 = .ok (.iaload, 1) := by decide +kernel
theorem dL_law_123 : decode cL_law 123 = .ok (.aload_n 0, 1) := by decide +kernel
theorem dL_law_124 : decode cL_law 124 = .ok (.iload 4, 2) := by decide +kernel
theorem dL_law_126 : decode cL_law 126 = .ok (.iconst 2, 1) := by decide +kernel
theorem dL_law_127 : decode cL_law 127 = .ok (.iadd, 1) := by decide +kernel
theorem dL_law_128 : decode cL_law 128 = .ok (.iaload, 1) := by decide +kernel
theorem dL_law_129 : decode cL_law 129 = .ok (.aload_n 0, 1) := by decide +kernel
theorem dL_law_130 : decode cL_law 130 = .ok (.iload 4, 2) := by decide +kernel
theorem dL_law_132 : decode cL_law 132 = .ok (.iconst 3, 1) := by decide +kernel
theorem dL_law_133 : decode cL_law 133 = .ok (.iadd, 1) := by decide +kernel
theorem dL_law_134 : decode cL_law 134 = .ok (.iaload, 1) := by decide +kernel
theorem dL_law_135 : decode cL_law 135 = .ok (.aload_n 3, 1) := by decide +kernel
theorem dL_law_136 : decode cL_law 136 = .ok (.invokestatic 62, 3) := by decide +kernel
theorem dL_law_139 : decode cL_law 139 = .ok (.istore 5, 2) := by decide +kernel
theorem dL_law_141 : decode cL_law 141 = .ok (.aload_n 2, 1) := by decide +kernel
theorem dL_law_142 : decode cL_law 142 = .ok (.aload_n 0, 1) := by decide +kernel
theorem dL_law_143 : decode cL_law 143 = .ok (.iload 4, 2) := by decide +kernel
theorem dL_law_145 : decode cL_law 145 = .ok (.iconst 1, 1) := by decide +kernel
theorem dL_law_146 : decode cL_law 146 = .ok (.iadd, 1) := by decide +kernel
theorem dL_law_147 : decode cL_law 147 = .ok (.iaload, 1) := by decide +kernel
theorem dL_law_148 : decode cL_law 148 = .ok (.aload_n 0, 1) := by decide +kernel
theorem dL_law_149 : decode cL_law 149 = .ok (.iload 4, 2) := by decide +kernel
theorem dL_law_151 : decode cL_law 151 = .ok (.iconst 2, 1) := by decide +kernel
theorem dL_law_152 : decode cL_law 152 = .ok (.iadd, 1) := by decide +kernel
theorem dL_law_153 : decode cL_law 153 = .ok (.iaload, 1) := by decide +kernel
theorem dL_law_154 : decode cL_law 154 = .ok (.aload_n 0, 1) := by decide +kernel
theorem dL_law_155 : decode cL_law 155 = .ok (.iload 4, 2) := by decide +kernel
theorem dL_law_157 : decode cL_law 157 = .ok (.iconst 3, 1) := by decide +kernel
theorem dL_law_158 : decode cL_law 158 = .ok (.iadd, 1) := by decide +kernel
theorem dL_law_159 : decode cL_law 159 = .ok (.iaload, 1) := by decide +kernel
theorem dL_law_160 : decode cL_law 160 = .ok (.invokevirtual 67, 3) := by decide +kernel
theorem dL_law_163 : decode cL_law 163 = .ok (.istore 6, 2) := by decide +kernel
theorem dL_law_165 : decode cL_law 165 = .ok (.aload_n 2, 1) := by decide +kernel
theorem dL_law_166 : decode cL_law 166 = .ok (.invokevirtual 68, 3) := by decide +kernel
theorem dL_law_169 : decode cL_law 169 = .ok (.iload 5, 2) := by decide +kernel
theorem dL_law_171 : decode cL_law 171 = .ok (.if_icmp .eq 5, 3) := by decide +kernel
theorem dL_law_174 : decode cL_law 174 = .ok (.iconst 0, 1) := by decide +kernel
theorem dL_law_175 : decode cL_law 175 = .ok (.ireturn, 1) := by decide +kernel
theorem dL_law_176 : decode cL_law 176 = .ok (.iload 5, 2) := by decide +kernel
theorem dL_law_178 : decode cL_law 178 = .ok (.ifCond .ne 15, 3) := by decide +kernel
theorem dL_law_181 : decode cL_law 181 = .ok (.aload_n 3, 1) := by decide +kernel
theorem dL_law_182 : decode cL_law 182 = .ok (.iconst 0, 1) := by decide +kernel
theorem dL_law_183 : decode cL_law 183 = .ok (.laload, 1) := by decide +kernel
theorem dL_law_184 : decode cL_law 184 = .ok (.iload 6, 2) := by decide +kernel
theorem dL_law_186 : decode cL_law 186 = .ok (.i2l, 1) := by decide +kernel
theorem dL_law_187 : decode cL_law 187 = .ok (.lcmp, 1) := by decide +kernel
theorem dL_law_188 : decode cL_law 188 = .ok (.ifCond .eq 5, 3) := by decide +kernel
theorem dL_law_191 : decode cL_law 191 = .ok (.iconst 0, 1) := by decide +kernel
theorem dL_law_192 : decode cL_law 192 = .ok (.ireturn, 1) := by decide +kernel
theorem dL_law_193 : decode cL_law 193 = .ok (.goto 943, 3) := by decide +kernel
theorem dL_law_196 : decode cL_law 196 = .ok (.aload_n 1, 1) := by decide +kernel
theorem dL_law_197 : decode cL_law 197 = .ok (.aload_n 0, 1) := by decide +kernel
theorem dL_law_198 : decode cL_law 198 = .ok (.iload 4, 2) := by decide +kernel
theorem dL_law_200 : decode cL_law 200 = .ok (.iconst 1, 1) := by decide +kernel
theorem dL_law_201 : decode cL_law 201 = .ok (.iadd, 1) := by decide +kernel
theorem dL_law_202 : decode cL_law 202 = .ok (.iaload, 1) := by decide +kernel
theorem dL_law_203 : decode cL_law 203 = .ok (.aload_n 0, 1) := by decide +kernel
theorem dL_law_204 : decode cL_law 204 = .ok (.iload 4, 2) := by decide +kernel
theorem dL_law_206 : decode cL_law 206 = .ok (.iconst 2, 1) := by decide +kernel
theorem dL_law_207 : decode cL_law 207 = .ok (.iadd, 1) := by decide +kernel
theorem dL_law_208 : decode cL_law 208 = .ok (.iaload, 1) := by decide +kernel
theorem dL_law_209 : decode cL_law 209 = .ok (.ifCond .eq 7, 3) := by decide +kernel
theorem dL_law_212 : decode cL_law 212 = .ok (.iconst 1, 1) := by decide +kernel
theorem dL_law_213 : decode cL_law 213 = .ok (.goto 4, 3) := by decide +kernel
theorem dL_law_216 : decode cL_law 216 = .ok (.iconst 0, 1) := by decide +kernel
theorem dL_law_217 : decode cL_law 217 = .ok (.aload_n 3, 1) := by decide +kernel
theorem dL_law_218 : decode cL_law 218 = .ok (.invokestatic 72, 3) := by decide +kernel
theorem dL_law_221 : decode cL_law 221 = .ok (.istore 5, 2) := by decide +kernel
theorem dL_law_223 : decode cL_law 223 = .ok (.aload_n 2, 1) := by decide +kernel
theorem dL_law_224 : decode cL_law 224 = .ok (.aload_n 0, 1) := by decide +kernel
theorem dL_law_225 : decode cL_law 225 = .ok (.iload 4, 2) := by decide +kernel
theorem dL_law_227 : decode cL_law 227 = .ok (.iconst 1, 1) := by decide +kernel
theorem dL_law_228 : decode cL_law 228 = .ok (.iadd, 1) := by decide +kernel
theorem dL_law_229 : decode cL_law 229 = .ok (.iaload, 1) := by decide +kernel
theorem dL_law_230 : decode cL_law 230 = .ok (.aload_n 0, 1) := by decide +kernel
theorem dL_law_231 : decode cL_law 231 = .ok (.iload 4, 2) := by decide +kernel
theorem dL_law_233 : decode cL_law 233 = .ok (.iconst 2, 1) := by decide +kernel
theorem dL_law_234 : decode cL_law 234 = .ok (.iadd, 1) := by decide +kernel
theorem dL_law_235 : decode cL_law 235 = .ok (.iaload, 1) := by decide +kernel
theorem dL_law_236 : decode cL_law 236 = .ok (.ifCond .eq 7, 3) := by decide +kernel
theorem dL_law_239 : decode cL_law 239 = .ok (.iconst 1, 1) := by decide +kernel
theorem dL_law_240 : decode cL_law 240 = .ok (.goto 4, 3) := by decide +kernel
theorem dL_law_243 : decode cL_law 243 = .ok (.iconst 0, 1) := by decide +kernel
theorem dL_law_244 : decode cL_law 244 = .ok (.invokevirtual 75, 3) := by decide +kernel
theorem dL_law_247 : decode cL_law 247 = .ok (.istore 6, 2) := by decide +kernel
theorem dL_law_249 : decode cL_law 249 = .ok (.aload_n 2, 1) := by decide +kernel
theorem dL_law_250 : decode cL_law 250 = .ok (.invokevirtual 68, 3) := by decide +kernel
theorem dL_law_253 : decode cL_law 253 = .ok (.iload 5, 2) := by decide +kernel
theorem dL_law_255 : decode cL_law 255 = .ok (.if_icmp .eq 5, 3) := by decide +kernel
theorem dL_law_258 : decode cL_law 258 = .ok (.iconst 0, 1) := by decide +kernel
theorem dL_law_259 : decode cL_law 259 = .ok (.ireturn, 1) := by decide +kernel
theorem dL_law_260 : decode cL_law 260 = .ok (.iload 5, 2) := by decide +kernel
theorem dL_law_262 : decode cL_law 262 = .ok (.ifCond .ne 22, 3) := by decide +kernel
theorem dL_law_265 : decode cL_law 265 = .ok (.aload_n 3, 1) := by decide +kernel
theorem dL_law_266 : decode cL_law 266 = .ok (.iconst 0, 1) := by decide +kernel
theorem dL_law_267 : decode cL_law 267 = .ok (.laload, 1) := by decide +kernel
theorem dL_law_268 : decode cL_law 268 = .ok (.iload 6, 2) := by decide +kernel
theorem dL_law_270 : decode cL_law 270 = .ok (.ifCond .eq 7, 3) := by decide +kernel
theorem dL_law_273 : decode cL_law 273 = .ok (.lconst 1, 1) := by decide +kernel
theorem dL_law_274 : decode cL_law 274 = .ok (.goto 4, 3) := by decide +kernel
theorem dL_law_277 : decode cL_law 277 = .ok (.lconst 0, 1) := by decide +kernel
theorem dL_law_278 : decode cL_law 278 = .ok (.lcmp, 1) := by decide +kernel
theorem dL_law_279 : decode cL_law 279 = .ok (.ifCond .eq 5, 3) := by decide +kernel
theorem dL_law_282 : decode cL_law 282 = .ok (.iconst 0, 1) := by decide +kernel
theorem dL_law_283 : decode cL_law 283 = .ok (.ireturn, 1) := by decide +kernel
theorem dL_law_284 : decode cL_law 284 = .ok (.goto 852, 3) := by decide +kernel
theorem dL_law_287 : decode cL_law 287 = .ok (.aload_n 1, 1) := by decide +kernel
theorem dL_law_288 : decode cL_law 288 = .ok (.aload_n 0, 1) := by decide +kernel
theorem dL_law_289 : decode cL_law 289 = .ok (.iload 4, 2) := by decide +kernel
theorem dL_law_291 : decode cL_law 291 = .ok (.iconst 1, 1) := by decide +kernel
theorem dL_law_292 : decode cL_law 292 = .ok (.iadd, 1) := by decide +kernel
theorem dL_law_293 : decode cL_law 293 = .ok (.iaload, 1) := by decide +kernel
theorem dL_law_294 : decode cL_law 294 = .ok (.aload_n 0, 1) := by decide +kernel
theorem dL_law_295 : decode cL_law 295 = .ok (.iload 4, 2) := by decide +kernel
theorem dL_law_297 : decode cL_law 297 = .ok (.iconst 2, 1) := by decide +kernel
theorem dL_law_298 : decode cL_law 298 = .ok (.iadd, 1) := by decide +kernel
theorem dL_law_299 : decode cL_law 299 = .ok (.iaload, 1) := by decide +kernel
theorem dL_law_300 : decode cL_law 300 = .ok (.aload_n 0, 1) := by decide +kernel
theorem dL_law_301 : decode cL_law 301 = .ok (.iload 4, 2) := by decide +kernel
theorem dL_law_303 : decode cL_law 303 = .ok (.iconst 3, 1) := by decide +kernel
theorem dL_law_304 : decode cL_law 304 = .ok (.iadd, 1) := by decide +kernel
theorem dL_law_305 : decode cL_law 305 = .ok (.iaload, 1) := by decide +kernel
theorem dL_law_306 : decode cL_law 306 = .ok (.aload_n 0, 1) := by decide +kernel
theorem dL_law_307 : decode cL_law 307 = .ok (.iload 4, 2) := by decide +kernel
theorem dL_law_309 : decode cL_law 309 = .ok (.iconst 4, 1) := by decide +kernel
theorem dL_law_310 : decode cL_law 310 = .ok (.iadd, 1) := by decide +kernel
theorem dL_law_311 : decode cL_law 311 = .ok (.iaload, 1) := by decide +kernel
theorem dL_law_312 : decode cL_law 312 = .ok (.aload_n 0, 1) := by decide +kernel
theorem dL_law_313 : decode cL_law 313 = .ok (.iload 4, 2) := by decide +kernel
theorem dL_law_315 : decode cL_law 315 = .ok (.iconst 5, 1) := by decide +kernel
theorem dL_law_316 : decode cL_law 316 = .ok (.iadd, 1) := by decide +kernel
theorem dL_law_317 : decode cL_law 317 = .ok (.iaload, 1) := by decide +kernel
theorem dL_law_318 : decode cL_law 318 = .ok (.ifCond .eq 7, 3) := by decide +kernel
theorem dL_law_321 : decode cL_law 321 = .ok (.iconst 1, 1) := by decide +kernel
theorem dL_law_322 : decode cL_law 322 = .ok (.goto 4, 3) := by decide +kernel
theorem dL_law_325 : decode cL_law 325 = .ok (.iconst 0, 1) := by decide +kernel
theorem dL_law_326 : decode cL_law 326 = .ok (.aload_n 3, 1) := by decide +kernel
theorem dL_law_327 : decode cL_law 327 = .ok (.invokestatic 76, 3) := by decide +kernel
theorem dL_law_330 : decode cL_law 330 = .ok (.istore 5, 2) := by decide +kernel
theorem dL_law_332 : decode cL_law 332 = .ok (.aload_n 2, 1) := by decide +kernel
theorem dL_law_333 : decode cL_law 333 = .ok (.aload_n 0, 1) := by decide +kernel
theorem dL_law_334 : decode cL_law 334 = .ok (.iload 4, 2) := by decide +kernel
theorem dL_law_336 : decode cL_law 336 = .ok (.iconst 1, 1) := by decide +kernel
theorem dL_law_337 : decode cL_law 337 = .ok (.iadd, 1) := by decide +kernel
theorem dL_law_338 : decode cL_law 338 = .ok (.iaload, 1) := by decide +kernel
theorem dL_law_339 : decode cL_law 339 = .ok (.aload_n 0, 1) := by decide +kernel
theorem dL_law_340 : decode cL_law 340 = .ok (.iload 4, 2) := by decide +kernel
theorem dL_law_342 : decode cL_law 342 = .ok (.iconst 2, 1) := by decide +kernel
theorem dL_law_343 : decode cL_law 343 = .ok (.iadd, 1) := by decide +kernel
theorem dL_law_344 : decode cL_law 344 = .ok (.iaload, 1) := by decide +kernel
theorem dL_law_345 : decode cL_law 345 = .ok (.aload_n 0, 1) := by decide +kernel
theorem dL_law_346 : decode cL_law 346 = .ok (.iload 4, 2) := by decide +kernel
theorem dL_law_348 : decode cL_law 348 = .ok (.iconst 3, 1) := by decide +kernel
theorem dL_law_349 : decode cL_law 349 = .ok (.iadd, 1) := by decide +kernel
theorem dL_law_350 : decode cL_law 350 = .ok (.iaload, 1) := by decide +kernel
theorem dL_law_351 : decode cL_law 351 = .ok (.aload_n 0, 1) := by decide +kernel
theorem dL_law_352 : decode cL_law 352 = .ok (.iload 4, 2) := by decide +kernel
theorem dL_law_354 : decode cL_law 354 = .ok (.iconst 4, 1) := by decide +kernel
theorem dL_law_355 : decode cL_law 355 = .ok (.iadd, 1) := by decide +kernel
theorem dL_law_356 : decode cL_law 356 = .ok (.iaload, 1) := by decide +kernel
theorem dL_law_357 : decode cL_law 357 = .ok (.aload_n 0, 1) := by decide +kernel
theorem dL_law_358 : decode cL_law 358 = .ok (.iload 4, 2) := by decide +kernel
theorem dL_law_360 : decode cL_law 360 = .ok (.iconst 5, 1) := by decide +kernel
theorem dL_law_361 : decode cL_law 361 = .ok (.iadd, 1) := by decide +kernel
theorem dL_law_362 : decode cL_law 362 = .ok (.iaload, 1) := by decide +kernel
theorem dL_law_363 : decode cL_law 363 = .ok (.ifCond .eq 7, 3) := by decide +kernel
theorem dL_law_366 : decode cL_law 366 = .ok (.iconst 1, 1) := by decide +kernel
theorem dL_law_367 : decode cL_law 367 = .ok (.goto 4, 3) := by decide +kernel
theorem dL_law_370 : decode cL_law 370 = .ok (.iconst 0, 1) := by decide +kernel
theorem dL_law_371 : decode cL_law 371 = .ok (.invokevirtual 79, 3) := by decide +kernel
theorem dL_law_374 : decode cL_law 374 = .ok (.istore 6, 2) := by decide +kernel
theorem dL_law_376 : decode cL_law 376 = .ok (.aload_n 2, 1) := by decide +kernel
theorem dL_law_377 : decode cL_law 377 = .ok (.invokevirtual 68, 3) := by decide +kernel
theorem dL_law_380 : decode cL_law 380 = .ok (.iload 5, 2) := by decide +kernel
theorem dL_law_382 : decode cL_law 382 = .ok (.if_icmp .eq 5, 3) := by decide +kernel
theorem dL_law_385 : decode cL_law 385 = .ok (.iconst 0, 1) := by decide +kernel
theorem dL_law_386 : decode cL_law 386 = .ok (.ireturn, 1) := by decide +kernel
theorem dL_law_387 : decode cL_law 387 = .ok (.iload 5, 2) := by decide +kernel
theorem dL_law_389 : decode cL_law 389 = .ok (.ifCond .ne 15, 3) := by decide +kernel
theorem dL_law_392 : decode cL_law 392 = .ok (.aload_n 3, 1) := by decide +kernel
theorem dL_law_393 : decode cL_law 393 = .ok (.iconst 0, 1) := by decide +kernel
theorem dL_law_394 : decode cL_law 394 = .ok (.laload, 1) := by decide +kernel
theorem dL_law_395 : decode cL_law 395 = .ok (.iload 6, 2) := by decide +kernel
theorem dL_law_397 : decode cL_law 397 = .ok (.i2l, 1) := by decide +kernel
theorem dL_law_398 : decode cL_law 398 = .ok (.lcmp, 1) := by decide +kernel
theorem dL_law_399 : decode cL_law 399 = .ok (.ifCond .eq 5, 3) := by decide +kernel
theorem dL_law_402 : decode cL_law 402 = .ok (.iconst 0, 1) := by decide +kernel
theorem dL_law_403 : decode cL_law 403 = .ok (.ireturn, 1) := by decide +kernel
theorem dL_law_404 : decode cL_law 404 = .ok (.goto 732, 3) := by decide +kernel
theorem dL_law_407 : decode cL_law 407 = .ok (.aload_n 1, 1) := by decide +kernel
theorem dL_law_408 : decode cL_law 408 = .ok (.aload_n 0, 1) := by decide +kernel
theorem dL_law_409 : decode cL_law 409 = .ok (.iload 4, 2) := by decide +kernel
theorem dL_law_411 : decode cL_law 411 = .ok (.iconst 1, 1) := by decide +kernel
theorem dL_law_412 : decode cL_law 412 = .ok (.iadd, 1) := by decide +kernel
theorem dL_law_413 : decode cL_law 413 = .ok (.iaload, 1) := by decide +kernel
theorem dL_law_414 : decode cL_law 414 = .ok (.aload_n 0, 1) := by decide +kernel
theorem dL_law_415 : decode cL_law 415 = .ok (.iload 4, 2) := by decide +kernel
theorem dL_law_417 : decode cL_law 417 = .ok (.iconst 2, 1) := by decide +kernel
theorem dL_law_418 : decode cL_law 418 = .ok (.iadd, 1) := by decide +kernel
theorem dL_law_419 : decode cL_law 419 = .ok (.iaload, 1) := by decide +kernel
theorem dL_law_420 : decode cL_law 420 = .ok (.aload_n 0, 1) := by decide +kernel
theorem dL_law_421 : decode cL_law 421 = .ok (.iload 4, 2) := by decide +kernel
theorem dL_law_423 : decode cL_law 423 = .ok (.iconst 3, 1) := by decide +kernel
theorem dL_law_424 : decode cL_law 424 = .ok (.iadd, 1) := by decide +kernel
theorem dL_law_425 : decode cL_law 425 = .ok (.iaload, 1) := by decide +kernel
theorem dL_law_426 : decode cL_law 426 = .ok (.aload_n 0, 1) := by decide +kernel
theorem dL_law_427 : decode cL_law 427 = .ok (.iload 4, 2) := by decide +kernel
theorem dL_law_429 : decode cL_law 429 = .ok (.iconst 4, 1) := by decide +kernel
theorem dL_law_430 : decode cL_law 430 = .ok (.iadd, 1) := by decide +kernel
theorem dL_law_431 : decode cL_law 431 = .ok (.iaload, 1) := by decide +kernel
theorem dL_law_432 : decode cL_law 432 = .ok (.aload_n 3, 1) := by decide +kernel
theorem dL_law_433 : decode cL_law 433 = .ok (.invokestatic 80, 3) := by decide +kernel
theorem dL_law_436 : decode cL_law 436 = .ok (.istore 5, 2) := by decide +kernel
theorem dL_law_438 : decode cL_law 438 = .ok (.aload_n 2, 1) := by decide +kernel
theorem dL_law_439 : decode cL_law 439 = .ok (.aload_n 0, 1) := by decide +kernel
theorem dL_law_440 : decode cL_law 440 = .ok (.iload 4, 2) := by decide +kernel
theorem dL_law_442 : decode cL_law 442 = .ok (.iconst 1, 1) := by decide +kernel
theorem dL_law_443 : decode cL_law 443 = .ok (.iadd, 1) := by decide +kernel
theorem dL_law_444 : decode cL_law 444 = .ok (.iaload, 1) := by decide +kernel
theorem dL_law_445 : decode cL_law 445 = .ok (.aload_n 0, 1) := by decide +kernel
theorem dL_law_446 : decode cL_law 446 = .ok (.iload 4, 2) := by decide +kernel
theorem dL_law_448 : decode cL_law 448 = .ok (.iconst 2, 1) := by decide +kernel
theorem dL_law_449 : decode cL_law 449 = .ok (.iadd, 1) := by decide +kernel
theorem dL_law_450 : decode cL_law 450 = .ok (.iaload, 1) := by decide +kernel
theorem dL_law_451 : decode cL_law 451 = .ok (.aload_n 0, 1) := by decide +kernel
theorem dL_law_452 : decode cL_law 452 = .ok (.iload 4, 2) := by decide +kernel
theorem dL_law_454 : decode cL_law 454 = .ok (.iconst 3, 1) := by decide +kernel
theorem dL_law_455 : decode cL_law 455 = .ok (.iadd, 1) := by decide +kernel
theorem dL_law_456 : decode cL_law 456 = .ok (.iaload, 1) := by decide +kernel
theorem dL_law_457 : decode cL_law 457 = .ok (.aload_n 0, 1) := by decide +kernel
theorem dL_law_458 : decode cL_law 458 = .ok (.iload 4, 2) := by decide +kernel
theorem dL_law_460 : decode cL_law 460 = .ok (.iconst 4, 1) := by decide +kernel
theorem dL_law_461 : decode cL_law 461 = .ok (.iadd, 1) := by decide +kernel
theorem dL_law_462 : decode cL_law 462 = .ok (.iaload, 1) := by decide +kernel
theorem dL_law_463 : decode cL_law 463 = .ok (.invokevirtual 83, 3) := by decide +kernel
theorem dL_law_466 : decode cL_law 466 = .ok (.istore 6, 2) := by decide +kernel
theorem dL_law_468 : decode cL_law 468 = .ok (.aload_n 2, 1) := by decide +kernel
theorem dL_law_469 : decode cL_law 469 = .ok (.invokevirtual 68, 3) := by decide +kernel
theorem dL_law_472 : decode cL_law 472 = .ok (.iload 5, 2) := by decide +kernel
theorem dL_law_474 : decode cL_law 474 = .ok (.if_icmp .eq 5, 3) := by decide +kernel
theorem dL_law_477 : decode cL_law 477 = .ok (.iconst 0, 1) := by decide +kernel
theorem dL_law_478 : decode cL_law 478 = .ok (.ireturn, 1) := by decide +kernel
theorem dL_law_479 : decode cL_law 479 = .ok (.iload 5, 2) := by decide +kernel
theorem dL_law_481 : decode cL_law 481 = .ok (.ifCond .ne 15, 3) := by decide +kernel
theorem dL_law_484 : decode cL_law 484 = .ok (.aload_n 3, 1) := by decide +kernel
theorem dL_law_485 : decode cL_law 485 = .ok (.iconst 0, 1) := by decide +kernel
theorem dL_law_486 : decode cL_law 486 = .ok (.laload, 1) := by decide +kernel
theorem dL_law_487 : decode cL_law 487 = .ok (.iload 6, 2) := by decide +kernel
theorem dL_law_489 : decode cL_law 489 = .ok (.i2l, 1) := by decide +kernel
theorem dL_law_490 : decode cL_law 490 = .ok (.lcmp, 1) := by decide +kernel
theorem dL_law_491 : decode cL_law 491 = .ok (.ifCond .eq 5, 3) := by decide +kernel
theorem dL_law_494 : decode cL_law 494 = .ok (.iconst 0, 1) := by decide +kernel
theorem dL_law_495 : decode cL_law 495 = .ok (.ireturn, 1) := by decide +kernel
theorem dL_law_496 : decode cL_law 496 = .ok (.goto 640, 3) := by decide +kernel
theorem dL_law_499 : decode cL_law 499 = .ok (.aload_n 1, 1) := by decide +kernel
theorem dL_law_500 : decode cL_law 500 = .ok (.aload_n 0, 1) := by decide +kernel
theorem dL_law_501 : decode cL_law 501 = .ok (.iload 4, 2) := by decide +kernel
theorem dL_law_503 : decode cL_law 503 = .ok (.iconst 1, 1) := by decide +kernel
theorem dL_law_504 : decode cL_law 504 = .ok (.iadd, 1) := by decide +kernel
theorem dL_law_505 : decode cL_law 505 = .ok (.iaload, 1) := by decide +kernel
theorem dL_law_506 : decode cL_law 506 = .ok (.aload_n 0, 1) := by decide +kernel
theorem dL_law_507 : decode cL_law 507 = .ok (.iload 4, 2) := by decide +kernel
theorem dL_law_509 : decode cL_law 509 = .ok (.iconst 2, 1) := by decide +kernel
theorem dL_law_510 : decode cL_law 510 = .ok (.iadd, 1) := by decide +kernel
theorem dL_law_511 : decode cL_law 511 = .ok (.iaload, 1) := by decide +kernel
theorem dL_law_512 : decode cL_law 512 = .ok (.aload_n 0, 1) := by decide +kernel
theorem dL_law_513 : decode cL_law 513 = .ok (.iload 4, 2) := by decide +kernel
theorem dL_law_515 : decode cL_law 515 = .ok (.iconst 3, 1) := by decide +kernel
theorem dL_law_516 : decode cL_law 516 = .ok (.iadd, 1) := by decide +kernel
theorem dL_law_517 : decode cL_law 517 = .ok (.iaload, 1) := by decide +kernel
theorem dL_law_518 : decode cL_law 518 = .ok (.aload_n 0, 1) := by decide +kernel
theorem dL_law_519 : decode cL_law 519 = .ok (.iload 4, 2) := by decide +kernel
theorem dL_law_521 : decode cL_law 521 = .ok (.iconst 4, 1) := by decide +kernel
theorem dL_law_522 : decode cL_law 522 = .ok (.iadd, 1) := by decide +kernel
theorem dL_law_523 : decode cL_law 523 = .ok (.iaload, 1) := by decide +kernel
theorem dL_law_524 : decode cL_law 524 = .ok (.aload_n 3, 1) := by decide +kernel
theorem dL_law_525 : decode cL_law 525 = .ok (.invokestatic 84, 3) := by decide +kernel
theorem dL_law_528 : decode cL_law 528 = .ok (.istore 5, 2) := by decide +kernel
theorem dL_law_530 : decode cL_law 530 = .ok (.aload_n 2, 1) := by decide +kernel
theorem dL_law_531 : decode cL_law 531 = .ok (.aload_n 0, 1) := by decide +kernel
theorem dL_law_532 : decode cL_law 532 = .ok (.iload 4, 2) := by decide +kernel
theorem dL_law_534 : decode cL_law 534 = .ok (.iconst 1, 1) := by decide +kernel
theorem dL_law_535 : decode cL_law 535 = .ok (.iadd, 1) := by decide +kernel
theorem dL_law_536 : decode cL_law 536 = .ok (.iaload, 1) := by decide +kernel
theorem dL_law_537 : decode cL_law 537 = .ok (.aload_n 0, 1) := by decide +kernel
theorem dL_law_538 : decode cL_law 538 = .ok (.iload 4, 2) := by decide +kernel
theorem dL_law_540 : decode cL_law 540 = .ok (.iconst 2, 1) := by decide +kernel
theorem dL_law_541 : decode cL_law 541 = .ok (.iadd, 1) := by decide +kernel
theorem dL_law_542 : decode cL_law 542 = .ok (.iaload, 1) := by decide +kernel
theorem dL_law_543 : decode cL_law 543 = .ok (.aload_n 0, 1) := by decide +kernel
theorem dL_law_544 : decode cL_law 544 = .ok (.iload 4, 2) := by decide +kernel
theorem dL_law_546 : decode cL_law 546 = .ok (.iconst 3, 1) := by decide +kernel
theorem dL_law_547 : decode cL_law 547 = .ok (.iadd, 1) := by decide +kernel
theorem dL_law_548 : decode cL_law 548 = .ok (.iaload, 1) := by decide +kernel
theorem dL_law_549 : decode cL_law 549 = .ok (.aload_n 0, 1) := by decide +kernel
theorem dL_law_550 : decode cL_law 550 = .ok (.iload 4, 2) := by decide +kernel
theorem dL_law_552 : decode cL_law 552 = .ok (.iconst 4, 1) := by decide +kernel
theorem dL_law_553 : decode cL_law 553 = .ok (.iadd, 1) := by decide +kernel
theorem dL_law_554 : decode cL_law 554 = .ok (.iaload, 1) := by decide +kernel
theorem dL_law_555 : decode cL_law 555 = .ok (.invokevirtual 86, 3) := by decide +kernel
theorem dL_law_558 : decode cL_law 558 = .ok (.istore 6, 2) := by decide +kernel
theorem dL_law_560 : decode cL_law 560 = .ok (.aload_n 2, 1) := by decide +kernel
theorem dL_law_561 : decode cL_law 561 = .ok (.invokevirtual 68, 3) := by decide +kernel
theorem dL_law_564 : decode cL_law 564 = .ok (.iload 5, 2) := by decide +kernel
theorem dL_law_566 : decode cL_law 566 = .ok (.if_icmp .eq 5, 3) := by decide +kernel
theorem dL_law_569 : decode cL_law 569 = .ok (.iconst 0, 1) := by decide +kernel
theorem dL_law_570 : decode cL_law 570 = .ok (.ireturn, 1) := by decide +kernel
theorem dL_law_571 : decode cL_law 571 = .ok (.iload 5, 2) := by decide +kernel
theorem dL_law_573 : decode cL_law 573 = .ok (.ifCond .ne 15, 3) := by decide +kernel
theorem dL_law_576 : decode cL_law 576 = .ok (.aload_n 3, 1) := by decide +kernel
theorem dL_law_577 : decode cL_law 577 = .ok (.iconst 0, 1) := by decide +kernel
theorem dL_law_578 : decode cL_law 578 = .ok (.laload, 1) := by decide +kernel
theorem dL_law_579 : decode cL_law 579 = .ok (.iload 6, 2) := by decide +kernel
theorem dL_law_581 : decode cL_law 581 = .ok (.i2l, 1) := by decide +kernel
theorem dL_law_582 : decode cL_law 582 = .ok (.lcmp, 1) := by decide +kernel
theorem dL_law_583 : decode cL_law 583 = .ok (.ifCond .eq 5, 3) := by decide +kernel
theorem dL_law_586 : decode cL_law 586 = .ok (.iconst 0, 1) := by decide +kernel
theorem dL_law_587 : decode cL_law 587 = .ok (.ireturn, 1) := by decide +kernel
theorem dL_law_588 : decode cL_law 588 = .ok (.goto 548, 3) := by decide +kernel
theorem dL_law_591 : decode cL_law 591 = .ok (.aload_n 1, 1) := by decide +kernel
theorem dL_law_592 : decode cL_law 592 = .ok (.aload_n 0, 1) := by decide +kernel
theorem dL_law_593 : decode cL_law 593 = .ok (.iload 4, 2) := by decide +kernel
theorem dL_law_595 : decode cL_law 595 = .ok (.iconst 1, 1) := by decide +kernel
theorem dL_law_596 : decode cL_law 596 = .ok (.iadd, 1) := by decide +kernel
theorem dL_law_597 : decode cL_law 597 = .ok (.iaload, 1) := by decide +kernel
theorem dL_law_598 : decode cL_law 598 = .ok (.aload_n 0, 1) := by decide +kernel
theorem dL_law_599 : decode cL_law 599 = .ok (.iload 4, 2) := by decide +kernel
theorem dL_law_601 : decode cL_law 601 = .ok (.iconst 2, 1) := by decide +kernel
theorem dL_law_602 : decode cL_law 602 = .ok (.iadd, 1) := by decide +kernel
theorem dL_law_603 : decode cL_law 603 = .ok (.iaload, 1) := by decide +kernel
theorem dL_law_604 : decode cL_law 604 = .ok (.ifCond .eq 7, 3) := by decide +kernel
theorem dL_law_607 : decode cL_law 607 = .ok (.iconst 1, 1) := by decide +kernel
theorem dL_law_608 : decode cL_law 608 = .ok (.goto 4, 3) := by decide +kernel
theorem dL_law_611 : decode cL_law 611 = .ok (.iconst 0, 1) := by decide +kernel
theorem dL_law_612 : decode cL_law 612 = .ok (.aload_n 3, 1) := by decide +kernel
theorem dL_law_613 : decode cL_law 613 = .ok (.invokestatic 87, 3) := by decide +kernel
theorem dL_law_616 : decode cL_law 616 = .ok (.istore 5, 2) := by decide +kernel
theorem dL_law_618 : decode cL_law 618 = .ok (.aload_n 2, 1) := by decide +kernel
theorem dL_law_619 : decode cL_law 619 = .ok (.aload_n 0, 1) := by decide +kernel
theorem dL_law_620 : decode cL_law 620 = .ok (.iload 4, 2) := by decide +kernel
theorem dL_law_622 : decode cL_law 622 = .ok (.iconst 1, 1) := by decide +kernel
theorem dL_law_623 : decode cL_law 623 = .ok (.iadd, 1) := by decide +kernel
theorem dL_law_624 : decode cL_law 624 = .ok (.iaload, 1) := by decide +kernel
theorem dL_law_625 : decode cL_law 625 = .ok (.aload_n 0, 1) := by decide +kernel
theorem dL_law_626 : decode cL_law 626 = .ok (.iload 4, 2) := by decide +kernel
theorem dL_law_628 : decode cL_law 628 = .ok (.iconst 2, 1) := by decide +kernel
theorem dL_law_629 : decode cL_law 629 = .ok (.iadd, 1) := by decide +kernel
theorem dL_law_630 : decode cL_law 630 = .ok (.iaload, 1) := by decide +kernel
theorem dL_law_631 : decode cL_law 631 = .ok (.ifCond .eq 7, 3) := by decide +kernel
theorem dL_law_634 : decode cL_law 634 = .ok (.iconst 1, 1) := by decide +kernel
theorem dL_law_635 : decode cL_law 635 = .ok (.goto 4, 3) := by decide +kernel
theorem dL_law_638 : decode cL_law 638 = .ok (.iconst 0, 1) := by decide +kernel
theorem dL_law_639 : decode cL_law 639 = .ok (.invokevirtual 89, 3) := by decide +kernel
theorem dL_law_642 : decode cL_law 642 = .ok (.istore 6, 2) := by decide +kernel
theorem dL_law_644 : decode cL_law 644 = .ok (.aload_n 2, 1) := by decide +kernel
theorem dL_law_645 : decode cL_law 645 = .ok (.invokevirtual 68, 3) := by decide +kernel
theorem dL_law_648 : decode cL_law 648 = .ok (.iload 5, 2) := by decide +kernel
theorem dL_law_650 : decode cL_law 650 = .ok (.if_icmp .eq 5, 3) := by decide +kernel
theorem dL_law_653 : decode cL_law 653 = .ok (.iconst 0, 1) := by decide +kernel
theorem dL_law_654 : decode cL_law 654 = .ok (.ireturn, 1) := by decide +kernel
theorem dL_law_655 : decode cL_law 655 = .ok (.iload 5, 2) := by decide +kernel
theorem dL_law_657 : decode cL_law 657 = .ok (.ifCond .ne 22, 3) := by decide +kernel
theorem dL_law_660 : decode cL_law 660 = .ok (.aload_n 3, 1) := by decide +kernel
theorem dL_law_661 : decode cL_law 661 = .ok (.iconst 0, 1) := by decide +kernel
theorem dL_law_662 : decode cL_law 662 = .ok (.laload, 1) := by decide +kernel
theorem dL_law_663 : decode cL_law 663 = .ok (.iload 6, 2) := by decide +kernel
theorem dL_law_665 : decode cL_law 665 = .ok (.ifCond .eq 7, 3) := by decide +kernel
theorem dL_law_668 : decode cL_law 668 = .ok (.lconst 1, 1) := by decide +kernel
theorem dL_law_669 : decode cL_law 669 = .ok (.goto 4, 3) := by decide +kernel
theorem dL_law_672 : decode cL_law 672 = .ok (.lconst 0, 1) := by decide +kernel
theorem dL_law_673 : decode cL_law 673 = .ok (.lcmp, 1) := by decide +kernel
theorem dL_law_674 : decode cL_law 674 = .ok (.ifCond .eq 5, 3) := by decide +kernel
theorem dL_law_677 : decode cL_law 677 = .ok (.iconst 0, 1) := by decide +kernel
theorem dL_law_678 : decode cL_law 678 = .ok (.ireturn, 1) := by decide +kernel
theorem dL_law_679 : decode cL_law 679 = .ok (.goto 457, 3) := by decide +kernel
theorem dL_law_682 : decode cL_law 682 = .ok (.aload_n 1, 1) := by decide +kernel
theorem dL_law_683 : decode cL_law 683 = .ok (.invokevirtual 90, 3) := by decide +kernel
theorem dL_law_686 : decode cL_law 686 = .ok (.aload_n 2, 1) := by decide +kernel
theorem dL_law_687 : decode cL_law 687 = .ok (.invokevirtual 93, 3) := by decide +kernel
theorem dL_law_690 : decode cL_law 690 = .ok (.if_icmp .eq 446, 3) := by decide +kernel
theorem dL_law_693 : decode cL_law 693 = .ok (.iconst 0, 1) := by decide +kernel
theorem dL_law_694 : decode cL_law 694 = .ok (.ireturn, 1) := by decide +kernel
theorem dL_law_695 : decode cL_law 695 = .ok (.aload_n 1, 1) := by decide +kernel
theorem dL_law_696 : decode cL_law 696 = .ok (.invokevirtual 94, 3) := by decide +kernel
theorem dL_law_699 : decode cL_law 699 = .ok (.aload_n 2, 1) := by decide +kernel
theorem dL_law_700 : decode cL_law 700 = .ok (.invokevirtual 97, 3) := by decide +kernel
theorem dL_law_703 : decode cL_law 703 = .ok (.if_icmp .eq 433, 3) := by decide +kernel
theorem dL_law_706 : decode cL_law 706 = .ok (.iconst 0, 1) := by decide +kernel
theorem dL_law_707 : decode cL_law 707 = .ok (.ireturn, 1) := by decide +kernel
theorem dL_law_708 : decode cL_law 708 = .ok (.aload_n 1, 1) := by decide +kernel
theorem dL_law_709 : decode cL_law 709 = .ok (.invokevirtual 98, 3) := by decide +kernel
theorem dL_law_712 : decode cL_law 712 = .ok (.aload_n 2, 1) := by decide +kernel
theorem dL_law_713 : decode cL_law 713 = .ok (.invokevirtual 101, 3) := by decide +kernel
theorem dL_law_716 : decode cL_law 716 = .ok (.if_icmp .eq 420, 3) := by decide +kernel
theorem dL_law_719 : decode cL_law 719 = .ok (.iconst 0, 1) := by decide +kernel
theorem dL_law_720 : decode cL_law 720 = .ok (.ireturn, 1) := by decide +kernel
theorem dL_law_721 : decode cL_law 721 = .ok (.aload_n 1, 1) := by decide +kernel
theorem dL_law_722 : decode cL_law 722 = .ok (.aload_n 0, 1) := by decide +kernel
theorem dL_law_723 : decode cL_law 723 = .ok (.iload 4, 2) := by decide +kernel
theorem dL_law_725 : decode cL_law 725 = .ok (.iconst 1, 1) := by decide +kernel
theorem dL_law_726 : decode cL_law 726 = .ok (.iadd, 1) := by decide +kernel
theorem dL_law_727 : decode cL_law 727 = .ok (.iaload, 1) := by decide +kernel
theorem dL_law_728 : decode cL_law 728 = .ok (.aload_n 3, 1) := by decide +kernel
theorem dL_law_729 : decode cL_law 729 = .ok (.invokestatic 102, 3) := by decide +kernel
theorem dL_law_732 : decode cL_law 732 = .ok (.istore 5, 2) := by decide +kernel
theorem dL_law_734 : decode cL_law 734 = .ok (.aload_n 2, 1) := by decide +kernel
theorem dL_law_735 : decode cL_law 735 = .ok (.aload_n 0, 1) := by decide +kernel
theorem dL_law_736 : decode cL_law 736 = .ok (.iload 4, 2) := by decide +kernel
theorem dL_law_738 : decode cL_law 738 = .ok (.iconst 1, 1) := by decide +kernel
theorem dL_law_739 : decode cL_law 739 = .ok (.iadd, 1) := by decide +kernel
theorem dL_law_740 : decode cL_law 740 = .ok (.iaload, 1) := by decide +kernel
theorem dL_law_741 : decode cL_law 741 = .ok (.invokevirtual 105, 3) := by decide +kernel
theorem dL_law_744 : decode cL_law 744 = .ok (.istore 6, 2) := by decide +kernel
theorem dL_law_746 : decode cL_law 746 = .ok (.aload_n 2, 1) := by decide +kernel
theorem dL_law_747 : decode cL_law 747 = .ok (.invokevirtual 68, 3) := by decide +kernel
theorem dL_law_750 : decode cL_law 750 = .ok (.iload 5, 2) := by decide +kernel
theorem dL_law_752 : decode cL_law 752 = .ok (.if_icmp .eq 5, 3) := by decide +kernel
theorem dL_law_755 : decode cL_law 755 = .ok (.iconst 0, 1) := by decide +kernel
theorem dL_law_756 : decode cL_law 756 = .ok (.ireturn, 1) := by decide +kernel
theorem dL_law_757 : decode cL_law 757 = .ok (.iload 5, 2) := by decide +kernel
theorem dL_law_759 : decode cL_law 759 = .ok (.ifCond .ne 15, 3) := by decide +kernel
theorem dL_law_762 : decode cL_law 762 = .ok (.aload_n 3, 1) := by decide +kernel
theorem dL_law_763 : decode cL_law 763 = .ok (.iconst 0, 1) := by decide +kernel
theorem dL_law_764 : decode cL_law 764 = .ok (.laload, 1) := by decide +kernel
theorem dL_law_765 : decode cL_law 765 = .ok (.iload 6, 2) := by decide +kernel
theorem dL_law_767 : decode cL_law 767 = .ok (.i2l, 1) := by decide +kernel
theorem dL_law_768 : decode cL_law 768 = .ok (.lcmp, 1) := by decide +kernel
theorem dL_law_769 : decode cL_law 769 = .ok (.ifCond .eq 5, 3) := by decide +kernel
theorem dL_law_772 : decode cL_law 772 = .ok (.iconst 0, 1) := by decide +kernel
theorem dL_law_773 : decode cL_law 773 = .ok (.ireturn, 1) := by decide +kernel
theorem dL_law_774 : decode cL_law 774 = .ok (.goto 362, 3) := by decide +kernel
theorem dL_law_777 : decode cL_law 777 = .ok (.aload_n 1, 1) := by decide +kernel
theorem dL_law_778 : decode cL_law 778 = .ok (.aload_n 0, 1) := by decide +kernel
theorem dL_law_779 : decode cL_law 779 = .ok (.iload 4, 2) := by decide +kernel
theorem dL_law_781 : decode cL_law 781 = .ok (.iconst 1, 1) := by decide +kernel
theorem dL_law_782 : decode cL_law 782 = .ok (.iadd, 1) := by decide +kernel
theorem dL_law_783 : decode cL_law 783 = .ok (.iaload, 1) := by decide +kernel
theorem dL_law_784 : decode cL_law 784 = .ok (.aload_n 0, 1) := by decide +kernel
theorem dL_law_785 : decode cL_law 785 = .ok (.iload 4, 2) := by decide +kernel
theorem dL_law_787 : decode cL_law 787 = .ok (.iconst 2, 1) := by decide +kernel
theorem dL_law_788 : decode cL_law 788 = .ok (.iadd, 1) := by decide +kernel
theorem dL_law_789 : decode cL_law 789 = .ok (.iaload, 1) := by decide +kernel
theorem dL_law_790 : decode cL_law 790 = .ok (.aload_n 0, 1) := by decide +kernel
theorem dL_law_791 : decode cL_law 791 = .ok (.iload 4, 2) := by decide +kernel
theorem dL_law_793 : decode cL_law 793 = .ok (.iconst 3, 1) := by decide +kernel
theorem dL_law_794 : decode cL_law 794 = .ok (.iadd, 1) := by decide +kernel
theorem dL_law_795 : decode cL_law 795 = .ok (.iaload, 1) := by decide +kernel
theorem dL_law_796 : decode cL_law 796 = .ok (.aload_n 3, 1) := by decide +kernel
theorem dL_law_797 : decode cL_law 797 = .ok (.invokestatic 106, 3) := by decide +kernel
theorem dL_law_800 : decode cL_law 800 = .ok (.istore 5, 2) := by decide +kernel
theorem dL_law_802 : decode cL_law 802 = .ok (.aload_n 2, 1) := by decide +kernel
theorem dL_law_803 : decode cL_law 803 = .ok (.aload_n 0, 1) := by decide +kernel
theorem dL_law_804 : decode cL_law 804 = .ok (.iload 4, 2) := by decide +kernel
theorem dL_law_806 : decode cL_law 806 = .ok (.iconst 1, 1) := by decide +kernel
theorem dL_law_807 : decode cL_law 807 = .ok (.iadd, 1) := by decide +kernel
theorem dL_law_808 : decode cL_law 808 = .ok (.iaload, 1) := by decide +kernel
theorem dL_law_809 : decode cL_law 809 = .ok (.aload_n 0, 1) := by decide +kernel
theorem dL_law_810 : decode cL_law 810 = .ok (.iload 4, 2) := by decide +kernel
theorem dL_law_812 : decode cL_law 812 = .ok (.iconst 2, 1) := by decide +kernel
theorem dL_law_813 : decode cL_law 813 = .ok (.iadd, 1) := by decide +kernel
theorem dL_law_814 : decode cL_law 814 = .ok (.iaload, 1) := by decide +kernel
theorem dL_law_815 : decode cL_law 815 = .ok (.aload_n 0, 1) := by decide +kernel
theorem dL_law_816 : decode cL_law 816 = .ok (.iload 4, 2) := by decide +kernel
theorem dL_law_818 : decode cL_law 818 = .ok (.iconst 3, 1) := by decide +kernel
theorem dL_law_819 : decode cL_law 819 = .ok (.iadd, 1) := by decide +kernel
theorem dL_law_820 : decode cL_law 820 = .ok (.iaload, 1) := by decide +kernel
theorem dL_law_821 : decode cL_law 821 = .ok (.invokevirtual 108, 3) := by decide +kernel
theorem dL_law_824 : decode cL_law 824 = .ok (.istore 6, 2) := by decide +kernel
theorem dL_law_826 : decode cL_law 826 = .ok (.aload_n 2, 1) := by decide +kernel
theorem dL_law_827 : decode cL_law 827 = .ok (.invokevirtual 68, 3) := by decide +kernel
theorem dL_law_830 : decode cL_law 830 = .ok (.iload 5, 2) := by decide +kernel
theorem dL_law_832 : decode cL_law 832 = .ok (.if_icmp .eq 5, 3) := by decide +kernel
theorem dL_law_835 : decode cL_law 835 = .ok (.iconst 0, 1) := by decide +kernel
theorem dL_law_836 : decode cL_law 836 = .ok (.ireturn, 1) := by decide +kernel
theorem dL_law_837 : decode cL_law 837 = .ok (.iload 5, 2) := by decide +kernel
theorem dL_law_839 : decode cL_law 839 = .ok (.ifCond .ne 15, 3) := by decide +kernel
theorem dL_law_842 : decode cL_law 842 = .ok (.aload_n 3, 1) := by decide +kernel
theorem dL_law_843 : decode cL_law 843 = .ok (.iconst 0, 1) := by decide +kernel
theorem dL_law_844 : decode cL_law 844 = .ok (.laload, 1) := by decide +kernel
theorem dL_law_845 : decode cL_law 845 = .ok (.iload 6, 2) := by decide +kernel
theorem dL_law_847 : decode cL_law 847 = .ok (.i2l, 1) := by decide +kernel
theorem dL_law_848 : decode cL_law 848 = .ok (.lcmp, 1) := by decide +kernel
theorem dL_law_849 : decode cL_law 849 = .ok (.ifCond .eq 5, 3) := by decide +kernel
theorem dL_law_852 : decode cL_law 852 = .ok (.iconst 0, 1) := by decide +kernel
theorem dL_law_853 : decode cL_law 853 = .ok (.ireturn, 1) := by decide +kernel
theorem dL_law_854 : decode cL_law 854 = .ok (.goto 282, 3) := by decide +kernel
theorem dL_law_857 : decode cL_law 857 = .ok (.aload_n 1, 1) := by decide +kernel
theorem dL_law_858 : decode cL_law 858 = .ok (.aload_n 0, 1) := by decide +kernel
theorem dL_law_859 : decode cL_law 859 = .ok (.iload 4, 2) := by decide +kernel
theorem dL_law_861 : decode cL_law 861 = .ok (.iconst 1, 1) := by decide +kernel
theorem dL_law_862 : decode cL_law 862 = .ok (.iadd, 1) := by decide +kernel
theorem dL_law_863 : decode cL_law 863 = .ok (.iaload, 1) := by decide +kernel
theorem dL_law_864 : decode cL_law 864 = .ok (.aload_n 0, 1) := by decide +kernel
theorem dL_law_865 : decode cL_law 865 = .ok (.iload 4, 2) := by decide +kernel
theorem dL_law_867 : decode cL_law 867 = .ok (.iconst 2, 1) := by decide +kernel
theorem dL_law_868 : decode cL_law 868 = .ok (.iadd, 1) := by decide +kernel
theorem dL_law_869 : decode cL_law 869 = .ok (.iaload, 1) := by decide +kernel
theorem dL_law_870 : decode cL_law 870 = .ok (.aload_n 0, 1) := by decide +kernel
theorem dL_law_871 : decode cL_law 871 = .ok (.iload 4, 2) := by decide +kernel
theorem dL_law_873 : decode cL_law 873 = .ok (.iconst 3, 1) := by decide +kernel
theorem dL_law_874 : decode cL_law 874 = .ok (.iadd, 1) := by decide +kernel
theorem dL_law_875 : decode cL_law 875 = .ok (.iaload, 1) := by decide +kernel
theorem dL_law_876 : decode cL_law 876 = .ok (.aload_n 0, 1) := by decide +kernel
theorem dL_law_877 : decode cL_law 877 = .ok (.iload 4, 2) := by decide +kernel
theorem dL_law_879 : decode cL_law 879 = .ok (.iconst 4, 1) := by decide +kernel
theorem dL_law_880 : decode cL_law 880 = .ok (.iadd, 1) := by decide +kernel
theorem dL_law_881 : decode cL_law 881 = .ok (.iaload, 1) := by decide +kernel
theorem dL_law_882 : decode cL_law 882 = .ok (.aload_n 3, 1) := by decide +kernel
theorem dL_law_883 : decode cL_law 883 = .ok (.invokestatic 109, 3) := by decide +kernel
theorem dL_law_886 : decode cL_law 886 = .ok (.istore 5, 2) := by decide +kernel
theorem dL_law_888 : decode cL_law 888 = .ok (.aload_n 2, 1) := by decide +kernel
theorem dL_law_889 : decode cL_law 889 = .ok (.aload_n 0, 1) := by decide +kernel
theorem dL_law_890 : decode cL_law 890 = .ok (.iload 4, 2) := by decide +kernel
theorem dL_law_892 : decode cL_law 892 = .ok (.iconst 1, 1) := by decide +kernel
theorem dL_law_893 : decode cL_law 893 = .ok (.iadd, 1) := by decide +kernel
theorem dL_law_894 : decode cL_law 894 = .ok (.iaload, 1) := by decide +kernel
theorem dL_law_895 : decode cL_law 895 = .ok (.aload_n 0, 1) := by decide +kernel
theorem dL_law_896 : decode cL_law 896 = .ok (.iload 4, 2) := by decide +kernel
theorem dL_law_898 : decode cL_law 898 = .ok (.iconst 2, 1) := by decide +kernel
theorem dL_law_899 : decode cL_law 899 = .ok (.iadd, 1) := by decide +kernel
theorem dL_law_900 : decode cL_law 900 = .ok (.iaload, 1) := by decide +kernel
theorem dL_law_901 : decode cL_law 901 = .ok (.aload_n 0, 1) := by decide +kernel
theorem dL_law_902 : decode cL_law 902 = .ok (.iload 4, 2) := by decide +kernel
theorem dL_law_904 : decode cL_law 904 = .ok (.iconst 3, 1) := by decide +kernel
theorem dL_law_905 : decode cL_law 905 = .ok (.iadd, 1) := by decide +kernel
theorem dL_law_906 : decode cL_law 906 = .ok (.iaload, 1) := by decide +kernel
theorem dL_law_907 : decode cL_law 907 = .ok (.aload_n 0, 1) := by decide +kernel
theorem dL_law_908 : decode cL_law 908 = .ok (.iload 4, 2) := by decide +kernel
theorem dL_law_910 : decode cL_law 910 = .ok (.iconst 4, 1) := by decide +kernel
theorem dL_law_911 : decode cL_law 911 = .ok (.iadd, 1) := by decide +kernel
theorem dL_law_912 : decode cL_law 912 = .ok (.iaload, 1) := by decide +kernel
theorem dL_law_913 : decode cL_law 913 = .ok (.invokevirtual 111, 3) := by decide +kernel
theorem dL_law_916 : decode cL_law 916 = .ok (.istore 6, 2) := by decide +kernel
theorem dL_law_918 : decode cL_law 918 = .ok (.aload_n 2, 1) := by decide +kernel
theorem dL_law_919 : decode cL_law 919 = .ok (.invokevirtual 68, 3) := by decide +kernel
theorem dL_law_922 : decode cL_law 922 = .ok (.iload 5, 2) := by decide +kernel
theorem dL_law_924 : decode cL_law 924 = .ok (.if_icmp .eq 5, 3) := by decide +kernel
theorem dL_law_927 : decode cL_law 927 = .ok (.iconst 0, 1) := by decide +kernel
theorem dL_law_928 : decode cL_law 928 = .ok (.ireturn, 1) := by decide +kernel
theorem dL_law_929 : decode cL_law 929 = .ok (.iload 5, 2) := by decide +kernel
theorem dL_law_931 : decode cL_law 931 = .ok (.ifCond .ne 22, 3) := by decide +kernel
theorem dL_law_934 : decode cL_law 934 = .ok (.aload_n 3, 1) := by decide +kernel
theorem dL_law_935 : decode cL_law 935 = .ok (.iconst 0, 1) := by decide +kernel
theorem dL_law_936 : decode cL_law 936 = .ok (.laload, 1) := by decide +kernel
theorem dL_law_937 : decode cL_law 937 = .ok (.iload 6, 2) := by decide +kernel
theorem dL_law_939 : decode cL_law 939 = .ok (.ifCond .eq 7, 3) := by decide +kernel
theorem dL_law_942 : decode cL_law 942 = .ok (.lconst 1, 1) := by decide +kernel
theorem dL_law_943 : decode cL_law 943 = .ok (.goto 4, 3) := by decide +kernel
theorem dL_law_946 : decode cL_law 946 = .ok (.lconst 0, 1) := by decide +kernel
theorem dL_law_947 : decode cL_law 947 = .ok (.lcmp, 1) := by decide +kernel
theorem dL_law_948 : decode cL_law 948 = .ok (.ifCond .eq 5, 3) := by decide +kernel
theorem dL_law_951 : decode cL_law 951 = .ok (.iconst 0, 1) := by decide +kernel
theorem dL_law_952 : decode cL_law 952 = .ok (.ireturn, 1) := by decide +kernel
theorem dL_law_953 : decode cL_law 953 = .ok (.goto 183, 3) := by decide +kernel
theorem dL_law_956 : decode cL_law 956 = .ok (.aload_n 1, 1) := by decide +kernel
theorem dL_law_957 : decode cL_law 957 = .ok (.aload_n 0, 1) := by decide +kernel
theorem dL_law_958 : decode cL_law 958 = .ok (.iload 4, 2) := by decide +kernel
theorem dL_law_960 : decode cL_law 960 = .ok (.iconst 1, 1) := by decide +kernel
theorem dL_law_961 : decode cL_law 961 = .ok (.iadd, 1) := by decide +kernel
theorem dL_law_962 : decode cL_law 962 = .ok (.iaload, 1) := by decide +kernel
theorem dL_law_963 : decode cL_law 963 = .ok (.aload_n 0, 1) := by decide +kernel
theorem dL_law_964 : decode cL_law 964 = .ok (.iload 4, 2) := by decide +kernel
theorem dL_law_966 : decode cL_law 966 = .ok (.iconst 2, 1) := by decide +kernel
theorem dL_law_967 : decode cL_law 967 = .ok (.iadd, 1) := by decide +kernel
theorem dL_law_968 : decode cL_law 968 = .ok (.iaload, 1) := by decide +kernel
theorem dL_law_969 : decode cL_law 969 = .ok (.aload_n 3, 1) := by decide +kernel
theorem dL_law_970 : decode cL_law 970 = .ok (.invokestatic 112, 3) := by decide +kernel
theorem dL_law_973 : decode cL_law 973 = .ok (.istore 5, 2) := by decide +kernel
theorem dL_law_975 : decode cL_law 975 = .ok (.aload_n 2, 1) := by decide +kernel
theorem dL_law_976 : decode cL_law 976 = .ok (.aload_n 0, 1) := by decide +kernel
theorem dL_law_977 : decode cL_law 977 = .ok (.iload 4, 2) := by decide +kernel
theorem dL_law_979 : decode cL_law 979 = .ok (.iconst 1, 1) := by decide +kernel
theorem dL_law_980 : decode cL_law 980 = .ok (.iadd, 1) := by decide +kernel
theorem dL_law_981 : decode cL_law 981 = .ok (.iaload, 1) := by decide +kernel
theorem dL_law_982 : decode cL_law 982 = .ok (.aload_n 0, 1) := by decide +kernel
theorem dL_law_983 : decode cL_law 983 = .ok (.iload 4, 2) := by decide +kernel
theorem dL_law_985 : decode cL_law 985 = .ok (.iconst 2, 1) := by decide +kernel
theorem dL_law_986 : decode cL_law 986 = .ok (.iadd, 1) := by decide +kernel
theorem dL_law_987 : decode cL_law 987 = .ok (.iaload, 1) := by decide +kernel
theorem dL_law_988 : decode cL_law 988 = .ok (.invokevirtual 115, 3) := by decide +kernel
theorem dL_law_991 : decode cL_law 991 = .ok (.istore 6, 2) := by decide +kernel
theorem dL_law_993 : decode cL_law 993 = .ok (.aload_n 2, 1) := by decide +kernel
theorem dL_law_994 : decode cL_law 994 = .ok (.invokevirtual 68, 3) := by decide +kernel
theorem dL_law_997 : decode cL_law 997 = .ok (.iload 5, 2) := by decide +kernel
theorem dL_law_999 : decode cL_law 999 = .ok (.if_icmp .eq 5, 3) := by decide +kernel
theorem dL_law_1002 : decode cL_law 1002 = .ok (.iconst 0, 1) := by decide +kernel
theorem dL_law_1003 : decode cL_law 1003 = .ok (.ireturn, 1) := by decide +kernel
theorem dL_law_1004 : decode cL_law 1004 = .ok (.iload 5, 2) := by decide +kernel
theorem dL_law_1006 : decode cL_law 1006 = .ok (.ifCond .ne 15, 3) := by decide +kernel
theorem dL_law_1009 : decode cL_law 1009 = .ok (.aload_n 3, 1) := by decide +kernel
theorem dL_law_1010 : decode cL_law 1010 = .ok (.iconst 0, 1) := by decide +kernel
theorem dL_law_1011 : decode cL_law 1011 = .ok (.laload, 1) := by decide +kernel
theorem dL_law_1012 : decode cL_law 1012 = .ok (.iload 6, 2) := by decide +kernel
theorem dL_law_1014 : decode cL_law 1014 = .ok (.i2l, 1) := by decide +kernel
theorem dL_law_1015 : decode cL_law 1015 = .ok (.lcmp, 1) := by decide +kernel
theorem dL_law_1016 : decode cL_law 1016 = .ok (.ifCond .eq 5, 3) := by decide +kernel
theorem dL_law_1019 : decode cL_law 1019 = .ok (.iconst 0, 1) := by decide +kernel
theorem dL_law_1020 : decode cL_law 1020 = .ok (.ireturn, 1) := by decide +kernel
theorem dL_law_1021 : decode cL_law 1021 = .ok (.goto 115, 3) := by decide +kernel
theorem dL_law_1024 : decode cL_law 1024 = .ok (.aload_n 1, 1) := by decide +kernel
theorem dL_law_1025 : decode cL_law 1025 = .ok (.aload_n 0, 1) := by decide +kernel
theorem dL_law_1026 : decode cL_law 1026 = .ok (.iload 4, 2) := by decide +kernel
theorem dL_law_1028 : decode cL_law 1028 = .ok (.iconst 1, 1) := by decide +kernel
theorem dL_law_1029 : decode cL_law 1029 = .ok (.iadd, 1) := by decide +kernel
theorem dL_law_1030 : decode cL_law 1030 = .ok (.iaload, 1) := by decide +kernel
theorem dL_law_1031 : decode cL_law 1031 = .ok (.aload_n 3, 1) := by decide +kernel
theorem dL_law_1032 : decode cL_law 1032 = .ok (.invokestatic 116, 3) := by decide +kernel
theorem dL_law_1035 : decode cL_law 1035 = .ok (.istore 5, 2) := by decide +kernel
theorem dL_law_1037 : decode cL_law 1037 = .ok (.aload_n 2, 1) := by decide +kernel
theorem dL_law_1038 : decode cL_law 1038 = .ok (.aload_n 0, 1) := by decide +kernel
theorem dL_law_1039 : decode cL_law 1039 = .ok (.iload 4, 2) := by decide +kernel
theorem dL_law_1041 : decode cL_law 1041 = .ok (.iconst 1, 1) := by decide +kernel
theorem dL_law_1042 : decode cL_law 1042 = .ok (.iadd, 1) := by decide +kernel
theorem dL_law_1043 : decode cL_law 1043 = .ok (.iaload, 1) := by decide +kernel
theorem dL_law_1044 : decode cL_law 1044 = .ok (.invokevirtual 118, 3) := by decide +kernel
theorem dL_law_1047 : decode cL_law 1047 = .ok (.istore 6, 2) := by decide +kernel
theorem dL_law_1049 : decode cL_law 1049 = .ok (.aload_n 2, 1) := by decide +kernel
theorem dL_law_1050 : decode cL_law 1050 = .ok (.invokevirtual 68, 3) := by decide +kernel
theorem dL_law_1053 : decode cL_law 1053 = .ok (.iload 5, 2) := by decide +kernel
theorem dL_law_1055 : decode cL_law 1055 = .ok (.if_icmp .eq 5, 3) := by decide +kernel
theorem dL_law_1058 : decode cL_law 1058 = .ok (.iconst 0, 1) := by decide +kernel
theorem dL_law_1059 : decode cL_law 1059 = .ok (.ireturn, 1) := by decide +kernel
theorem dL_law_1060 : decode cL_law 1060 = .ok (.iload 5, 2) := by decide +kernel
theorem dL_law_1062 : decode cL_law 1062 = .ok (.ifCond .ne 15, 3) := by decide +kernel
theorem dL_law_1065 : decode cL_law 1065 = .ok (.aload_n 3, 1) := by decide +kernel
theorem dL_law_1066 : decode cL_law 1066 = .ok (.iconst 0, 1) := by decide +kernel
theorem dL_law_1067 : decode cL_law 1067 = .ok (.laload, 1) := by decide +kernel
theorem dL_law_1068 : decode cL_law 1068 = .ok (.iload 6, 2) := by decide +kernel
theorem dL_law_1070 : decode cL_law 1070 = .ok (.i2l, 1) := by decide +kernel
theorem dL_law_1071 : decode cL_law 1071 = .ok (.lcmp, 1) := by decide +kernel
theorem dL_law_1072 : decode cL_law 1072 = .ok (.ifCond .eq 5, 3) := by decide +kernel
theorem dL_law_1075 : decode cL_law 1075 = .ok (.iconst 0, 1) := by decide +kernel
theorem dL_law_1076 : decode cL_law 1076 = .ok (.ireturn, 1) := by decide +kernel
theorem dL_law_1077 : decode cL_law 1077 = .ok (.goto 59, 3) := by decide +kernel
theorem dL_law_1080 : decode cL_law 1080 = .ok (.aload_n 1, 1) := by decide +kernel
theorem dL_law_1081 : decode cL_law 1081 = .ok (.aload_n 0, 1) := by decide +kernel
theorem dL_law_1082 : decode cL_law 1082 = .ok (.iload 4, 2) := by decide +kernel
theorem dL_law_1084 : decode cL_law 1084 = .ok (.iconst 1, 1) := by decide +kernel
theorem dL_law_1085 : decode cL_law 1085 = .ok (.iadd, 1) := by decide +kernel
theorem dL_law_1086 : decode cL_law 1086 = .ok (.iaload, 1) := by decide +kernel
theorem dL_law_1087 : decode cL_law 1087 = .ok (.aload_n 3, 1) := by decide +kernel
theorem dL_law_1088 : decode cL_law 1088 = .ok (.invokestatic 119, 3) := by decide +kernel
theorem dL_law_1091 : decode cL_law 1091 = .ok (.istore 5, 2) := by decide +kernel
theorem dL_law_1093 : decode cL_law 1093 = .ok (.aload_n 2, 1) := by decide +kernel
theorem dL_law_1094 : decode cL_law 1094 = .ok (.aload_n 0, 1) := by decide +kernel
theorem dL_law_1095 : decode cL_law 1095 = .ok (.iload 4, 2) := by decide +kernel
theorem dL_law_1097 : decode cL_law 1097 = .ok (.iconst 1, 1) := by decide +kernel
theorem dL_law_1098 : decode cL_law 1098 = .ok (.iadd, 1) := by decide +kernel
theorem dL_law_1099 : decode cL_law 1099 = .ok (.iaload, 1) := by decide +kernel
theorem dL_law_1100 : decode cL_law 1100 = .ok (.invokevirtual 121, 3) := by decide +kernel
theorem dL_law_1103 : decode cL_law 1103 = .ok (.istore 6, 2) := by decide +kernel
theorem dL_law_1105 : decode cL_law 1105 = .ok (.aload_n 2, 1) := by decide +kernel
theorem dL_law_1106 : decode cL_law 1106 = .ok (.invokevirtual 68, 3) := by decide +kernel
theorem dL_law_1109 : decode cL_law 1109 = .ok (.iload 5, 2) := by decide +kernel
theorem dL_law_1111 : decode cL_law 1111 = .ok (.if_icmp .eq 5, 3) := by decide +kernel
theorem dL_law_1114 : decode cL_law 1114 = .ok (.iconst 0, 1) := by decide +kernel
theorem dL_law_1115 : decode cL_law 1115 = .ok (.ireturn, 1) := by decide +kernel
theorem dL_law_1116 : decode cL_law 1116 = .ok (.iload 5, 2) := by decide +kernel
theorem dL_law_1118 : decode cL_law 1118 = .ok (.ifCond .ne 15, 3) := by decide +kernel
theorem dL_law_1121 : decode cL_law 1121 = .ok (.aload_n 3, 1) := by decide +kernel
theorem dL_law_1122 : decode cL_law 1122 = .ok (.iconst 0, 1) := by decide +kernel
theorem dL_law_1123 : decode cL_law 1123 = .ok (.laload, 1) := by decide +kernel
theorem dL_law_1124 : decode cL_law 1124 = .ok (.iload 6, 2) := by decide +kernel
theorem dL_law_1126 : decode cL_law 1126 = .ok (.i2l, 1) := by decide +kernel
theorem dL_law_1127 : decode cL_law 1127 = .ok (.lcmp, 1) := by decide +kernel
theorem dL_law_1128 : decode cL_law 1128 = .ok (.ifCond .eq 5, 3) := by decide +kernel
theorem dL_law_1131 : decode cL_law 1131 = .ok (.iconst 0, 1) := by decide +kernel
theorem dL_law_1132 : decode cL_law 1132 = .ok (.ireturn, 1) := by decide +kernel
theorem dL_law_1133 : decode cL_law 1133 = .ok (.goto 3, 3) := by decide +kernel
theorem dL_law_1136 : decode cL_law 1136 = .ok (.iinc 4 6, 3) := by decide +kernel
theorem dL_law_1139 : decode cL_law 1139 = .ok (.goto (-1116), 3) := by decide +kernel
theorem dL_law_1142 : decode cL_law 1142 = .ok (.iconst 1, 1) := by decide +kernel
theorem dL_law_1143 : decode cL_law 1143 = .ok (.ireturn, 1) := by decide +kernel

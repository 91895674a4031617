section
theorem dX9_note_33 : decode cX9_note 33 = .ok (.aload_n 0, 1) := by decide +kernel
theorem dX9_note_34 : decode cX9_note 34 = .ok (.getfield 95, 3) := by decide +kernel
theorem dX9_note_37 : decode cX9_note 37 = .ok (.iload 6, 2) := by decide +kernel
theorem dX9_note_39 : decode cX9_note 39 = .ok (.iconst 1, 1) := by decide +kernel
theorem dX9_note_40 : decode cX9_note 40 = .ok (.isub, 1) := by decide +kernel
theorem dX9_note_41 : decode cX9_note 41 = .ok (.iaload, 1) := by decide +kernel
theorem dX9_note_42 : decode cX9_note 42 = .ok (.iastore, 1) := by decide +kernel
theorem dX9_note_43 : decode cX9_note 43 = .ok (.aload_n 0, 1) := by decide +kernel
theorem dX9_note_44 : decode cX9_note 44 = .ok (.getfield 98, 3) := by decide +kernel
theorem dX9_note_47 : decode cX9_note 47 = .ok (.iload 6, 2) := by decide +kernel
theorem dX9_note_49 : decode cX9_note 49 = .ok (.aload_n 0, 1) := by decide +kernel
theorem dX9_note_50 : decode cX9_note 50 = .ok (.getfield 98, 3) := by decide +kernel
theorem dX9_note_53 : decode cX9_note 53 = .ok (.iload 6, 2) := by decide +kernel
theorem dX9_note_55 : decode cX9_note 55 = .ok (.iconst 1, 1) := by decide +kernel
theorem dX9_note_56 : decode cX9_note 56 = .ok (.isub, 1) := by decide +kernel
theorem dX9_note_57 : decode cX9_note 57 = .ok (.iaload, 1) := by decide +kernel
theorem dX9_note_58 : decode cX9_note 58 = .ok (.iastore, 1) := by decide +kernel
theorem dX9_note_59 : decode cX9_note 59 = .ok (.aload_n 0, 1) := by decide +kernel
theorem dX9_note_60 : decode cX9_note 60 = .ok (.getfield 101, 3) := by decide +kernel
theorem dX9_note_63 : decode cX9_note 63 = .ok (.iload 6, 2) := by decide +kernel
theorem dX9_note_65 : decode cX9_note 65 = .ok (.aload_n 0, 1) := by decide +kernel
theorem dX9_note_66 : decode cX9_note 66 = .ok (.getfield 101, 3) := by decide +kernel
theorem dX9_note_69 : decode cX9_note 69 = .ok (.iload 6, 2) := by decide +kernel
theorem dX9_note_71 : decode cX9_note 71 = .ok (.iconst 1, 1) := by decide +kernel
theorem dX9_note_72 : decode cX9_note 72 = .ok (.isub, 1) := by decide +kernel
theorem dX9_note_73 : decode cX9_note 73 = .ok (.iaload, 1) := by decide +kernel
theorem dX9_note_74 : decode cX9_note 74 = .ok (.iastore, 1) := by decide +kernel
theorem dX9_note_75 : decode cX9_note 75 = .ok (.aload_n 0, 1) := by decide +kernel
theorem dX9_note_76 : decode cX9_note 76 = .ok (.getfield 104, 3) := by decide +kernel
theorem dX9_note_79 : decode cX9_note 79 = .ok (.iload 6, 2) := by decide +kernel
theorem dX9_note_81 : decode cX9_note 81 = .ok (.aload_n 0, 1) := by decide +kernel
theorem dX9_note_82 : decode cX9_note 82 = .ok (.getfield 104, 3) := by decide +kernel
theorem dX9_note_85 : decode cX9_note 85 = .ok (.iload 6, 2) := by decide +kernel
theorem dX9_note_87 : decode cX9_note 87 = .ok (.iconst 1, 1) := by decide +kernel
theorem dX9_note_88 : decode cX9_note 88 = .ok (.isub, 1) := by decide +kernel
theorem dX9_note_89 : decode cX9_note 89 = .ok (.iaload, 1) := by decide +kernel
theorem dX9_note_90 : decode cX9_note 90 = .ok (.iastore, 1) := by decide +kernel
theorem dX9_note_91 : decode cX9_note 91 = .ok (.aload_n 0, 1) := by decide +kernel
theorem dX9_note_92 : decode cX9_note 92 = .ok (.getfield 107, 3) := by decide +kernel
theorem dX9_note_95 : decode cX9_note 95 = .ok (.iload 6, 2) := by decide +kernel
theorem dX9_note_97 : decode cX9_note 97 = .ok (.aload_n 0, 1) := by decide +kernel
theorem dX9_note_98 : decode cX9_note 98 = .ok (.getfield 107, 3) := by decide +kernel
theorem dX9_note_101 : decode cX9_note 101 = .ok (.iload 6, 2) := by decide +kernel
theorem dX9_note_103 : decode cX9_note 103 = .ok (.iconst 1, 1) := by decide +kernel
theorem dX9_note_104 : decode cX9_note 104 = .ok (.isub, 1) := by decide +kernel
theorem dX9_note_105 : decode cX9_note 105 = .ok (.baload, 1) := by decide +kernel
theorem dX9_note_106 : decode cX9_note 106 = .ok (.bastore, 1) := by decide +kernel
theorem dX9_note_107 : decode cX9_note 107 = .ok (.iinc 6 (-1), 3) := by decide +kernel
theorem dX9_note_110 : decode cX9_note 110 = .ok (.goto (-104), 3) := by decide +kernel
theorem dX9_note_113 : decode cX9_note 113 = .ok (.aload_n 0, 1) := by decide +kernel
theorem dX9_note_114 : decode cX9_note 114 = .ok (.getfield 95, 3) := by decide +kernel
theorem dX9_note_117 : decode cX9_note 117 = .ok (.iload 6, 2) := by decide +kernel
theorem dX9_note_119 : decode cX9_note 119 = .ok (.iload_n 1, 1) := by decide +kernel
theorem dX9_note_120 : decode cX9_note 120 = .ok (.iastore, 1) := by decide +kernel
theorem dX9_note_121 : decode cX9_note 121 = .ok (.aload_n 0, 1) := by decide +kernel
theorem dX9_note_122 : decode cX9_note 122 = .ok (.getfield 98, 3) := by decide +kernel
theorem dX9_note_125 : decode cX9_note 125 = .ok (.iload 6, 2) := by decide +kernel
theorem dX9_note_127 : decode cX9_note 127 = .ok (.iload_n 2, 1) := by decide +kernel
theorem dX9_note_128 : decode cX9_note 128 = .ok (.iastore, 1) := by decide +kernel
theorem dX9_note_129 : decode cX9_note 129 = .ok (.aload_n 0, 1) := by decide +kernel
theorem dX9_note_130 : decode cX9_note 130 = .ok (.getfield 101, 3) := by decide +kernel
theorem dX9_note_133 : decode cX9_note 133 = .ok (.iload 6, 2) := by decide +kernel
theorem dX9_note_135 : decode cX9_note 135 = .ok (.iload_n 3, 1) := by decide +kernel
theorem dX9_note_136 : decode cX9_note 136 = .ok (.iastore, 1) := by decide +kernel
theorem dX9_note_137 : decode cX9_note 137 = .ok (.aload_n 0, 1) := by decide +kernel
theorem dX9_note_138 : decode cX9_note 138 = .ok (.getfield 104, 3) := by decide +kernel
theorem dX9_note_141 : decode cX9_note 141 = .ok (.iload 6, 2) := by decide +kernel
theorem dX9_note_143 : decode cX9_note 143 = .ok (.iload 4, 2) := by decide +kernel
theorem dX9_note_145 : decode cX9_note 145 = .ok (.iastore, 1) := by decide +kernel
theorem dX9_note_146 : decode cX9_note 146 = .ok (.aload_n 0, 1) := by decide +kernel
theorem dX9_note_147 : decode cX9_note 147 = .ok (.getfield 107, 3) := by decide +kernel
theorem dX9_note_150 : decode cX9_note 150 = .ok (.iload 6, 2) := by decide +kernel
theorem dX9_note_152 : decode cX9_note 152 = .ok (.iload 5, 2) := by decide +kernel
theorem dX9_note_154 : decode cX9_note 154 = .ok (.bastore, 1) := by decide +kernel
theorem dX9_note_155 : decode cX9_note 155 = .ok (.aload_n 0, 1) := by decide +kernel
theorem dX9_note_156 : decode cX9_note 156 = .ok (.dup, 1) := by decide +kernel
theorem dX9_note_157 : decode cX9_note 157 = .ok (.getfield 250, 3) := by decide +kernel
theorem dX9_note_160 : decode cX9_note 160 = .ok (.iconst 1, 1) := by decide +kernel
theorem dX9_note_161 : decode cX9_note 161 = .ok (.iadd, 1) := by decide +kernel
theorem dX9_note_162 : decode cX9_note 162 = .ok (.putfield 250, 3) := by decide +kernel
theorem dX9_note_165 : decode cX9_note 165 = .ok (.return_, 1) := by decide +kernel
theorem dX9_isAfter_0 : decode cX9_isAfter 0 = .ok (.aload_n 0, 1) := by decide +kernel
theorem dX9_isAfter_1 : decode cX9_isAfter 1 = .ok (.getfield 95, 3) := by decide +kernel
theorem dX9_isAfter_4 : decode cX9_isAfter 4 = .ok (.iload_n 1, 1) := by decide +kernel
theorem dX9_isAfter_5 : decode cX9_isAfter 5 = .ok (.iaload, 1) := by decide +kernel
theorem dX9_isAfter_6 : decode cX9_isAfter 6 = .ok (.iload_n 2, 1) := by decide +kernel
theorem dX9_isAfter_7 : decode cX9_isAfter 7 = .ok (.if_icmp .eq 19, 3) := by decide +kernel
theorem dX9_isAfter_10 : decode cX9_isAfter 10 = .ok (.aload_n 0, 1) := by decide +kernel
theorem dX9_isAfter_11 : decode cX9_isAfter 11 = .ok (.getfield 95, 3) := by decide +kernel
theorem dX9_isAfter_14 : decode cX9_isAfter 14 = .ok (.iload_n 1, 1) := by decide +kernel
theorem dX9_isAfter_15 : decode cX9_isAfter 15 = .ok (.iaload, 1) := by decide +kernel
theorem dX9_isAfter_16 : decode cX9_isAfter 16 = .ok (.iload_n 2, 1) := by decide +kernel
theorem dX9_isAfter_17 : decode cX9_isAfter 17 = .ok (.if_icmp .le 7, 3) := by decide +kernel
theorem dX9_isAfter_20 : decode cX9_isAfter 20 = .ok (.iconst 1, 1) := by decide +kernel
theorem dX9_isAfter_21 : decode cX9_isAfter 21 = .ok (.goto 4, 3) := by decide +kernel
theorem dX9_isAfter_24 : decode cX9_isAfter 24 = .ok (.iconst 0, 1) := by decide +kernel
theorem dX9_isAfter_25 : decode cX9_isAfter 25 = .ok (.ireturn, 1) := by decide +kernel
theorem dX9_isAfter_26 : decode cX9_isAfter 26 = .ok (.aload_n 0, 1) := by decide +kernel
theorem dX9_isAfter_27 : decode cX9_isAfter 27 = .ok (.getfield 98, 3) := by decide +kernel
theorem dX9_isAfter_30 : decode cX9_isAfter 30 = .ok (.iload_n 1, 1) := by decide +kernel
theorem dX9_isAfter_31 : decode cX9_isAfter 31 = .ok (.iaload, 1) := by decide +kernel
theorem dX9_isAfter_32 : decode cX9_isAfter 32 = .ok (.iload_n 3, 1) := by decide +kernel
theorem dX9_isAfter_33 : decode cX9_isAfter 33 = .ok (.if_icmp .eq 19, 3) := by decide +kernel
theorem dX9_isAfter_36 : decode cX9_isAfter 36 = .ok (.aload_n 0, 1) := by decide +kernel
theorem dX9_isAfter_37 : decode cX9_isAfter 37 = .ok (.getfield 98, 3) := by decide +kernel
theorem dX9_isAfter_40 : decode cX9_isAfter 40 = .ok (.iload_n 1, 1) := by decide +kernel
theorem dX9_isAfter_41 : decode cX9_isAfter 41 = .ok (.iaload, 1) := by decide +kernel
theorem dX9_isAfter_42 : decode cX9_isAfter 42 = .ok (.iload_n 3, 1) := by decide +kernel
theorem dX9_isAfter_43 : decode cX9_isAfter 43 = .ok (.if_icmp .le 7, 3) := by decide +kernel
theorem dX9_isAfter_46 : decode cX9_isAfter 46 = .ok (.iconst 1, 1) := by decide +kernel
theorem dX9_isAfter_47 : decode cX9_isAfter 47 = .ok (.goto 4, 3) := by decide +kernel
theorem dX9_isAfter_50 : decode cX9_isAfter 50 = .ok (.iconst 0, 1) := by decide +kernel
theorem dX9_isAfter_51 : decode cX9_isAfter 51 = .ok (.ireturn, 1) := by decide +kernel
theorem dX9_isAfter_52 : decode cX9_isAfter 52 = .ok (.aload_n 0, 1) := by decide +kernel
theorem dX9_isAfter_53 : decode cX9_isAfter 53 = .ok (.getfield 101, 3) := by decide +kernel
theorem dX9_isAfter_56 : decode cX9_isAfter 56 = .ok (.iload_n 1, 1) := by decide +kernel
theorem dX9_isAfter_57 : decode cX9_isAfter 57 = .ok (.iaload, 1) := by decide +kernel
theorem dX9_isAfter_58 : decode cX9_isAfter 58 = .ok (.iload 4, 2) := by decide +kernel
theorem dX9_isAfter_60 : decode cX9_isAfter 60 = .ok (.if_icmp .eq 22, 3) := by decide +kernel
theorem dX9_isAfter_63 : decode cX9_isAfter 63 = .ok (.aload_n 0, 1) := by decide +kernel
theorem dX9_isAfter_64 : decode cX9_isAfter 64 = .ok (.getfield 101, 3) := by decide +kernel
theorem dX9_isAfter_67 : decode cX9_isAfter 67 = .ok (.iload_n 1, 1) := by decide +kernel
theorem dX9_isAfter_68 : decode cX9_isAfter 68 = .ok (.iaload, 1) := by decide +kernel
theorem dX9_isAfter_69 : decode cX9_isAfter 69 = .ok (.iload 4, 2) := by decide +kernel
theorem dX9_isAfter_71 : decode cX9_isAfter 71 = .ok (.if_icmp .le 7, 3) := by decide +kernel
theorem dX9_isAfter_74 : decode cX9_isAfter 74 = .ok (.iconst 1, 1) := by decide +kernel
theorem dX9_isAfter_75 : decode cX9_isAfter 75 = .ok (.goto 23, 3) := by decide +kernel
theorem dX9_isAfter_78 : decode cX9_isAfter 78 = .ok (.iconst 0, 1) := by decide +kernel
theorem dX9_isAfter_79 : decode cX9_isAfter 79 = .ok (.goto 19, 3) := by decide +kernel
theorem dX9_isAfter_82 : decode cX9_isAfter 82 = .ok (.aload_n 0, 1) := by decide +kernel
theorem dX9_isAfter_83 : decode cX9_isAfter 83 = .ok (.getfield 104, 3) := by decide +kernel
theorem dX9_isAfter_86 : decode cX9_isAfter 86 = .ok (.iload_n 1, 1) := by decide +kernel
theorem dX9_isAfter_87 : decode cX9_isAfter 87 = .ok (.iaload, 1) := by decide +kernel
theorem dX9_isAfter_88 : decode cX9_isAfter 88 = .ok (.iload 5, 2) := by decide +kernel
theorem dX9_isAfter_90 : decode cX9_isAfter 90 = .ok (.if_icmp .le 7, 3) := by decide +kernel
theorem dX9_isAfter_93 : decode cX9_isAfter 93 = .ok (.iconst 1, 1) := by decide +kernel
theorem dX9_isAfter_94 : decode cX9_isAfter 94 = .ok (.goto 4, 3) := by decide +kernel
theorem dX9_isAfter_97 : decode cX9_isAfter 97 = .ok (.iconst 0, 1) := by decide +kernel
theorem dX9_isAfter_98 : decode cX9_isAfter 98 = .ok (.ireturn, 1) := by decide +kernel
theorem dX9_wasIn_0 : decode cX9_wasIn 0 = .ok (.iconst 0, 1) := by decide +kernel
theorem dX9_wasIn_1 : decode cX9_wasIn 1 = .ok (.istore 5, 2) := by decide +kernel
theorem dX9_wasIn_3 : decode cX9_wasIn 3 = .ok (.iconst 0, 1) := by decide +kernel
theorem dX9_wasIn_4 : decode cX9_wasIn 4 = .ok (.istore 6, 2) := by decide +kernel
theorem dX9_wasIn_6 : decode cX9_wasIn 6 = .ok (.iload 6, 2) := by decide +kernel
theorem dX9_wasIn_8 : decode cX9_wasIn 8 = .ok (.aload_n 0, 1) := by decide +kernel
theorem dX9_wasIn_9 : decode cX9_wasIn 9 = .ok (.getfield 244, 3) := by decide +kernel
theorem dX9_wasIn_12 : decode cX9_wasIn 12 = .ok (.if_icmp .ge 66, 3) := by decide +kernel
theorem dX9_wasIn_15 : decode cX9_wasIn 15 = .ok (.iload 5, 2) := by decide +kernel
theorem dX9_wasIn_17 : decode cX9_wasIn 17 = .ok (.ifCond .ne 48, 3) := by decide +kernel
theorem dX9_wasIn_20 : decode cX9_wasIn 20 = .ok (.aload_n 0, 1) := by decide +kernel
theorem dX9_wasIn_21 : decode cX9_wasIn 21 = .ok (.getfield 80, 3) := by decide +kernel
theorem dX9_wasIn_24 : decode cX9_wasIn 24 = .ok (.iload 6, 2) := by decide +kernel
theorem dX9_wasIn_26 : decode cX9_wasIn 26 = .ok (.iaload, 1) := by decide +kernel
theorem dX9_wasIn_27 : decode cX9_wasIn 27 = .ok (.iload_n 1, 1) := by decide +kernel
theorem dX9_wasIn_28 : decode cX9_wasIn 28 = .ok (.if_icmp .ne 41, 3) := by decide +kernel
theorem dX9_wasIn_31 : decode cX9_wasIn 31 = .ok (.aload_n 0, 1) := by decide +kernel
theorem dX9_wasIn_32 : decode cX9_wasIn 32 = .ok (.getfield 83, 3) := by decide +kernel
theorem dX9_wasIn_35 : decode cX9_wasIn 35 = .ok (.iload 6, 2) := by decide +kernel
theorem dX9_wasIn_37 : decode cX9_wasIn 37 = .ok (.iaload, 1) := by decide +kernel
theorem dX9_wasIn_38 : decode cX9_wasIn 38 = .ok (.iload_n 2, 1) := by decide +kernel
theorem dX9_wasIn_39 : decode cX9_wasIn 39 = .ok (.if_icmp .ne 30, 3) := by decide +kernel
theorem dX9_wasIn_42 : decode cX9_wasIn 42 = .ok (.aload_n 0, 1) := by decide +kernel
theorem dX9_wasIn_43 : decode cX9_wasIn 43 = .ok (.getfield 86, 3) := by decide +kernel
theorem dX9_wasIn_46 : decode cX9_wasIn 46 = .ok (.iload 6, 2) := by decide +kernel
theorem dX9_wasIn_48 : decode cX9_wasIn 48 = .ok (.iaload, 1) := by decide +kernel
theorem dX9_wasIn_49 : decode cX9_wasIn 49 = .ok (.iload_n 3, 1) := by decide +kernel
theorem dX9_wasIn_50 : decode cX9_wasIn 50 = .ok (.if_icmp .ne 19, 3) := by decide +kernel
theorem dX9_wasIn_53 : decode cX9_wasIn 53 = .ok (.aload_n 0, 1) := by decide +kernel
theorem dX9_wasIn_54 : decode cX9_wasIn 54 = .ok (.getfield 89, 3) := by decide +kernel
theorem dX9_wasIn_57 : decode cX9_wasIn 57 = .ok (.iload 6, 2) := by decide +kernel
theorem dX9_wasIn_59 : decode cX9_wasIn 59 = .ok (.iaload, 1) := by decide +kernel
theorem dX9_wasIn_60 : decode cX9_wasIn 60 = .ok (.iload 4, 2) := by decide +kernel
theorem dX9_wasIn_62 : decode cX9_wasIn 62 = .ok (.if_icmp .ne 7, 3) := by decide +kernel
theorem dX9_wasIn_65 : decode cX9_wasIn 65 = .ok (.iconst 1, 1) := by decide +kernel
theorem dX9_wasIn_66 : decode cX9_wasIn 66 = .ok (.goto 4, 3) := by decide +kernel
theorem dX9_wasIn_69 : decode cX9_wasIn 69 = .ok (.iconst 0, 1) := by decide +kernel
theorem dX9_wasIn_70 : decode cX9_wasIn 70 = .ok (.istore 5, 2) := by decide +kernel
theorem dX9_wasIn_72 : decode cX9_wasIn 72 = .ok (.iinc 6 1, 3) := by decide +kernel
theorem dX9_wasIn_75 : decode cX9_wasIn 75 = .ok (.goto (-69), 3) := by decide +kernel
theorem dX9_wasIn_78 : decode cX9_wasIn 78 = .ok (.iload 5, 2) := by decide +kernel
theorem dX9_wasIn_80 : decode cX9_wasIn 80 = .ok (.ireturn, 1) := by decide +kernel
theorem dX9_noteAll_0 : decode cX9_noteAll 0 = .ok (.aload_n 0, 1) := by decide +kernel
theorem dX9_noteAll_1 : decode cX9_noteAll 1 = .ok (.iconst 0, 1) := by decide +kernel
theorem dX9_noteAll_2 : decode cX9_noteAll 2 = .ok (.putfield 250, 3) := by decide +kernel
theorem dX9_noteAll_5 : decode cX9_noteAll 5 = .ok (.iconst 0, 1) := by decide +kernel
theorem dX9_noteAll_6 : decode cX9_noteAll 6 = .ok (.istore_n 1, 1) := by decide +kernel
theorem dX9_noteAll_7 : decode cX9_noteAll 7 = .ok (.iload_n 1, 1) := by decide +kernel
theorem dX9_noteAll_8 : decode cX9_noteAll 8 = .ok (.aload_n 0, 1) := by decide +kernel
theorem dX9_noteAll_9 : decode cX9_noteAll 9 = .ok (.getfield 160, 3) := by decide +kernel
theorem dX9_noteAll_12 : decode cX9_noteAll 12 = .ok (.if_icmp .ge 69, 3) := by decide +kernel
theorem dX9_noteAll_15 : decode cX9_noteAll 15 = .ok (.aload_n 0, 1) := by decide +kernel
theorem dX9_noteAll_16 : decode cX9_noteAll 16 = .ok (.aload_n 0, 1) := by decide +kernel
theorem dX9_noteAll_17 : decode cX9_noteAll 17 = .ok (.getfield 65, 3) := by decide +kernel
theorem dX9_noteAll_20 : decode cX9_noteAll 20 = .ok (.iload_n 1, 1) := by decide +kernel
theorem dX9_noteAll_21 : decode cX9_noteAll 21 = .ok (.iaload, 1) := by decide +kernel
theorem dX9_noteAll_22 : decode cX9_noteAll 22 = .ok (.aload_n 0, 1) := by decide +kernel
theorem dX9_noteAll_23 : decode cX9_noteAll 23 = .ok (.getfield 68, 3) := by decide +kernel
theorem dX9_noteAll_26 : decode cX9_noteAll 26 = .ok (.iload_n 1, 1) := by decide +kernel
theorem dX9_noteAll_27 : decode cX9_noteAll 27 = .ok (.iaload, 1) := by decide +kernel
theorem dX9_noteAll_28 : decode cX9_noteAll 28 = .ok (.aload_n 0, 1) := by decide +kernel
theorem dX9_noteAll_29 : decode cX9_noteAll 29 = .ok (.getfield 71, 3) := by decide +kernel
theorem dX9_noteAll_32 : decode cX9_noteAll 32 = .ok (.iload_n 1, 1) := by decide +kernel
theorem dX9_noteAll_33 : decode cX9_noteAll 33 = .ok (.iaload, 1) := by decide +kernel
theorem dX9_noteAll_34 : decode cX9_noteAll 34 = .ok (.aload_n 0, 1) := by decide +kernel
theorem dX9_noteAll_35 : decode cX9_noteAll 35 = .ok (.getfield 74, 3) := by decide +kernel
theorem dX9_noteAll_38 : decode cX9_noteAll 38 = .ok (.iload_n 1, 1) := by decide +kernel
theorem dX9_noteAll_39 : decode cX9_noteAll 39 = .ok (.iaload, 1) := by decide +kernel
theorem dX9_noteAll_40 : decode cX9_noteAll 40 = .ok (.invokevirtual 257, 3) := by decide +kernel
theorem dX9_noteAll_43 : decode cX9_noteAll 43 = .ok (.ifCond .ne 32, 3) := by decide +kernel
theorem dX9_noteAll_46 : decode cX9_noteAll 46 = .ok (.aload_n 0, 1) := by decide +kernel
theorem dX9_noteAll_47 : decode cX9_noteAll 47 = .ok (.aload_n 0, 1) := by decide +kernel
theorem dX9_noteAll_48 : decode cX9_noteAll 48 = .ok (.getfield 65, 3) := by decide +kernel
theorem dX9_noteAll_51 : decode cX9_noteAll 51 = .ok (.iload_n 1, 1) := by decide +kernel
theorem dX9_noteAll_52 : decode cX9_noteAll 52 = .ok (.iaload, 1) := by decide +kernel
theorem dX9_noteAll_53 : decode cX9_noteAll 53 = .ok (.aload_n 0, 1) := by decide +kernel
theorem dX9_noteAll_54 : decode cX9_noteAll 54 = .ok (.getfield 68, 3) := by decide +kernel
theorem dX9_noteAll_57 : decode cX9_noteAll 57 = .ok (.iload_n 1, 1) := by decide +kernel
theorem dX9_noteAll_58 : decode cX9_noteAll 58 = .ok (.iaload, 1) := by decide +kernel
theorem dX9_noteAll_59 : decode cX9_noteAll 59 = .ok (.aload_n 0, 1) := by decide +kernel
theorem dX9_noteAll_60 : decode cX9_noteAll 60 = .ok (.getfield 71, 3) := by decide +kernel
theorem dX9_noteAll_63 : decode cX9_noteAll 63 = .ok (.iload_n 1, 1) := by decide +kernel
theorem dX9_noteAll_64 : decode cX9_noteAll 64 = .ok (.iaload, 1) := by decide +kernel
theorem dX9_noteAll_65 : decode cX9_noteAll 65 = .ok (.aload_n 0, 1) := by decide +kernel
theorem dX9_noteAll_66 : decode cX9_noteAll 66 = .ok (.getfield 74, 3) := by decide +kernel
theorem dX9_noteAll_69 : decode cX9_noteAll 69 = .ok (.iload_n 1, 1) := by decide +kernel
theorem dX9_noteAll_70 : decode cX9_noteAll 70 = .ok (.iaload, 1) := by decide +kernel
theorem dX9_noteAll_71 : decode cX9_noteAll 71 = .ok (.iconst 1, 1) := by decide +kernel
theorem dX9_noteAll_72 : decode cX9_noteAll 72 = .ok (.invokevirtual 260, 3) := by decide +kernel
theorem dX9_noteAll_75 : decode cX9_noteAll 75 = .ok (.iinc 1 1, 3) := by decide +kernel
theorem dX9_noteAll_78 : decode cX9_noteAll 78 = .ok (.goto (-71), 3) := by decide +kernel
theorem dX9_noteAll_81 : decode cX9_noteAll 81 = .ok (.iconst 0, 1) := by decide +kernel
theorem dX9_noteAll_82 : decode cX9_noteAll 82 = .ok (.istore_n 1, 1) := by decide +kernel
theorem dX9_noteAll_83 : decode cX9_noteAll 83 = .ok (.iload_n 1, 1) := by decide +kernel
theorem dX9_noteAll_84 : decode cX9_noteAll 84 = .ok (.aload_n 0, 1) := by decide +kernel
theorem dX9_noteAll_85 : decode cX9_noteAll 85 = .ok (.getfield 244, 3) := by decide +kernel
theorem dX9_noteAll_88 : decode cX9_noteAll 88 = .ok (.if_icmp .ge 69, 3) := by decide +kernel
theorem dX9_noteAll_91 : decode cX9_noteAll 91 = .ok (.aload_n 0, 1) := by decide +kernel
theorem dX9_noteAll_92 : decode cX9_noteAll 92 = .ok (.aload_n 0, 1) := by decide +kernel
theorem dX9_noteAll_93 : decode cX9_noteAll 93 = .ok (.getfield 80, 3) := by decide +kernel
theorem dX9_noteAll_96 : decode cX9_noteAll 96 = .ok (.iload_n 1, 1) := by decide +kernel
theorem dX9_noteAll_97 : decode cX9_noteAll 97 = .ok (.iaload, 1) := by decide +kernel
theorem dX9_noteAll_98 : decode cX9_noteAll 98 = .ok (.aload_n 0, 1) := by decide +kernel
theorem dX9_noteAll_99 : decode cX9_noteAll 99 = .ok (.getfield 83, 3) := by decide +kernel
theorem dX9_noteAll_102 : decode cX9_noteAll 102 = .ok (.iload_n 1, 1) := by decide +kernel
theorem dX9_noteAll_103 : decode cX9_noteAll 103 = .ok (.iaload, 1) := by decide +kernel
theorem dX9_noteAll_104 : decode cX9_noteAll 104 = .ok (.aload_n 0, 1) := by decide +kernel
theorem dX9_noteAll_105 : decode cX9_noteAll 105 = .ok (.getfield 86, 3) := by decide +kernel
theorem dX9_noteAll_108 : decode cX9_noteAll 108 = .ok (.iload_n 1, 1) := by decide +kernel
theorem dX9_noteAll_109 : decode cX9_noteAll 109 = .ok (.iaload, 1) := by decide +kernel
theorem dX9_noteAll_110 : decode cX9_noteAll 110 = .ok (.aload_n 0, 1) := by decide +kernel
theorem dX9_noteAll_111 : decode cX9_noteAll 111 = .ok (.getfield 89, 3) := by decide +kernel
theorem dX9_noteAll_114 : decode cX9_noteAll 114 = .ok (.iload_n 1, 1) := by decide +kernel
theorem dX9_noteAll_115 : decode cX9_noteAll 115 = .ok (.iaload, 1) := by decide +kernel
theorem dX9_noteAll_116 : decode cX9_noteAll 116 = .ok (.invokevirtual 163, 3) := by decide +kernel
theorem dX9_noteAll_119 : decode cX9_noteAll 119 = .ok (.ifCond .ge 32, 3) := by decide +kernel
theorem dX9_noteAll_122 : decode cX9_noteAll 122 = .ok (.aload_n 0, 1) := by decide +kernel
theorem dX9_noteAll_123 : decode cX9_noteAll 123 = .ok (.aload_n 0, 1) := by decide +kernel
theorem dX9_noteAll_124 : decode cX9_noteAll 124 = .ok (.getfield 80, 3) := by decide +kernel
theorem dX9_noteAll_127 : decode cX9_noteAll 127 = .ok (.iload_n 1, 1) := by decide +kernel
theorem dX9_noteAll_128 : decode cX9_noteAll 128 = .ok (.iaload, 1) := by decide +kernel
theorem dX9_noteAll_129 : decode cX9_noteAll 129 = .ok (.aload_n 0, 1) := by decide +kernel
theorem dX9_noteAll_130 : decode cX9_noteAll 130 = .ok (.getfield 83, 3) := by decide +kernel
theorem dX9_noteAll_133 : decode cX9_noteAll 133 = .ok (.iload_n 1, 1) := by decide +kernel
theorem dX9_noteAll_134 : decode cX9_noteAll 134 = .ok (.iaload, 1) := by decide +kernel
theorem dX9_noteAll_135 : decode cX9_noteAll 135 = .ok (.aload_n 0, 1) := by decide +kernel
theorem dX9_noteAll_136 : decode cX9_noteAll 136 = .ok (.getfield 86, 3) := by decide +kernel
theorem dX9_noteAll_139 : decode cX9_noteAll 139 = .ok (.iload_n 1, 1) := by decide +kernel
theorem dX9_noteAll_140 : decode cX9_noteAll 140 = .ok (.iaload, 1) := by decide +kernel
theorem dX9_noteAll_141 : decode cX9_noteAll 141 = .ok (.aload_n 0, 1) := by decide +kernel
theorem dX9_noteAll_142 : decode cX9_noteAll 142 = .ok (.getfield 89, 3) := by decide +kernel
theorem dX9_noteAll_145 : decode cX9_noteAll 145 = .ok (.iload_n 1, 1) := by decide +kernel
theorem dX9_noteAll_146 : decode cX9_noteAll 146 = .ok (.iaload, 1) := by decide +kernel
theorem dX9_noteAll_147 : decode cX9_noteAll 147 = .ok (.iconst 0, 1) := by decide +kernel
theorem dX9_noteAll_148 : decode cX9_noteAll 148 = .ok (.invokevirtual 260, 3) := by decide +kernel
theorem dX9_noteAll_151 : decode cX9_noteAll 151 = .ok (.iinc 1 1, 3) := by decide +kernel
theorem dX9_noteAll_154 : decode cX9_noteAll 154 = .ok (.goto (-71), 3) := by decide +kernel
theorem dX9_noteAll_157 : decode cX9_noteAll 157 = .ok (.return_, 1) := by decide +kernel
theorem dX9_run_0 : decode cX9_run 0 = .ok (.aload_n 0, 1) := by decide +kernel
theorem dX9_run_1 : decode cX9_run 1 = .ok (.iconst 0, 1) := by decide +kernel
theorem dX9_run_2 : decode cX9_run 2 = .ok (.putfield 129, 3) := by decide +kernel
theorem dX9_run_5 : decode cX9_run 5 = .ok (.aload_n 0, 1) := by decide +kernel
theorem dX9_run_6 : decode cX9_run 6 = .ok (.invokevirtual 264, 3) := by decide +kernel
theorem dX9_run_9 : decode cX9_run 9 = .ok (.aload_n 0, 1) := by decide +kernel
theorem dX9_run_10 : decode cX9_run 10 = .ok (.iconst 0, 1) := by decide +kernel
theorem dX9_run_11 : decode cX9_run 11 = .ok (.putfield 196, 3) := by decide +kernel
theorem dX9_run_14 : decode cX9_run 14 = .ok (.aload_n 0, 1) := by decide +kernel
theorem dX9_run_15 : decode cX9_run 15 = .ok (.iconst (-1), 1) := by decide +kernel
theorem dX9_run_16 : decode cX9_run 16 = .ok (.putfield 113, 3) := by decide +kernel
theorem dX9_run_19 : decode cX9_run 19 = .ok (.iconst 0, 1) := by decide +kernel
theorem dX9_run_20 : decode cX9_run 20 = .ok (.istore_n 1, 1) := by decide +kernel
theorem dX9_run_21 : decode cX9_run 21 = .ok (.iload_n 1, 1) := by decide +kernel
theorem dX9_run_22 : decode cX9_run 22 = .ok (.bipush 12, 2) := by decide +kernel
theorem dX9_run_24 : decode cX9_run 24 = .ok (.if_icmp .ge 16, 3) := by decide +kernel
theorem dX9_run_27 : decode cX9_run 27 = .ok (.aload_n 0, 1) := by decide +kernel
theorem dX9_run_28 : decode cX9_run 28 = .ok (.getfield 110, 3) := by decide +kernel
theorem dX9_run_31 : decode cX9_run 31 = .ok (.iload_n 1, 1) := by decide +kernel
theorem dX9_run_32 : decode cX9_run 32 = .ok (.iconst (-1), 1) := by decide +kernel
theorem dX9_run_33 : decode cX9_run 33 = .ok (.iastore, 1) := by decide +kernel
theorem dX9_run_34 : decode cX9_run 34 = .ok (.iinc 1 1, 3) := by decide +kernel
theorem dX9_run_37 : decode cX9_run 37 = .ok (.goto (-16), 3) := by decide +kernel
theorem dX9_run_40 : decode cX9_run 40 = .ok (.iconst 0, 1) := by decide +kernel
theorem dX9_run_41 : decode cX9_run 41 = .ok (.istore_n 1, 1) := by decide +kernel
theorem dX9_run_42 : decode cX9_run 42 = .ok (.iload_n 1, 1) := by decide +kernel
theorem dX9_run_43 : decode cX9_run 43 = .ok (.aload_n 0, 1) := by decide +kernel
theorem dX9_run_44 : decode cX9_run 44 = .ok (.getfield 132, 3) := by decide +kernel
theorem dX9_run_47 : decode cX9_run 47 = .ok (.if_icmp .ge 51, 3) := by decide +kernel
theorem dX9_run_50 : decode cX9_run 50 = .ok (.aload_n 0, 1) := by decide +kernel
theorem dX9_run_51 : decode cX9_run 51 = .ok (.iload_n 1, 1) := by decide +kernel
theorem dX9_run_52 : decode cX9_run 52 = .ok (.invokevirtual 267, 3) := by decide +kernel
theorem dX9_run_55 : decode cX9_run 55 = .ok (.istore_n 2, 1) := by decide +kernel
theorem dX9_run_56 : decode cX9_run 56 = .ok (.iload_n 2, 1) := by decide +kernel
theorem dX9_run_57 : decode cX9_run 57 = .ok (.ifCond .le 35, 3) := by decide +kernel
theorem dX9_run_60 : decode cX9_run 60 = .ok (.aload_n 0, 1) := by decide +kernel
theorem dX9_run_61 : decode cX9_run 61 = .ok (.getfield 19, 3) := by decide +kernel
theorem dX9_run_64 : decode cX9_run 64 = .ok (.iload_n 1, 1) := by decide +kernel
theorem dX9_run_65 : decode cX9_run 65 = .ok (.baload, 1) := by decide +kernel
theorem dX9_run_66 : decode cX9_run 66 = .ok (.ifCond .eq 8, 3) := by decide +kernel
theorem dX9_run_69 : decode cX9_run 69 = .ok (.iload_n 2, 1) := by decide +kernel
theorem dX9_run_70 : decode cX9_run 70 = .ok (.iconst 4, 1) := by decide +kernel
theorem dX9_run_71 : decode cX9_run 71 = .ok (.if_icmp .lt 21, 3) := by decide +kernel
theorem dX9_run_74 : decode cX9_run 74 = .ok (.aload_n 0, 1) := by decide +kernel
theorem dX9_run_75 : decode cX9_run 75 = .ok (.invokevirtual 270, 3) := by decide +kernel
theorem dX9_run_78 : decode cX9_run 78 = .ok (.aload_n 0, 1) := by decide +kernel
theorem dX9_run_79 : decode cX9_run 79 = .ok (.iload_n 1, 1) := by decide +kernel
theorem dX9_run_80 : decode cX9_run 80 = .ok (.putfield 113, 3) := by decide +kernel
theorem dX9_run_83 : decode cX9_run 83 = .ok (.aload_n 0, 1) := by decide +kernel
theorem dX9_run_84 : decode cX9_run 84 = .ok (.iconst 0, 1) := by decide +kernel
theorem dX9_run_85 : decode cX9_run 85 = .ok (.putfield 196, 3) := by decide +kernel
theorem dX9_run_88 : decode cX9_run 88 = .ok (.iconst (-1), 1) := by decide +kernel
theorem dX9_run_89 : decode cX9_run 89 = .ok (.iload_n 2, 1) := by decide +kernel
theorem dX9_run_90 : decode cX9_run 90 = .ok (.isub, 1) := by decide +kernel
theorem dX9_run_91 : decode cX9_run 91 = .ok (.ireturn, 1) := by decide +kernel
theorem dX9_run_92 : decode cX9_run 92 = .ok (.iinc 1 1, 3) := by decide +kernel
theorem dX9_run_95 : decode cX9_run 95 = .ok (.goto (-53), 3) := by decide +kernel
theorem dX9_run_98 : decode cX9_run 98 = .ok (.aload_n 0, 1) := by decide +kernel
theorem dX9_run_99 : decode cX9_run 99 = .ok (.invokevirtual 273, 3) := by decide +kernel
theorem dX9_run_102 : decode cX9_run 102 = .ok (.aload_n 0, 1) := by decide +kernel
theorem dX9_run_103 : decode cX9_run 103 = .ok (.getfield 250, 3) := by decide +kernel
theorem dX9_run_106 : decode cX9_run 106 = .ok (.ireturn, 1) := by decide +kernel
theorem dX9_fails_0 : decode cX9_fails 0 = .ok (.aload_n 0, 1) := by decide +kernel
theorem dX9_fails_1 : decode cX9_fails 1 = .ok (.iconst 0, 1) := by decide +kernel
theorem dX9_fails_2 : decode cX9_fails 2 = .ok (.putfield 129, 3) := by decide +kernel
theorem dX9_fails_5 : decode cX9_fails 5 = .ok (.aload_n 0, 1) := by decide +kernel
theorem dX9_fails_6 : decode cX9_fails 6 = .ok (.getfield 113, 3) := by decide +kernel
theorem dX9_fails_9 : decode cX9_fails 9 = .ok (.ireturn, 1) := by decide +kernel
theorem dX9_clear_0 : decode cX9_clear 0 = .ok (.aload_n 0, 1) := by decide +kernel
theorem dX9_clear_1 : decode cX9_clear 1 = .ok (.iconst 0, 1) := by decide +kernel
theorem dX9_clear_2 : decode cX9_clear 2 = .ok (.putfield 129, 3) := by decide +kernel
theorem dX9_clear_5 : decode cX9_clear 5 = .ok (.aload_n 0, 1) := by decide +kernel
theorem dX9_clear_6 : decode cX9_clear 6 = .ok (.getfield 132, 3) := by decide +kernel
theorem dX9_clear_9 : decode cX9_clear 9 = .ok (.istore_n 1, 1) := by decide +kernel
theorem dX9_clear_10 : decode cX9_clear 10 = .ok (.aload_n 0, 1) := by decide +kernel
theorem dX9_clear_11 : decode cX9_clear 11 = .ok (.iconst 0, 1) := by decide +kernel
theorem dX9_clear_12 : decode cX9_clear 12 = .ok (.putfield 132, 3) := by decide +kernel
theorem dX9_clear_15 : decode cX9_clear 15 = .ok (.iconst 0, 1) := by decide +kernel
theorem dX9_clear_16 : decode cX9_clear 16 = .ok (.istore_n 2, 1) := by decide +kernel
theorem dX9_clear_17 : decode cX9_clear 17 = .ok (.iload_n 2, 1) := by decide +kernel
theorem dX9_clear_18 : decode cX9_clear 18 = .ok (.bipush 12, 2) := by decide +kernel
theorem dX9_clear_20 : decode cX9_clear 20 = .ok (.if_icmp .ge 16, 3) := by decide +kernel
theorem dX9_clear_23 : decode cX9_clear 23 = .ok (.aload_n 0, 1) := by decide +kernel
theorem dX9_clear_24 : decode cX9_clear 24 = .ok (.getfield 110, 3) := by decide +kernel
theorem dX9_clear_27 : decode cX9_clear 27 = .ok (.iload_n 2, 1) := by decide +kernel
theorem dX9_clear_28 : decode cX9_clear 28 = .ok (.iconst (-1), 1) := by decide +kernel
theorem dX9_clear_29 : decode cX9_clear 29 = .ok (.iastore, 1) := by decide +kernel
theorem dX9_clear_30 : decode cX9_clear 30 = .ok (.iinc 2 1, 3) := by decide +kernel
theorem dX9_clear_33 : decode cX9_clear 33 = .ok (.goto (-16), 3) := by decide +kernel
theorem dX9_clear_36 : decode cX9_clear 36 = .ok (.iload_n 1, 1) := by decide +kernel
theorem dX9_clear_37 : decode cX9_clear 37 = .ok (.ireturn, 1) := by decide +kernel
theorem dX9_many_0 : decode cX9_many 0 = .ok (.aload_n 0, 1) := by decide +kernel
theorem dX9_many_1 : decode cX9_many 1 = .ok (.iload_n 1, 1) := by decide +kernel
theorem dX9_many_2 : decode cX9_many 2 = .ok (.iconst 0, 1) := by decide +kernel
theorem dX9_many_3 : decode cX9_many 3 = .ok (.bipush 6, 2) := by decide +kernel
theorem dX9_many_5 : decode cX9_many 5 = .ok (.invokestatic 135, 3) := by decide +kernel
theorem dX9_many_8 : decode cX9_many 8 = .ok (.ifCond .eq 7, 3) := by decide +kernel
theorem dX9_many_11 : decode cX9_many 11 = .ok (.iconst 0, 1) := by decide +kernel
theorem dX9_many_12 : decode cX9_many 12 = .ok (.goto 4, 3) := by decide +kernel
theorem dX9_many_15 : decode cX9_many 15 = .ok (.iconst 1, 1) := by decide +kernel
theorem dX9_many_16 : decode cX9_many 16 = .ok (.putfield 129, 3) := by decide +kernel
theorem dX9_many_19 : decode cX9_many 19 = .ok (.aload_n 0, 1) := by decide +kernel
theorem dX9_many_20 : decode cX9_many 20 = .ok (.getfield 129, 3) := by decide +kernel
theorem dX9_many_23 : decode cX9_many 23 = .ok (.ifCond .gt 12, 3) := by decide +kernel
theorem dX9_many_26 : decode cX9_many 26 = .ok (.aload_n 0, 1) := by decide +kernel
theorem dX9_many_27 : decode cX9_many 27 = .ok (.getfield 77, 3) := by decide +kernel
theorem dX9_many_30 : decode cX9_many 30 = .ok (.iload_n 1, 1) := by decide +kernel
theorem dX9_many_31 : decode cX9_many 31 = .ok (.baload, 1) := by decide +kernel
theorem dX9_many_32 : decode cX9_many 32 = .ok (.ifCond .ne 16, 3) := by decide +kernel
theorem dX9_many_35 : decode cX9_many 35 = .ok (.aload_n 0, 1) := by decide +kernel
theorem dX9_many_36 : decode cX9_many 36 = .ok (.getfield 129, 3) := by decide +kernel
theorem dX9_many_39 : decode cX9_many 39 = .ok (.ifCond .le 7, 3) := by decide +kernel
theorem dX9_many_42 : decode cX9_many 42 = .ok (.iconst 0, 1) := by decide +kernel
theorem dX9_many_43 : decode cX9_many 43 = .ok (.goto 4, 3) := by decide +kernel
theorem dX9_many_46 : decode cX9_many 46 = .ok (.iconst (-1), 1) := by decide +kernel
theorem dX9_many_47 : decode cX9_many 47 = .ok (.ireturn, 1) := by decide +kernel
theorem dX9_many_48 : decode cX9_many 48 = .ok (.aload_n 0, 1) := by decide +kernel
theorem dX9_many_49 : decode cX9_many 49 = .ok (.iload_n 1, 1) := by decide +kernel
theorem dX9_many_50 : decode cX9_many 50 = .ok (.invokevirtual 187, 3) := by decide +kernel
theorem dX9_many_53 : decode cX9_many 53 = .ok (.aload_n 0, 1) := by decide +kernel
theorem dX9_many_54 : decode cX9_many 54 = .ok (.getfield 174, 3) := by decide +kernel
theorem dX9_many_57 : decode cX9_many 57 = .ok (.ireturn, 1) := by decide +kernel
theorem dX9_at_0 : decode cX9_at 0 = .ok (.aload_n 0, 1) := by decide +kernel
theorem dX9_at_1 : decode cX9_at 1 = .ok (.iconst 1, 1) := by decide +kernel
theorem dX9_at_2 : decode cX9_at 2 = .ok (.putfield 129, 3) := by decide +kernel
theorem dX9_at_5 : decode cX9_at 5 = .ok (.iload_n 1, 1) := by decide +kernel
theorem dX9_at_6 : decode cX9_at 6 = .ok (.iconst 0, 1) := by decide +kernel
theorem dX9_at_7 : decode cX9_at 7 = .ok (.bipush 6, 2) := by decide +kernel
theorem dX9_at_9 : decode cX9_at 9 = .ok (.invokestatic 135, 3) := by decide +kernel
theorem dX9_at_12 : decode cX9_at 12 = .ok (.ifCond .eq 42, 3) := by decide +kernel
theorem dX9_at_15 : decode cX9_at 15 = .ok (.aload_n 0, 1) := by decide +kernel
theorem dX9_at_16 : decode cX9_at 16 = .ok (.iload_n 1, 1) := by decide +kernel
theorem dX9_at_17 : decode cX9_at 17 = .ok (.invokevirtual 187, 3) := by decide +kernel
theorem dX9_at_20 : decode cX9_at 20 = .ok (.aload_n 0, 1) := by decide +kernel
theorem dX9_at_21 : decode cX9_at 21 = .ok (.iload_n 2, 1) := by decide +kernel
theorem dX9_at_22 : decode cX9_at 22 = .ok (.ifCond .lt 11, 3) := by decide +kernel
theorem dX9_at_25 : decode cX9_at 25 = .ok (.iload_n 2, 1) := by decide +kernel
theorem dX9_at_26 : decode cX9_at 26 = .ok (.aload_n 0, 1) := by decide +kernel
theorem dX9_at_27 : decode cX9_at 27 = .ok (.getfield 174, 3) := by decide +kernel
theorem dX9_at_30 : decode cX9_at 30 = .ok (.if_icmp .lt 7, 3) := by decide +kernel
theorem dX9_at_33 : decode cX9_at 33 = .ok (.iconst 1, 1) := by decide +kernel
theorem dX9_at_34 : decode cX9_at 34 = .ok (.goto 17, 3) := by decide +kernel
theorem dX9_at_37 : decode cX9_at 37 = .ok (.iload_n 3, 1) := by decide +kernel
theorem dX9_at_38 : decode cX9_at 38 = .ok (.iconst 0, 1) := by decide +kernel
theorem dX9_at_39 : decode cX9_at 39 = .ok (.iconst 2, 1) := by decide +kernel
theorem dX9_at_40 : decode cX9_at 40 = .ok (.invokestatic 135, 3) := by decide +kernel
theorem dX9_at_43 : decode cX9_at 43 = .ok (.ifCond .ne 7, 3) := by decide +kernel
theorem dX9_at_46 : decode cX9_at 46 = .ok (.iconst 2, 1) := by decide +kernel
theorem dX9_at_47 : decode cX9_at 47 = .ok (.goto 4, 3) := by decide +kernel
theorem dX9_at_50 : decode cX9_at 50 = .ok (.iconst 0, 1) := by decide +kernel
theorem dX9_at_51 : decode cX9_at 51 = .ok (.putfield 129, 3) := by decide +kernel
theorem dX9_at_54 : decode cX9_at 54 = .ok (.aload_n 0, 1) := by decide +kernel
theorem dX9_at_55 : decode cX9_at 55 = .ok (.getfield 129, 3) := by decide +kernel
theorem dX9_at_58 : decode cX9_at 58 = .ok (.ifCond .le 5, 3) := by decide +kernel
theorem dX9_at_61 : decode cX9_at 61 = .ok (.iconst 0, 1) := by decide +kernel
theorem dX9_at_62 : decode cX9_at 62 = .ok (.ireturn, 1) := by decide +kernel
theorem dX9_at_63 : decode cX9_at 63 = .ok (.iload_n 3, 1) := by decide +kernel
theorem dX9_at_64 : decode cX9_at 64 = .ok (.ifCond .ne 17, 3) := by decide +kernel
theorem dX9_at_67 : decode cX9_at 67 = .ok (.aload_n 0, 1) := by decide +kernel
theorem dX9_at_68 : decode cX9_at 68 = .ok (.getfield 68, 3) := by decide +kernel
theorem dX9_at_71 : decode cX9_at 71 = .ok (.aload_n 0, 1) := by decide +kernel
theorem dX9_at_72 : decode cX9_at 72 = .ok (.getfield 123, 3) := by decide +kernel
theorem dX9_at_75 : decode cX9_at 75 = .ok (.iload_n 2, 1) := by decide +kernel
theorem dX9_at_76 : decode cX9_at 76 = .ok (.iaload, 1) := by decide +kernel
theorem dX9_at_77 : decode cX9_at 77 = .ok (.iaload, 1) := by decide +kernel
theorem dX9_at_78 : decode cX9_at 78 = .ok (.goto 33, 3) := by decide +kernel
theorem dX9_at_81 : decode cX9_at 81 = .ok (.iload_n 3, 1) := by decide +kernel
theorem dX9_at_82 : decode cX9_at 82 = .ok (.iconst 1, 1) := by decide +kernel
theorem dX9_at_83 : decode cX9_at 83 = .ok (.if_icmp .ne 17, 3) := by decide +kernel
theorem dX9_at_86 : decode cX9_at 86 = .ok (.aload_n 0, 1) := by decide +kernel
theorem dX9_at_87 : decode cX9_at 87 = .ok (.getfield 71, 3) := by decide +kernel
theorem dX9_at_90 : decode cX9_at 90 = .ok (.aload_n 0, 1) := by decide +kernel
theorem dX9_at_91 : decode cX9_at 91 = .ok (.getfield 123, 3) := by decide +kernel
theorem dX9_at_94 : decode cX9_at 94 = .ok (.iload_n 2, 1) := by decide +kernel
theorem dX9_at_95 : decode cX9_at 95 = .ok (.iaload, 1) := by decide +kernel
theorem dX9_at_96 : decode cX9_at 96 = .ok (.iaload, 1) := by decide +kernel
theorem dX9_at_97 : decode cX9_at 97 = .ok (.goto 14, 3) := by decide +kernel
theorem dX9_at_100 : decode cX9_at 100 = .ok (.aload_n 0, 1) := by decide +kernel
theorem dX9_at_101 : decode cX9_at 101 = .ok (.getfield 74, 3) := by decide +kernel
theorem dX9_at_104 : decode cX9_at 104 = .ok (.aload_n 0, 1) := by decide +kernel
theorem dX9_at_105 : decode cX9_at 105 = .ok (.getfield 123, 3) := by decide +kernel
theorem dX9_at_108 : decode cX9_at 108 = .ok (.iload_n 2, 1) := by decide +kernel
theorem dX9_at_109 : decode cX9_at 109 = .ok (.iaload, 1) := by decide +kernel
theorem dX9_at_110 : decode cX9_at 110 = .ok (.iaload, 1) := by decide +kernel
theorem dX9_at_111 : decode cX9_at 111 = .ok (.ireturn, 1) := by decide +kernel
theorem dX9_has_0 : decode cX9_has 0 = .ok (.aload_n 0, 1) := by decide +kernel
theorem dX9_has_1 : decode cX9_has 1 = .ok (.iload_n 1, 1) := by decide +kernel
theorem dX9_has_2 : decode cX9_has 2 = .ok (.iconst 0, 1) := by decide +kernel
theorem dX9_has_3 : decode cX9_has 3 = .ok (.bipush 6, 2) := by decide +kernel
theorem dX9_has_5 : decode cX9_has 5 = .ok (.invokestatic 135, 3) := by decide +kernel
theorem dX9_has_8 : decode cX9_has 8 = .ok (.ifCond .eq 7, 3) := by decide +kernel
theorem dX9_has_11 : decode cX9_has 11 = .ok (.iconst 0, 1) := by decide +kernel
theorem dX9_has_12 : decode cX9_has 12 = .ok (.goto 4, 3) := by decide +kernel
theorem dX9_has_15 : decode cX9_has 15 = .ok (.iconst 1, 1) := by decide +kernel
theorem dX9_has_16 : decode cX9_has 16 = .ok (.putfield 129, 3) := by decide +kernel
theorem dX9_has_19 : decode cX9_has 19 = .ok (.aload_n 0, 1) := by decide +kernel
theorem dX9_has_20 : decode cX9_has 20 = .ok (.getfield 129, 3) := by decide +kernel
theorem dX9_has_23 : decode cX9_has 23 = .ok (.ifCond .ne 19, 3) := by decide +kernel
theorem dX9_has_26 : decode cX9_has 26 = .ok (.aload_n 0, 1) := by decide +kernel
theorem dX9_has_27 : decode cX9_has 27 = .ok (.iload_n 1, 1) := by decide +kernel
theorem dX9_has_28 : decode cX9_has 28 = .ok (.iload_n 2, 1) := by decide +kernel
theorem dX9_has_29 : decode cX9_has 29 = .ok (.iload_n 3, 1) := by decide +kernel
theorem dX9_has_30 : decode cX9_has 30 = .ok (.iload 4, 2) := by decide +kernel
theorem dX9_has_32 : decode cX9_has 32 = .ok (.invokevirtual 163, 3) := by decide +kernel
theorem dX9_has_35 : decode cX9_has 35 = .ok (.ifCond .lt 7, 3) := by decide +kernel
theorem dX9_has_38 : decode cX9_has 38 = .ok (.iconst 1, 1) := by decide +kernel
theorem dX9_has_39 : decode cX9_has 39 = .ok (.goto 4, 3) := by decide +kernel
theorem dX9_has_42 : decode cX9_has 42 = .ok (.iconst 0, 1) := by decide +kernel
theorem dX9_has_43 : decode cX9_has 43 = .ok (.ireturn, 1) := by decide +kernel
theorem dX9_changed_0 : decode cX9_changed 0 = .ok (.aload_n 0, 1) := by decide +kernel
theorem dX9_changed_1 : decode cX9_changed 1 = .ok (.iload_n 1, 1) := by decide +kernel
theorem dX9_changed_2 : decode cX9_changed 2 = .ok (.ifCond .lt 11, 3) := by decide +kernel
theorem dX9_changed_5 : decode cX9_changed 5 = .ok (.iload_n 1, 1) := by decide +kernel
theorem dX9_changed_6 : decode cX9_changed 6 = .ok (.aload_n 0, 1) := by decide +kernel
theorem dX9_changed_7 : decode cX9_changed 7 = .ok (.getfield 250, 3) := by decide +kernel
theorem dX9_changed_10 : decode cX9_changed 10 = .ok (.if_icmp .lt 7, 3) := by decide +kernel
theorem dX9_changed_13 : decode cX9_changed 13 = .ok (.iconst 1, 1) := by decide +kernel
theorem dX9_changed_14 : decode cX9_changed 14 = .ok (.goto 17, 3) := by decide +kernel
theorem dX9_changed_17 : decode cX9_changed 17 = .ok (.iload_n 2, 1) := by decide +kernel
theorem dX9_changed_18 : decode cX9_changed 18 = .ok (.iconst 0, 1) := by decide +kernel
theorem dX9_changed_19 : decode cX9_changed 19 = .ok (.iconst 4, 1) := by decide +kernel
theorem dX9_changed_20 : decode cX9_changed 20 = .ok (.invokestatic 135, 3) := by decide +kernel
theorem dX9_changed_23 : decode cX9_changed 23 = .ok (.ifCond .ne 7, 3) := by decide +kernel
theorem dX9_changed_26 : decode cX9_changed 26 = .ok (.iconst 2, 1) := by decide +kernel
theorem dX9_changed_27 : decode cX9_changed 27 = .ok (.goto 4, 3) := by decide +kernel
theorem dX9_changed_30 : decode cX9_changed 30 = .ok (.iconst 0, 1) := by decide +kernel
theorem dX9_changed_31 : decode cX9_changed 31 = .ok (.putfield 129, 3) := by decide +kernel
theorem dX9_changed_34 : decode cX9_changed 34 = .ok (.aload_n 0, 1) := by decide +kernel
theorem dX9_changed_35 : decode cX9_changed 35 = .ok (.getfield 129, 3) := by decide +kernel
theorem dX9_changed_38 : decode cX9_changed 38 = .ok (.ifCond .le 5, 3) := by decide +kernel
theorem dX9_changed_41 : decode cX9_changed 41 = .ok (.iconst 0, 1) := by decide +kernel
theorem dX9_changed_42 : decode cX9_changed 42 = .ok (.ireturn, 1) := by decide +kernel
theorem dX9_changed_43 : decode cX9_changed 43 = .ok (.iload_n 2, 1) := by decide +kernel
theorem dX9_changed_44 : decode cX9_changed 44 = .ok (.tableswitch 60 0 3 #[32, 39, 46, 53], 32) := by decide +kernel
theorem dX9_changed_76 : decode cX9_changed 76 = .ok (.aload_n 0, 1) := by decide +kernel
theorem dX9_changed_77 : decode cX9_changed 77 = .ok (.getfield 95, 3) := by decide +kernel
theorem dX9_changed_80 : decode cX9_changed 80 = .ok (.iload_n 1, 1) := by decide +kernel
theorem dX9_changed_81 : decode cX9_changed 81 = .ok (.iaload, 1) := by decide +kernel
theorem dX9_changed_82 : decode cX9_changed 82 = .ok (.ireturn, 1) := by decide +kernel
theorem dX9_changed_83 : decode cX9_changed 83 = .ok (.aload_n 0, 1) := by decide +kernel
theorem dX9_changed_84 : decode cX9_changed 84 = .ok (.getfield 98, 3) := by decide +kernel
theorem dX9_changed_87 : decode cX9_changed 87 = .ok (.iload_n 1, 1) := by decide +kernel
theorem dX9_changed_88 : decode cX9_changed 88 = .ok (.iaload, 1) := by decide +kernel
theorem dX9_changed_89 : decode cX9_changed 89 = .ok (.ireturn, 1) := by decide +kernel
theorem dX9_changed_90 : decode cX9_changed 90 = .ok (.aload_n 0, 1) := by decide +kernel
theorem dX9_changed_91 : decode cX9_changed 91 = .ok (.getfield 101, 3) := by decide +kernel
theorem dX9_changed_94 : decode cX9_changed 94 = .ok (.iload_n 1, 1) := by decide +kernel
theorem dX9_changed_95 : decode cX9_changed 95 = .ok (.iaload, 1) := by decide +kernel
theorem dX9_changed_96 : decode cX9_changed 96 = .ok (.ireturn, 1) := by decide +kernel
theorem dX9_changed_97 : decode cX9_changed 97 = .ok (.aload_n 0, 1) := by decide +kernel
theorem dX9_changed_98 : decode cX9_changed 98 = .ok (.getfield 104, 3) := by decide +kernel
theorem dX9_changed_101 : decode cX9_changed 101 = .ok (.iload_n 1, 1) := by decide +kernel
theorem dX9_changed_102 : decode cX9_changed 102 = .ok (.iaload, 1) := by decide +kernel
theorem dX9_changed_103 : decode cX9_changed 103 = .ok (.ireturn, 1) := by decide +kernel
theorem dX9_changed_104 : decode cX9_changed 104 = .ok (.aload_n 0, 1) := by decide +kernel
theorem dX9_changed_105 : decode cX9_changed 105 = .ok (.getfield 107, 3) := by decide +kernel
theorem dX9_changed_108 : decode cX9_changed 108 = .ok (.iload_n 1, 1) := by decide +kernel
theorem dX9_changed_109 : decode cX9_changed 109 = .ok (.baload, 1) := by decide +kernel
theorem dX9_changed_110 : decode cX9_changed 110 = .ok (.ifCond .eq 7, 3) := by decide +kernel
theorem dX9_changed_113 : decode cX9_changed 113 = .ok (.iconst 1, 1) := by decide +kernel
theorem dX9_changed_114 : decode cX9_changed 114 = .ok (.goto 4, 3) := by decide +kernel
theorem dX9_changed_117 : decode cX9_changed 117 = .ok (.iconst 0, 1) := by decide +kernel
theorem dX9_changed_118 : decode cX9_changed 118 = .ok (.ireturn, 1) := by decide +kernel
theorem dX9_solutions_0 : decode cX9_solutions 0 = .ok (.aload_n 0, 1) := by decide +kernel
theorem dX9_solutions_1 : decode cX9_solutions 1 = .ok (.aload_n 0, 1) := by decide +kernel
theorem dX9_solutions_2 : decode cX9_solutions 2 = .ok (.iload_n 1, 1) := by decide +kernel
theorem dX9_solutions_3 : decode cX9_solutions 3 = .ok (.invokevirtual 143, 3) := by decide +kernel
theorem dX9_solutions_6 : decode cX9_solutions 6 = .ok (.ifCond .eq 7, 3) := by decide +kernel
theorem dX9_solutions_9 : decode cX9_solutions 9 = .ok (.iconst 0, 1) := by decide +kernel
theorem dX9_solutions_10 : decode cX9_solutions 10 = .ok (.goto 4, 3) := by decide +kernel
theorem dX9_solutions_13 : decode cX9_solutions 13 = .ok (.iconst 1, 1) := by decide +kernel
theorem dX9_solutions_14 : decode cX9_solutions 14 = .ok (.putfield 129, 3) := by decide +kernel
theorem dX9_solutions_17 : decode cX9_solutions 17 = .ok (.aload_n 0, 1) := by decide +kernel
theorem dX9_solutions_18 : decode cX9_solutions 18 = .ok (.getfield 129, 3) := by decide +kernel
theorem dX9_solutions_21 : decode cX9_solutions 21 = .ok (.ifCond .le 7, 3) := by decide +kernel
theorem dX9_solutions_24 : decode cX9_solutions 24 = .ok (.iconst 0, 1) := by decide +kernel
theorem dX9_solutions_25 : decode cX9_solutions 25 = .ok (.goto 9, 3) := by decide +kernel
theorem dX9_solutions_28 : decode cX9_solutions 28 = .ok (.aload_n 0, 1) := by decide +kernel
theorem dX9_solutions_29 : decode cX9_solutions 29 = .ok (.getfield 110, 3) := by decide +kernel
theorem dX9_solutions_32 : decode cX9_solutions 32 = .ok (.iload_n 1, 1) := by decide +kernel
theorem dX9_solutions_33 : decode cX9_solutions 33 = .ok (.iaload, 1) := by decide +kernel
theorem dX9_solutions_34 : decode cX9_solutions 34 = .ok (.ireturn, 1) := by decide +kernel
theorem dX9_told_0 : decode cX9_told 0 = .ok (.aload_n 0, 1) := by decide +kernel
theorem dX9_told_1 : decode cX9_told 1 = .ok (.iload_n 1, 1) := by decide +kernel
theorem dX9_told_2 : decode cX9_told 2 = .ok (.iconst 0, 1) := by decide +kernel
theorem dX9_told_3 : decode cX9_told 3 = .ok (.iconst 4, 1) := by decide +kernel
theorem dX9_told_4 : decode cX9_told 4 = .ok (.invokestatic 135, 3) := by decide +kernel
theorem dX9_told_7 : decode cX9_told 7 = .ok (.ifCond .eq 7, 3) := by decide +kernel
theorem dX9_told_10 : decode cX9_told 10 = .ok (.iconst 0, 1) := by decide +kernel
theorem dX9_told_11 : decode cX9_told 11 = .ok (.goto 4, 3) := by decide +kernel
theorem dX9_told_14 : decode cX9_told 14 = .ok (.iconst 1, 1) := by decide +kernel
theorem dX9_told_15 : decode cX9_told 15 = .ok (.putfield 129, 3) := by decide +kernel
theorem dX9_told_18 : decode cX9_told 18 = .ok (.aload_n 0, 1) := by decide +kernel
theorem dX9_told_19 : decode cX9_told 19 = .ok (.getfield 129, 3) := by decide +kernel
theorem dX9_told_22 : decode cX9_told 22 = .ok (.ifCond .le 5, 3) := by decide +kernel
theorem dX9_told_25 : decode cX9_told 25 = .ok (.iconst 0, 1) := by decide +kernel
theorem dX9_told_26 : decode cX9_told 26 = .ok (.ireturn, 1) := by decide +kernel
theorem dX9_told_27 : decode cX9_told 27 = .ok (.iload_n 1, 1) := by decide +kernel
theorem dX9_told_28 : decode cX9_told 28 = .ok (.ifCond .ne 10, 3) := by decide +kernel
theorem dX9_told_31 : decode cX9_told 31 = .ok (.aload_n 0, 1) := by decide +kernel
theorem dX9_told_32 : decode cX9_told 32 = .ok (.getfield 132, 3) := by decide +kernel
theorem dX9_told_35 : decode cX9_told 35 = .ok (.goto 43, 3) := by decide +kernel
theorem dX9_told_38 : decode cX9_told 38 = .ok (.iload_n 1, 1) := by decide +kernel
theorem dX9_told_39 : decode cX9_told 39 = .ok (.iconst 1, 1) := by decide +kernel
theorem dX9_told_40 : decode cX9_told 40 = .ok (.if_icmp .ne 10, 3) := by decide +kernel
theorem dX9_told_43 : decode cX9_told 43 = .ok (.aload_n 0, 1) := by decide +kernel
theorem dX9_told_44 : decode cX9_told 44 = .ok (.getfield 160, 3) := by decide +kernel
theorem dX9_told_47 : decode cX9_told 47 = .ok (.goto 31, 3) := by decide +kernel
theorem dX9_told_50 : decode cX9_told 50 = .ok (.iload_n 1, 1) := by decide +kernel
theorem dX9_told_51 : decode cX9_told 51 = .ok (.iconst 2, 1) := by decide +kernel
theorem dX9_told_52 : decode cX9_told 52 = .ok (.if_icmp .ne 10, 3) := by decide +kernel
theorem dX9_told_55 : decode cX9_told 55 = .ok (.aload_n 0, 1) := by decide +kernel
theorem dX9_told_56 : decode cX9_told 56 = .ok (.getfield 199, 3) := by decide +kernel
theorem dX9_told_59 : decode cX9_told 59 = .ok (.goto 19, 3) := by decide +kernel
theorem dX9_told_62 : decode cX9_told 62 = .ok (.iload_n 1, 1) := by decide +kernel
theorem dX9_told_63 : decode cX9_told 63 = .ok (.iconst 3, 1) := by decide +kernel
theorem dX9_told_64 : decode cX9_told 64 = .ok (.if_icmp .ne 10, 3) := by decide +kernel
theorem dX9_told_67 : decode cX9_told 67 = .ok (.aload_n 0, 1) := by decide +kernel
theorem dX9_told_68 : decode cX9_told 68 = .ok (.getfield 250, 3) := by decide +kernel
theorem dX9_told_71 : decode cX9_told 71 = .ok (.goto 7, 3) := by decide +kernel
theorem dX9_told_74 : decode cX9_told 74 = .ok (.aload_n 0, 1) := by decide +kernel
theorem dX9_told_75 : decode cX9_told 75 = .ok (.getfield 196, 3) := by decide +kernel
theorem dX9_told_78 : decode cX9_told 78 = .ok (.ireturn, 1) := by decide +kernel
theorem dJ7_fill_53178_0 : decode cJ7_fill_53178 0 = .ok (.iconst 0, 1) := by decide +kernel
theorem dJ7_fill_53178_1 : decode cJ7_fill_53178 1 = .ok (.istore_n 2, 1) := by decide +kernel
theorem dJ7_fill_53178_2 : decode cJ7_fill_53178 2 = .ok (.aload_n 0, 1) := by decide +kernel
theorem dJ7_fill_53178_3 : decode cJ7_fill_53178 3 = .ok (.arraylength, 1) := by decide +kernel
theorem dJ7_fill_53178_4 : decode cJ7_fill_53178 4 = .ok (.istore_n 3, 1) := by decide +kernel
theorem dJ7_fill_53178_5 : decode cJ7_fill_53178 5 = .ok (.iload_n 2, 1) := by decide +kernel
theorem dJ7_fill_53178_6 : decode cJ7_fill_53178 6 = .ok (.iload_n 3, 1) := by decide +kernel
theorem dJ7_fill_53178_7 : decode cJ7_fill_53178 7 = .ok (.if_icmp .ge 13, 3) := by decide +kernel
theorem dJ7_fill_53178_10 : decode cJ7_fill_53178 10 = .ok (.aload_n 0, 1) := by decide +kernel
theorem dJ7_fill_53178_11 : decode cJ7_fill_53178 11 = .ok (.iload_n 2, 1) := by decide +kernel
theorem dJ7_fill_53178_12 : decode cJ7_fill_53178 12 = .ok (.iload_n 1, 1) := by decide +kernel
theorem dJ7_fill_53178_13 : decode cJ7_fill_53178 13 = .ok (.iastore, 1) := by decide +kernel
theorem dJ7_fill_53178_14 : decode cJ7_fill_53178 14 = .ok (.iinc 2 1, 3) := by decide +kernel
theorem dJ7_fill_53178_17 : decode cJ7_fill_53178 17 = .ok (.goto (-12), 3) := by decide +kernel
theorem dJ7_fill_53178_20 : decode cJ7_fill_53178 20 = .ok (.return_, 1) := by decide +kernel
theorem dL_step_0 : decode cL_step 0 = .ok (.aload 4, 2) := by decide +kernel
theorem dL_step_2 : decode cL_step 2 = .ok (.iconst 0, 1) := by decide +kernel
theorem dL_step_3 : decode cL_step 3 = .ok (.aload_n 0, 1) := by decide +kernel
theorem dL_step_4 : decode cL_step 4 = .ok (.iload_n 1, 1) := by decide +kernel
theorem dL_step_5 : decode cL_step 5 = .ok (.iload_n 2, 1) := by decide +kernel
theorem dL_step_6 : decode cL_step 6 = .ok (.iload_n 3, 1) := by decide +kernel
theorem dL_step_7 : decode cL_step 7 = .ok (.invokevirtual 7, 3) := by decide +kernel
theorem dL_step_10 : decode cL_step 10 = .ok (.i2l, 1) := by decide +kernel
theorem dL_step_11 : decode cL_step 11 = .ok (.lastore, 1) := by decide +kernel
theorem dL_step_12 : decode cL_step 12 = .ok (.goto 11, 3) := by decide +kernel
theorem dL_step_15 : decode cL_step 15 = .ok (.astore 5, 2) := by decide +kernel
theorem dL_step_17 : decode cL_step 17 = .ok (.iconst 1, 1) := by decide +kernel
theorem dL_step_18 : decode cL_step 18 = .ok (.ireturn, 1) := by decide +kernel
theorem dL_step_19 : decode cL_step 19 = .ok (.astore 5, 2) := by decide +kernel
theorem dL_step_21 : decode cL_step 21 = .ok (.iconst 2, 1) := by decide +kernel
theorem dL_step_22 : decode cL_step 22 = .ok (.ireturn, 1) := by decide +kernel
theorem dL_step_23 : decode cL_step 23 = .ok (.iconst 0, 1) := by decide +kernel
theorem dL_step_24 : decode cL_step 24 = .ok (.ireturn, 1) := by decide +kernel
theorem dL_silent_0 : decode cL_silent 0 = .ok (.aload_n 3, 1) := by decide +kernel
theorem dL_silent_1 : decode cL_silent 1 = .ok (.iconst 0, 1) := by decide +kernel
theorem dL_silent_2 : decode cL_silent 2 = .ok (.aload_n 0, 1) := by decide +kernel
theorem dL_silent_3 : decode cL_silent 3 = .ok (.iload_n 1, 1) := by decide +kernel
theorem dL_silent_4 : decode cL_silent 4 = .ok (.iload_n 2, 1) := by decide +kernel
theorem dL_silent_5 : decode cL_silent 5 = .ok (.invokevirtual 17, 3) := by decide +kernel
theorem dL_silent_8 : decode cL_silent 8 = .ok (.ifCond .eq 7, 3) := by decide +kernel
theorem dL_silent_11 : decode cL_silent 11 = .ok (.lconst 1, 1) := by decide +kernel
theorem dL_silent_12 : decode cL_silent 12 = .ok (.goto 4, 3) := by decide +kernel
theorem dL_silent_15 : decode cL_silent 15 = .ok (.lconst 0, 1) := by decide +kernel
theorem dL_silent_16 : decode cL_silent 16 = .ok (.lastore, 1) := by decide +kernel
theorem dL_silent_17 : decode cL_silent 17 = .ok (.goto 7, 3) := by decide +kernel
theorem dL_silent_20 : decode cL_silent 20 = .ok (.astore 4, 2) := by decide +kernel
theorem dL_silent_22 : decode cL_silent 22 = .ok (.iconst 1, 1) := by decide +kernel
theorem dL_silent_23 : decode cL_silent 23 = .ok (.ireturn, 1) := by decide +kernel
theorem dL_silent_24 : decode cL_silent 24 = .ok (.iconst 0, 1) := by decide +kernel
theorem dL_silent_25 : decode cL_silent 25 = .ok (.ireturn, 1) := by decide +kernel
theorem dL_template_0 : decode cL_template 0 = .ok (.aload 6, 2) := by decide +kernel
theorem dL_template_2 : decode cL_template 2 = .ok (.iconst 0, 1) := by decide +kernel
theorem dL_template_3 : decode cL_template 3 = .ok (.aload_n 0, 1) := by decide +kernel
theorem dL_template_4 : decode cL_template 4 = .ok (.iload_n 1, 1) := by decide +kernel
theorem dL_template_5 : decode cL_template 5 = .ok (.iload_n 2, 1) := by decide +kernel
theorem dL_template_6 : decode cL_template 6 = .ok (.iload_n 3, 1) := by decide +kernel
theorem dL_template_7 : decode cL_template 7 = .ok (.iload 4, 2) := by decide +kernel
theorem dL_template_9 : decode cL_template 9 = .ok (.iload 5, 2) := by decide +kernel
theorem dL_template_11 : decode cL_template 11 = .ok (.invokevirtual 23, 3) := by decide +kernel
theorem dL_template_14 : decode cL_template 14 = .ok (.i2l, 1) := by decide +kernel
theorem dL_template_15 : decode cL_template 15 = .ok (.lastore, 1) := by decide +kernel
theorem dL_template_16 : decode cL_template 16 = .ok (.goto 15, 3) := by decide +kernel
theorem dL_template_19 : decode cL_template 19 = .ok (.astore 7, 2) := by decide +kernel
theorem dL_template_21 : decode cL_template 21 = .ok (.iconst 1, 1) := by decide +kernel
theorem dL_template_22 : decode cL_template 22 = .ok (.ireturn, 1) := by decide +kernel
theorem dL_template_23 : decode cL_template 23 = .ok (.astore 7, 2) := by decide +kernel
theorem dL_template_25 : decode cL_template 25 = .ok (.iconst 2, 1) := by decide +kernel
theorem dL_template_26 : decode cL_template 26 = .ok (.ireturn, 1) := by decide +kernel
theorem dL_template_27 : decode cL_template 27 = .ok (.astore 7, 2) := by decide +kernel
theorem dL_template_29 : decode cL_template 29 = .ok (.iconst 3, 1) := by decide +kernel
theorem dL_template_30 : decode cL_template 30 = .ok (.ireturn, 1) := by decide +kernel
theorem dL_template_31 : decode cL_template 31 = .ok (.iconst 0, 1) := by decide +kernel
theorem dL_template_32 : decode cL_template 32 = .ok (.ireturn, 1) := by decide +kernel
theorem dL_pattern_0 : decode cL_pattern 0 = .ok (.aload 5, 2) := by decide +kernel
theorem dL_pattern_2 : decode cL_pattern 2 = .ok (.iconst 0, 1) := by decide +kernel
theorem dL_pattern_3 : decode cL_pattern 3 = .ok (.aload_n 0, 1) := by decide +kernel
theorem dL_pattern_4 : decode cL_pattern 4 = .ok (.iload_n 1, 1) := by decide +kernel
theorem dL_pattern_5 : decode cL_pattern 5 = .ok (.iload_n 2, 1) := by decide +kernel
theorem dL_pattern_6 : decode cL_pattern 6 = .ok (.iload_n 3, 1) := by decide +kernel
theorem dL_pattern_7 : decode cL_pattern 7 = .ok (.iload 4, 2) := by decide +kernel
theorem dL_pattern_9 : decode cL_pattern 9 = .ok (.invokevirtual 27, 3) := by decide +kernel
theorem dL_pattern_12 : decode cL_pattern 12 = .ok (.i2l, 1) := by decide +kernel
theorem dL_pattern_13 : decode cL_pattern 13 = .ok (.lastore, 1) := by decide +kernel
theorem dL_pattern_14 : decode cL_pattern 14 = .ok (.goto 15, 3) := by decide +kernel
theorem dL_pattern_17 : decode cL_pattern 17 = .ok (.astore 6, 2) := by decide +kernel
theorem dL_pattern_19 : decode cL_pattern 19 = .ok (.iconst 1, 1) := by decide +kernel
theorem dL_pattern_20 : decode cL_pattern 20 = .ok (.ireturn, 1) := by decide +kernel
theorem dL_pattern_21 : decode cL_pattern 21 = .ok (.astore 6, 2) := by decide +kernel
theorem dL_pattern_23 : decode cL_pattern 23 = .ok (.iconst 2, 1) := by decide +kernel
theorem dL_pattern_24 : decode cL_pattern 24 = .ok (.ireturn, 1) := by decide +kernel
theorem dL_pattern_25 : decode cL_pattern 25 = .ok (.astore 6, 2) := by decide +kernel
theorem dL_pattern_27 : decode cL_pattern 27 = .ok (.iconst 3, 1) := by decide +kernel
theorem dL_pattern_28 : decode cL_pattern 28 = .ok (.ireturn, 1) := by decide +kernel
theorem dL_pattern_29 : decode cL_pattern 29 = .ok (.iconst 0, 1) := by decide +kernel
theorem dL_pattern_30 : decode cL_pattern 30 = .ok (.ireturn, 1) := by decide +kernel
theorem dL_file_0 : decode cL_file 0 = .ok (.aload 5, 2) := by decide +kernel
theorem dL_file_2 : decode cL_file 2 = .ok (.iconst 0, 1) := by decide +kernel
theorem dL_file_3 : decode cL_file 3 = .ok (.aload_n 0, 1) := by decide +kernel
theorem dL_file_4 : decode cL_file 4 = .ok (.iload_n 1, 1) := by decide +kernel
theorem dL_file_5 : decode cL_file 5 = .ok (.iload_n 2, 1) := by decide +kernel
theorem dL_file_6 : decode cL_file 6 = .ok (.iload_n 3, 1) := by decide +kernel
theorem dL_file_7 : decode cL_file 7 = .ok (.iload 4, 2) := by decide +kernel
theorem dL_file_9 : decode cL_file 9 = .ok (.invokevirtual 31, 3) := by decide +kernel
theorem dL_file_12 : decode cL_file 12 = .ok (.i2l, 1) := by decide +kernel
theorem dL_file_13 : decode cL_file 13 = .ok (.lastore, 1) := by decide +kernel
theorem dL_file_14 : decode cL_file 14 = .ok (.goto 15, 3) := by decide +kernel
theorem dL_file_17 : decode cL_file 17 = .ok (.astore 6, 2) := by decide +kernel
theorem dL_file_19 : decode cL_file 19 = .ok (.iconst 1, 1) := by decide +kernel
theorem dL_file_20 : decode cL_file 20 = .ok (.ireturn, 1) := by decide +kernel
theorem dL_file_21 : decode cL_file 21 = .ok (.astore 6, 2) := by decide +kernel
theorem dL_file_23 : decode cL_file 23 = .ok (.iconst 2, 1) := by decide +kernel
theorem dL_file_24 : decode cL_file 24 = .ok (.ireturn, 1) := by decide +kernel
theorem dL_file_25 : decode cL_file 25 = .ok (.astore 6, 2) := by decide +kernel
theorem dL_file_27 : decode cL_file 27 = .ok (.iconst 3, 1) := by decide +kernel
theorem dL_file_28 : decode cL_file 28 = .ok (.ireturn, 1) := by decide +kernel
theorem dL_file_29 : decode cL_file 29 = .ok (.iconst 0, 1) := by decide +kernel
theorem dL_file_30 : decode cL_file 30 = .ok (.ireturn, 1) := by decide +kernel
theorem dL_torn_0 : decode cL_torn 0 = .ok (.aload_n 3, 1) := by decide +kernel
theorem dL_torn_1 : decode cL_torn 1 = .ok (.iconst 0, 1) := by decide +kernel
theorem dL_torn_2 : decode cL_torn 2 = .ok (.aload_n 0, 1) := by decide +kernel
theorem dL_torn_3 : decode cL_torn 3 = .ok (.iload_n 1, 1) := by decide +kernel
theorem dL_torn_4 : decode cL_torn 4 = .ok (.iload_n 2, 1) := by decide +kernel
theorem dL_torn_5 : decode cL_torn 5 = .ok (.invokevirtual 34, 3) := by decide +kernel
theorem dL_torn_8 : decode cL_torn 8 = .ok (.ifCond .eq 7, 3) := by decide +kernel
theorem dL_torn_11 : decode cL_torn 11 = .ok (.lconst 1, 1) := by decide +kernel
theorem dL_torn_12 : decode cL_torn 12 = .ok (.goto 4, 3) := by decide +kernel
theorem dL_torn_15 : decode cL_torn 15 = .ok (.lconst 0, 1) := by decide +kernel
theorem dL_torn_16 : decode cL_torn 16 = .ok (.lastore, 1) := by decide +kernel
theorem dL_torn_17 : decode cL_torn 17 = .ok (.goto 7, 3) := by decide +kernel
theorem dL_torn_20 : decode cL_torn 20 = .ok (.astore 4, 2) := by decide +kernel
theorem dL_torn_22 : decode cL_torn 22 = .ok (.iconst 1, 1) := by decide +kernel
theorem dL_torn_23 : decode cL_torn 23 = .ok (.ireturn, 1) := by decide +kernel
theorem dL_torn_24 : decode cL_torn 24 = .ok (.iconst 0, 1) := by decide +kernel
theorem dL_torn_25 : decode cL_torn 25 = .ok (.ireturn, 1) := by decide +kernel
theorem dL_many_0 : decode cL_many 0 = .ok (.aload_n 2, 1) := by decide +kernel
theorem dL_many_1 : decode cL_many 1 = .ok (.iconst 0, 1) := by decide +kernel
theorem dL_many_2 : decode cL_many 2 = .ok (.aload_n 0, 1) := by decide +kernel
theorem dL_many_3 : decode cL_many 3 = .ok (.iload_n 1, 1) := by decide +kernel
theorem dL_many_4 : decode cL_many 4 = .ok (.invokevirtual 37, 3) := by decide +kernel
theorem dL_many_7 : decode cL_many 7 = .ok (.i2l, 1) := by decide +kernel
theorem dL_many_8 : decode cL_many 8 = .ok (.lastore, 1) := by decide +kernel
theorem dL_many_9 : decode cL_many 9 = .ok (.goto 6, 3) := by decide +kernel
theorem dL_many_12 : decode cL_many 12 = .ok (.astore_n 3, 1) := by decide +kernel
theorem dL_many_13 : decode cL_many 13 = .ok (.iconst 1, 1) := by decide +kernel
theorem dL_many_14 : decode cL_many 14 = .ok (.ireturn, 1) := by decide +kernel
theorem dL_many_15 : decode cL_many 15 = .ok (.iconst 0, 1) := by decide +kernel
theorem dL_many_16 : decode cL_many 16 = .ok (.ireturn, 1) := by decide +kernel
theorem dL_at_0 : decode cL_at 0 = .ok (.aload 4, 2) := by decide +kernel
theorem dL_at_2 : decode cL_at 2 = .ok (.iconst 0, 1) := by decide +kernel
theorem dL_at_3 : decode cL_at 3 = .ok (.aload_n 0, 1) := by decide +kernel
theorem dL_at_4 : decode cL_at 4 = .ok (.iload_n 1, 1) := by decide +kernel
theorem dL_at_5 : decode cL_at 5 = .ok (.iload_n 2, 1) := by decide +kernel
theorem dL_at_6 : decode cL_at 6 = .ok (.iload_n 3, 1) := by decide +kernel
theorem dL_at_7 : decode cL_at 7 = .ok (.invokevirtual 41, 3) := by decide +kernel
theorem dL_at_10 : decode cL_at 10 = .ok (.i2l, 1) := by decide +kernel
theorem dL_at_11 : decode cL_at 11 = .ok (.lastore, 1) := by decide +kernel
theorem dL_at_12 : decode cL_at 12 = .ok (.goto 11, 3) := by decide +kernel
theorem dL_at_15 : decode cL_at 15 = .ok (.astore 5, 2) := by decide +kernel
theorem dL_at_17 : decode cL_at 17 = .ok (.iconst 1, 1) := by decide +kernel
theorem dL_at_18 : decode cL_at 18 = .ok (.ireturn, 1) := by decide +kernel
theorem dL_at_19 : decode cL_at 19 = .ok (.astore 5, 2) := by decide +kernel
theorem dL_at_21 : decode cL_at 21 = .ok (.iconst 2, 1) := by decide +kernel
theorem dL_at_22 : decode cL_at 22 = .ok (.ireturn, 1) := by decide +kernel
theorem dL_at_23 : decode cL_at 23 = .ok (.iconst 0, 1) := by decide +kernel
theorem dL_at_24 : decode cL_at 24 = .ok (.ireturn, 1) := by decide +kernel
theorem dL_has_0 : decode cL_has 0 = .ok (.aload 5, 2) := by decide +kernel
theorem dL_has_2 : decode cL_has 2 = .ok (.iconst 0, 1) := by decide +kernel
theorem dL_has_3 : decode cL_has 3 = .ok (.aload_n 0, 1) := by decide +kernel
theorem dL_has_4 : decode cL_has 4 = .ok (.iload_n 1, 1) := by decide +kernel
theorem dL_has_5 : decode cL_has 5 = .ok (.iload_n 2, 1) := by decide +kernel
theorem dL_has_6 : decode cL_has 6 = .ok (.iload_n 3, 1) := by decide +kernel
theorem dL_has_7 : decode cL_has 7 = .ok (.iload 4, 2) := by decide +kernel
theorem dL_has_9 : decode cL_has 9 = .ok (.invokevirtual 44, 3) := by decide +kernel
theorem dL_has_12 : decode cL_has 12 = .ok (.ifCond .eq 7, 3) := by decide +kernel
theorem dL_has_15 : decode cL_has 15 = .ok (.lconst 1, 1) := by decide +kernel
theorem dL_has_16 : decode cL_has 16 = .ok (.goto 4, 3) := by decide +kernel
theorem dL_has_19 : decode cL_has 19 = .ok (.lconst 0, 1) := by decide +kernel
theorem dL_has_20 : decode cL_has 20 = .ok (.lastore, 1) := by decide +kernel
theorem dL_has_21 : decode cL_has 21 = .ok (.goto 7, 3) := by decide +kernel
theorem dL_has_24 : decode cL_has 24 = .ok (.astore 6, 2) := by decide +kernel
theorem dL_has_26 : decode cL_has 26 = .ok (.iconst 1, 1) := by decide +kernel
theorem dL_has_27 : decode cL_has 27 = .ok (.ireturn, 1) := by decide +kernel
theorem dL_has_28 : decode cL_has 28 = .ok (.iconst 0, 1) := by decide +kernel
theorem dL_has_29 : decode cL_has 29 = .ok (.ireturn, 1) := by decide +kernel
theorem dL_changed_0 : decode cL_changed 0 = .ok (.aload_n 3, 1) := by decide +kernel
theorem dL_changed_1 : decode cL_changed 1 = .ok (.iconst 0, 1) := by decide +kernel
theorem dL_changed_2 : decode cL_changed 2 = .ok (.aload_n 0, 1) := by decide +kernel
theorem dL_changed_3 : decode cL_changed 3 = .ok (.iload_n 1, 1) := by decide +kernel
theorem dL_changed_4 : decode cL_changed 4 = .ok (.iload_n 2, 1) := by decide +kernel
theorem dL_changed_5 : decode cL_changed 5 = .ok (.invokevirtual 48, 3) := by decide +kernel
theorem dL_changed_8 : decode cL_changed 8 = .ok (.i2l, 1) := by decide +kernel
theorem dL_changed_9 : decode cL_changed 9 = .ok (.lastore, 1) := by decide +kernel
theorem dL_changed_10 : decode cL_changed 10 = .ok (.goto 11, 3) := by decide +kernel
theorem dL_changed_13 : decode cL_changed 13 = .ok (.astore 4, 2) := by decide +kernel
theorem dL_changed_15 : decode cL_changed 15 = .ok (.iconst 1, 1) := by decide +kernel
theorem dL_changed_16 : decode cL_changed 16 = .ok (.ireturn, 1) := by decide +kernel
theorem dL_changed_17 : decode cL_changed 17 = .ok (.astore 4, 2) := by decide +kernel
theorem dL_changed_19 : decode cL_changed 19 = .ok (.iconst 2, 1) := by decide +kernel
theorem dL_changed_20 : decode cL_changed 20 = .ok (.ireturn, 1) := by decide +kernel
theorem dL_changed_21 : decode cL_changed 21 = .ok (.iconst 0, 1) := by decide +kernel
theorem dL_changed_22 : decode cL_changed 22 = .ok (.ireturn, 1) := by decide +kernel
theorem dL_solutions_0 : decode cL_solutions 0 = .ok (.aload_n 2, 1) := by decide +kernel
theorem dL_solutions_1 : decode cL_solutions 1 = .ok (.iconst 0, 1) := by decide +kernel
theorem dL_solutions_2 : decode cL_solutions 2 = .ok (.aload_n 0, 1) := by decide +kernel
theorem dL_solutions_3 : decode cL_solutions 3 = .ok (.iload_n 1, 1) := by decide +kernel
theorem dL_solutions_4 : decode cL_solutions 4 = .ok (.invokevirtual 52, 3) := by decide +kernel
theorem dL_solutions_7 : decode cL_solutions 7 = .ok (.i2l, 1) := by decide +kernel
theorem dL_solutions_8 : decode cL_solutions 8 = .ok (.lastore, 1) := by decide +kernel
theorem dL_solutions_9 : decode cL_solutions 9 = .ok (.goto 6, 3) := by decide +kernel
theorem dL_solutions_12 : decode cL_solutions 12 = .ok (.astore_n 3, 1) := by decide +kernel
theorem dL_solutions_13 : decode cL_solutions 13 = .ok (.iconst 1, 1) := by decide +kernel
theorem dL_solutions_14 : decode cL_solutions 14 = .ok (.ireturn, 1) := by decide +kernel
theorem dL_solutions_15 : decode cL_solutions 15 = .ok (.iconst 0, 1) := by decide +kernel
theorem dL_solutions_16 : decode cL_solutions 16 = .ok (.ireturn, 1) := by decide +kernel
theorem dL_told_0 : decode cL_told 0 = .ok (.aload_n 2, 1) := by decide +kernel
theorem dL_told_1 : decode cL_told 1 = .ok (.iconst 0, 1) := by decide +kernel
theorem dL_told_2 : decode cL_told 2 = .ok (.aload_n 0, 1) := by decide +kernel
theorem dL_told_3 : decode cL_told 3 = .ok (.iload_n 1, 1) := by decide +kernel
theorem dL_told_4 : decode cL_told 4 = .ok (.invokevirtual 55, 3) := by decide +kernel
theorem dL_told_7 : decode cL_told 7 = .ok (.i2l, 1) := by decide +kernel
theorem dL_told_8 : decode cL_told 8 = .ok (.lastore, 1) := by decide +kernel
theorem dL_told_9 : decode cL_told 9 = .ok (.goto 6, 3) := by decide +kernel
theorem dL_told_12 : decode cL_told 12 = .ok (.astore_n 3, 1) := by decide +kernel
theorem dL_told_13 : decode cL_told 13 = .ok (.iconst 1, 1) := by decide +kernel
theorem dL_told_14 : decode cL_told 14 = .ok (.ireturn, 1) := by decide +kernel
theorem dL_told_15 : decode cL_told 15 = .ok (.iconst 0, 1) := by decide +kernel
theorem dL_told_16 : decode cL_told 16 = .ok (.ireturn, 1) := by decide +kernel
theorem dL_law_0 : decode cL_law 0 = .ok (.new 8, 3) := by decide +kernel
theorem dL_law_3 : decode cL_law 3 = .ok (.dup, 1) := by decide +kernel
theorem dL_law_4 : decode cL_law 4 = .ok (.invokespecial 58, 3) := by decide +kernel
theorem dL_law_7 : decode cL_law 7 = .ok (.astore_n 1, 1) := by decide +kernel
theorem dL_law_8 : decode cL_law 8 = .ok (.new 59, 3) := by decide +kernel
theorem dL_law_11 : decode cL_law 11 = .ok (.dup, 1) := by decide +kernel
theorem dL_law_12 : decode cL_law 12 = .ok (.invokespecial 61, 3) := by decide +kernel
theorem dL_law_15 : decode cL_law 15 = .ok (.astore_n 2, 1) := by decide +kernel
theorem dL_law_16 : decode cL_law 16 = .ok (.iconst 1, 1) := by decide +kernel
theorem dL_law_17 : decode cL_law 17 = .ok (.newarray .long, 2) := by decide +kernel
theorem dL_law_19 : decode cL_law 19 = .ok (.astore_n 3, 1) := by decide +kernel
theorem dL_law_20 : decode cL_law 20 = .ok (.iconst 0, 1) := by decide +kernel
theorem dL_law_21 : decode cL_law 21 = .ok (.istore 4, 2) := by decide +kernel
theorem dL_law_23 : decode cL_law 23 = .ok (.iload 4, 2) := by decide +kernel
theorem dL_law_25 : decode cL_law 25 = .ok (.aload_n 0, 1) := by decide +kernel
theorem dL_law_26 : decode cL_law 26 = .ok (.arraylength, 1) := by decide +kernel
theorem dL_law_27 : decode cL_law 27 = .ok (.bipush 6, 2) := by decide +kernel
theorem dL_law_29 : decode cL_law 29 = .ok (.isub, 1) := by decide +kernel
theorem dL_law_30 : decode cL_law 30 = .ok (.if_icmp .gt 783, 3) := by decide +kernel
theorem dL_law_33 : decode cL_law 33 = .ok (.aload_n 0, 1) := by decide +kernel
theorem dL_law_34 : decode cL_law 34 = .ok (.iload 4, 2) := by decide +kernel
theorem dL_law_36 : decode cL_law 36 = .ok (.iaload, 1) := by decide +kernel
theorem dL_law_37 : decode cL_law 37 = .ok (.bipush 15, 2) := by decide +kernel
theorem dL_law_39 : decode cL_law 39 = .ok (.iand, 1) := by decide +kernel
theorem dL_law_40 : decode cL_law 40 = .ok (.tableswitch 767 0 14 #[76, 128, 184, 276, 340, 404, 460, 473, 486, 499, 527, 579, 643, 683, 711], 76) := by decide +kernel
theorem dL_law_116 : decode cL_law 116 = .ok (.aload_n 1, 1) := by decide +kernel
theorem dL_law_117 : decode cL_law 117 = .ok (.aload_n 0, 1) := by decide +kernel
theorem dL_law_118 : decode cL_law 118 = .ok (.iload 4, 2) := by decide +kernel
theorem dL_law_120 : decode cL_law 120 = .ok (.iconst 1, 1) := by decide +kernel
theorem dL_law_121 : decode cL_law 121 = .ok (.iadd, 1) := by decide +kernel
theorem dL_law_122 : decode cL_law 122 = .ok (.iaload, 1) := by decide +kernel
theorem dL_law_123 : decode cL_law 123 = .ok (.aload_n 0, 1) := by decide +kernel
theorem dL_law_124 : decode cL_law 124 = .ok (.iload 4, 2) := by decide +kernel
theorem dL_law_126 : decode cL_law 126 = .ok (.iconst 2, 1) := by decide +kernel
theorem dL_law_127 : decode cL_law 127 = .ok (.iadd, 1) := by decide +kernel
theorem dL_law_128 : decode cL_law 128 = .ok (.iaload, 1) := by decide +kernel
theorem dL_law_129 : decode cL_law 129 = .ok (.aload_n 0, 1) := by decide +kernel
theorem dL_law_130 : decode cL_law 130 = .ok (.iload 4, 2) := by decide +kernel
theorem dL_law_132 : decode cL_law 132 = .ok (.iconst 3, 1) := by decide +kernel
theorem dL_law_133 : decode cL_law 133 = .ok (.iadd, 1) := by decide +kernel
theorem dL_law_134 : decode cL_law 134 = .ok (.iaload, 1) := by decide +kernel
theorem dL_law_135 : decode cL_law 135 = .ok (.aload_n 3, 1) := by decide +kernel
theorem dL_law_136 : decode cL_law 136 = .ok (.invokestatic 62, 3) := by decide +kernel
theorem dL_law_139 : decode cL_law 139 = .ok (.istore 5, 2) := by decide +kernel
theorem dL_law_141 : decode cL_law 141 = .ok (.aload_n 2, 1) := by decide +kernel
theorem dL_law_142 : decode cL_law 142 = .ok (.aload_n 0, 1) := by decide +kernel
theorem dL_law_143 : decode cL_law 143 = .ok (.iload 4, 2) := by decide +kernel
theorem dL_law_145 : decode cL_law 145 = .ok (.iconst 1, 1) := by decide +kernel
theorem dL_law_146 : decode cL_law 146 = .ok (.iadd, 1) := by decide +kernel
theorem dL_law_147 : decode cL_law 147 = .ok (.iaload, 1) := by decide +kernel
theorem dL_law_148 : decode cL_law 148 = .ok (.aload_n 0, 1) := by decide +kernel
theorem dL_law_149 : decode cL_law 149 = .ok (.iload 4, 2) := by decide +kernel
theorem dL_law_151 : decode cL_law 151 = .ok (.iconst 2, 1) := by decide +kernel
theorem dL_law_152 : decode cL_law 152 = .ok (.iadd, 1) := by decide +kernel
theorem dL_law_153 : decode cL_law 153 = .ok (.iaload, 1) := by decide +kernel
theorem dL_law_154 : decode cL_law 154 = .ok (.aload_n 0, 1) := by decide +kernel
theorem dL_law_155 : decode cL_law 155 = .ok (.iload 4, 2) := by decide +kernel
theorem dL_law_157 : decode cL_law 157 = .ok (.iconst 3, 1) := by decide +kernel
theorem dL_law_158 : decode cL_law 158 = .ok (.iadd, 1) := by decide +kernel
theorem dL_law_159 : decode cL_law 159 = .ok (.iaload, 1) := by decide +kernel
theorem dL_law_160 : decode cL_law 160 = .ok (.invokevirtual 67, 3) := by decide +kernel
theorem dL_law_163 : decode cL_law 163 = .ok (.istore 6, 2) := by decide +kernel
theorem dL_law_165 : decode cL_law 165 = .ok (.goto 642, 3) := by decide +kernel
theorem dL_law_168 : decode cL_law 168 = .ok (.aload_n 1, 1) := by decide +kernel
theorem dL_law_169 : decode cL_law 169 = .ok (.aload_n 0, 1) := by decide +kernel
theorem dL_law_170 : decode cL_law 170 = .ok (.iload 4, 2) := by decide +kernel
theorem dL_law_172 : decode cL_law 172 = .ok (.iconst 1, 1) := by decide +kernel
theorem dL_law_173 : decode cL_law 173 = .ok (.iadd, 1) := by decide +kernel
theorem dL_law_174 : decode cL_law 174 = .ok (.iaload, 1) := by decide +kernel
theorem dL_law_175 : decode cL_law 175 = .ok (.aload_n 0, 1) := by decide +kernel
theorem dL_law_176 : decode cL_law 176 = .ok (.iload 4, 2) := by decide +kernel
theorem dL_law_178 : decode cL_law 178 = .ok (.iconst 2, 1) := by decide +kernel
theorem dL_law_179 : decode cL_law 179 = .ok (.iadd, 1) := by decide +kernel
theorem dL_law_180 : decode cL_law 180 = .ok (.iaload, 1) := by decide +kernel
theorem dL_law_181 : decode cL_law 181 = .ok (.ifCond .eq 7, 3) := by decide +kernel
theorem dL_law_184 : decode cL_law 184 = .ok (.iconst 1, 1) := by decide +kernel
theorem dL_law_185 : decode cL_law 185 = .ok (.goto 4, 3) := by decide +kernel
theorem dL_law_188 : decode cL_law 188 = .ok (.iconst 0, 1) := by decide +kernel
theorem dL_law_189 : decode cL_law 189 = .ok (.aload_n 3, 1) := by decide +kernel
theorem dL_law_190 : decode cL_law 190 = .ok (.invokestatic 68, 3) := by decide +kernel
theorem dL_law_193 : decode cL_law 193 = .ok (.istore 5, 2) := by decide +kernel
theorem dL_law_195 : decode cL_law 195 = .ok (.aload_n 2, 1) := by decide +kernel
theorem dL_law_196 : decode cL_law 196 = .ok (.aload_n 0, 1) := by decide +kernel
theorem dL_law_197 : decode cL_law 197 = .ok (.iload 4, 2) := by decide +kernel
theorem dL_law_199 : decode cL_law 199 = .ok (.iconst 1, 1) := by decide +kernel
theorem dL_law_200 : decode cL_law 200 = .ok (.iadd, 1) := by decide +kernel
theorem dL_law_201 : decode cL_law 201 = .ok (.iaload, 1) := by decide +kernel
theorem dL_law_202 : decode cL_law 202 = .ok (.aload_n 0, 1) := by decide +kernel
theorem dL_law_203 : decode cL_law 203 = .ok (.iload 4, 2) := by decide +kernel
theorem dL_law_205 : decode cL_law 205 = .ok (.iconst 2, 1) := by decide +kernel
theorem dL_law_206 : decode cL_law 206 = .ok (.iadd, 1) := by decide +kernel
theorem dL_law_207 : decode cL_law 207 = .ok (.iaload, 1) := by decide +kernel
theorem dL_law_208 : decode cL_law 208 = .ok (.ifCond .eq 7, 3) := by decide +kernel
theorem dL_law_211 : decode cL_law 211 = .ok (.iconst 1, 1) := by decide +kernel
theorem dL_law_212 : decode cL_law 212 = .ok (.goto 4, 3) := by decide +kernel
theorem dL_law_215 : decode cL_law 215 = .ok (.iconst 0, 1) := by decide +kernel
theorem dL_law_216 : decode cL_law 216 = .ok (.invokevirtual 71, 3) := by decide +kernel
theorem dL_law_219 : decode cL_law 219 = .ok (.istore 6, 2) := by decide +kernel
theorem dL_law_221 : decode cL_law 221 = .ok (.goto 586, 3) := by decide +kernel
theorem dL_law_224 : decode cL_law 224 = .ok (.aload_n 1, 1) := by decide +kernel
theorem dL_law_225 : decode cL_law 225 = .ok (.aload_n 0, 1) := by decide +kernel
theorem dL_law_226 : decode cL_law 226 = .ok (.iload 4, 2) := by decide +kernel
theorem dL_law_228 : decode cL_law 228 = .ok (.iconst 1, 1) := by decide +kernel
theorem dL_law_229 : decode cL_law 229 = .ok (.iadd, 1) := by decide +kernel
theorem dL_law_230 : decode cL_law 230 = .ok (.iaload, 1) := by decide +kernel
theorem dL_law_231 : decode cL_law 231 = .ok (.aload_n 0, 1) := by decide +kernel
theorem dL_law_232 : decode cL_law 232 = .ok (.iload 4, 2) := by decide +kernel
theorem dL_law_234 : decode cL_law 234 = .ok (.iconst 2, 1) := by decide +kernel
theorem dL_law_235 : decode cL_law 235 = .ok (.iadd, 1) := by decide +kernel
theorem dL_law_236 : decode cL_law 236 = .ok (.iaload, 1) := by decide +kernel
theorem dL_law_237 : decode cL_law 237 = .ok (.aload_n 0, 1) := by decide +kernel
theorem dL_law_238 : decode cL_law 238 = .ok (.iload 4, 2) := by decide +kernel
theorem dL_law_240 : decode cL_law 240 = .ok (.iconst 3, 1) := by decide +kernel
theorem dL_law_241 : decode cL_law 241 = .ok (.iadd, 1) := by decide +kernel
theorem dL_law_242 : decode cL_law 242 = .ok (.iaload, 1) := by decide +kernel
theorem dL_law_243 : decode cL_law 243 = .ok (.aload_n 0, 1) := by decide +kernel
theorem dL_law_244 : decode cL_law 244 = .ok (.iload 4, 2) := by decide +kernel
theorem dL_law_246 : decode cL_law 246 = .ok (.iconst 4, 1) := by decide +kernel
theorem dL_law_247 : decode cL_law 247 = .ok (.iadd, 1) := by decide +kernel
theorem dL_law_248 : decode cL_law 248 = .ok (.iaload, 1) := by decide +kernel
theorem dL_law_249 : decode cL_law 249 = .ok (.aload_n 0, 1) := by decide +kernel
theorem dL_law_250 : decode cL_law 250 = .ok (.iload 4, 2) := by decide +kernel
theorem dL_law_252 : decode cL_law 252 = .ok (.iconst 5, 1) := by decide +kernel
theorem dL_law_253 : decode cL_law 253 = .ok (.iadd, 1) := by decide +kernel
theorem dL_law_254 : decode cL_law 254 = .ok (.iaload, 1) := by decide +kernel
theorem dL_law_255 : decode cL_law 255 = .ok (.ifCond .eq 7, 3) := by decide +kernel
theorem dL_law_258 : decode cL_law 258 = .ok (.iconst 1, 1) := by decide +kernel
theorem dL_law_259 : decode cL_law 259 = .ok (.goto 4, 3) := by decide +kernel
theorem dL_law_262 : decode cL_law 262 = .ok (.iconst 0, 1) := by decide +kernel
theorem dL_law_263 : decode cL_law 263 = .ok (.aload_n 3, 1) := by decide +kernel
theorem dL_law_264 : decode cL_law 264 = .ok (.invokestatic 72, 3) := by decide +kernel
theorem dL_law_267 : decode cL_law 267 = .ok (.istore 5, 2) := by decide +kernel
theorem dL_law_269 : decode cL_law 269 = .ok (.aload_n 2, 1) := by decide +kernel
theorem dL_law_270 : decode cL_law 270 = .ok (.aload_n 0, 1) := by decide +kernel
theorem dL_law_271 : decode cL_law 271 = .ok (.iload 4, 2) := by decide +kernel
theorem dL_law_273 : decode cL_law 273 = .ok (.iconst 1, 1) := by decide +kernel
theorem dL_law_274 : decode cL_law 274 = .ok (.iadd, 1) := by decide +kernel
theorem dL_law_275 : decode cL_law 275 = .ok (.iaload, 1) := by decide +kernel
theorem dL_law_276 : decode cL_law 276 = .ok (.aload_n 0, 1) := by decide +kernel
theorem dL_law_277 : decode cL_law 277 = .ok (.iload 4, 2) := by decide +kernel
theorem dL_law_279 : decode cL_law 279 = .ok (.iconst 2, 1) := by decide +kernel
theorem dL_law_280 : decode cL_law 280 = .ok (.iadd, 1) := by decide +kernel
theorem dL_law_281 : decode cL_law 281 = .ok (.iaload, 1) := by decide +kernel
theorem dL_law_282 : decode cL_law 282 = .ok (.aload_n 0, 1) := by decide +kernel
theorem dL_law_283 : decode cL_law 283 = .ok (.iload 4, 2) := by decide +kernel
theorem dL_law_285 : decode cL_law 285 = .ok (.iconst 3, 1) := by decide +kernel
theorem dL_law_286 : decode cL_law 286 = .ok (.iadd, 1) := by decide +kernel
theorem dL_law_287 : decode cL_law 287 = .ok (.iaload, 1) := by decide +kernel
theorem dL_law_288 : decode cL_law 288 = .ok (.aload_n 0, 1) := by decide +kernel
theorem dL_law_289 : decode cL_law 289 = .ok (.iload 4, 2) := by decide +kernel
theorem dL_law_291 : decode cL_law 291 = .ok (.iconst 4, 1) := by decide +kernel
theorem dL_law_292 : decode cL_law 292 = .ok (.iadd, 1) := by decide +kernel
theorem dL_law_293 : decode cL_law 293 = .ok (.iaload, 1) := by decide +kernel
theorem dL_law_294 : decode cL_law 294 = .ok (.aload_n 0, 1) := by decide +kernel
theorem dL_law_295 : decode cL_law 295 = .ok (.iload 4, 2) := by decide +kernel
theorem dL_law_297 : decode cL_law 297 = .ok (.iconst 5, 1) := by decide +kernel
theorem dL_law_298 : decode cL_law 298 = .ok (.iadd, 1) := by decide +kernel
theorem dL_law_299 : decode cL_law 299 = .ok (.iaload, 1) := by decide +kernel
theorem dL_law_300 : decode cL_law 300 = .ok (.ifCond .eq 7, 3) := by decide +kernel
theorem dL_law_303 : decode cL_law 303 = .ok (.iconst 1, 1) := by decide +kernel
theorem dL_law_304 : decode cL_law 304 = .ok (.goto 4, 3) := by decide +kernel
theorem dL_law_307 : decode cL_law 307 = .ok (.iconst 0, 1) := by decide +kernel
theorem dL_law_308 : decode cL_law 308 = .ok (.invokevirtual 75, 3) := by decide +kernel
theorem dL_law_311 : decode cL_law 311 = .ok (.istore 6, 2) := by decide +kernel
theorem dL_law_313 : decode cL_law 313 = .ok (.goto 494, 3) := by decide +kernel
theorem dL_law_316 : decode cL_law 316 = .ok (.aload_n 1, 1) := by decide +kernel
theorem dL_law_317 : decode cL_law 317 = .ok (.aload_n 0, 1) := by decide +kernel
theorem dL_law_318 : decode cL_law 318 = .ok (.iload 4, 2) := by decide +kernel
theorem dL_law_320 : decode cL_law 320 = .ok (.iconst 1, 1) := by decide +kernel
theorem dL_law_321 : decode cL_law 321 = .ok (.iadd, 1) := by decide +kernel
theorem dL_law_322 : decode cL_law 322 = .ok (.iaload, 1) := by decide +kernel
theorem dL_law_323 : decode cL_law 323 = .ok (.aload_n 0, 1) := by decide +kernel
theorem dL_law_324 : decode cL_law 324 = .ok (.iload 4, 2) := by decide +kernel
theorem dL_law_326 : decode cL_law 326 = .ok (.iconst 2, 1) := by decide +kernel
theorem dL_law_327 : decode cL_law 327 = .ok (.iadd, 1) := by decide +kernel
theorem dL_law_328 : decode cL_law 328 = .ok (.iaload, 1) := by decide +kernel
theorem dL_law_329 : decode cL_law 329 = .ok (.aload_n 0, 1) := by decide +kernel
theorem dL_law_330 : decode cL_law 330 = .ok (.iload 4, 2) := by decide +kernel
theorem dL_law_332 : decode cL_law 332 = .ok (.iconst 3, 1) := by decide +kernel
theorem dL_law_333 : decode cL_law 333 = .ok (.iadd, 1) := by decide +kernel
theorem dL_law_334 : decode cL_law 334 = .ok (.iaload, 1) := by decide +kernel
theorem dL_law_335 : decode cL_law 335 = .ok (.aload_n 0, 1) := by decide +kernel
theorem dL_law_336 : decode cL_law 336 = .ok (.iload 4, 2) := by decide +kernel
theorem dL_law_338 : decode cL_law 338 = .ok (.iconst 4, 1) := by decide +kernel
theorem dL_law_339 : decode cL_law 339 = .ok (.iadd, 1) := by decide +kernel
theorem dL_law_340 : decode cL_law 340 = .ok (.iaload, 1) := by decide +kernel
theorem dL_law_341 : decode cL_law 341 = .ok (.aload_n 3, 1) := by decide +kernel
theorem dL_law_342 : decode cL_law 342 = .ok (.invokestatic 76, 3) := by decide +kernel
theorem dL_law_345 : decode cL_law 345 = .ok (.istore 5, 2) := by decide +kernel
theorem dL_law_347 : decode cL_law 347 = .ok (.aload_n 2, 1) := by decide +kernel
theorem dL_law_348 : decode cL_law 348 = .ok (.aload_n 0, 1) := by decide +kernel
theorem dL_law_349 : decode cL_law 349 = .ok (.iload 4, 2) := by decide +kernel
theorem dL_law_351 : decode cL_law 351 = .ok (.iconst 1, 1) := by decide +kernel
theorem dL_law_352 : decode cL_law 352 = .ok (.iadd, 1) := by decide +kernel
theorem dL_law_353 : decode cL_law 353 = .ok (.iaload, 1) := by decide +kernel
theorem dL_law_354 : decode cL_law 354 = .ok (.aload_n 0, 1) := by decide +kernel
theorem dL_law_355 : decode cL_law 355 = .ok (.iload 4, 2) := by decide +kernel
theorem dL_law_357 : decode cL_law 357 = .ok (.iconst 2, 1) := by decide +kernel
theorem dL_law_358 : decode cL_law 358 = .ok (.iadd, 1) := by decide +kernel
theorem dL_law_359 : decode cL_law 359 = .ok (.iaload, 1) := by decide +kernel
theorem dL_law_360 : decode cL_law 360 = .ok (.aload_n 0, 1) := by decide +kernel
theorem dL_law_361 : decode cL_law 361 = .ok (.iload 4, 2) := by decide +kernel
theorem dL_law_363 : decode cL_law 363 = .ok (.iconst 3, 1) := by decide +kernel
theorem dL_law_364 : decode cL_law 364 = .ok (.iadd, 1) := by decide +kernel
theorem dL_law_365 : decode cL_law 365 = .ok (.iaload, 1) := by decide +kernel
theorem dL_law_366 : decode cL_law 366 = .ok (.aload_n 0, 1) := by decide +kernel
theorem dL_law_367 : decode cL_law 367 = .ok (.iload 4, 2) := by decide +kernel
theorem dL_law_369 : decode cL_law 369 = .ok (.iconst 4, 1) := by decide +kernel
theorem dL_law_370 : decode cL_law 370 = .ok (.iadd, 1) := by decide +kernel
theorem dL_law_371 : decode cL_law 371 = .ok (.iaload, 1) := by decide +kernel
theorem dL_law_372 : decode cL_law 372 = .ok (.invokevirtual 79, 3) := by decide +kernel
theorem dL_law_375 : decode cL_law 375 = .ok (.istore 6, 2) := by decide +kernel
theorem dL_law_377 : decode cL_law 377 = .ok (.goto 430, 3) := by decide +kernel
theorem dL_law_380 : decode cL_law 380 = .ok (.aload_n 1, 1) := by decide +kernel
theorem dL_law_381 : decode cL_law 381 = .ok (.aload_n 0, 1) := by decide +kernel
theorem dL_law_382 : decode cL_law 382 = .ok (.iload 4, 2) := by decide +kernel
theorem dL_law_384 : decode cL_law 384 = .ok (.iconst 1, 1) := by decide +kernel
theorem dL_law_385 : decode cL_law 385 = .ok (.iadd, 1) := by decide +kernel
theorem dL_law_386 : decode cL_law 386 = .ok (.iaload, 1) := by decide +kernel
theorem dL_law_387 : decode cL_law 387 = .ok (.aload_n 0, 1) := by decide +kernel
theorem dL_law_388 : decode cL_law 388 = .ok (.iload 4, 2) := by decide +kernel
theorem dL_law_390 : decode cL_law 390 = .ok (.iconst 2, 1) := by decide +kernel
theorem dL_law_391 : decode cL_law 391 = .ok (.iadd, 1) := by decide +kernel
theorem dL_law_392 : decode cL_law 392 = .ok (.iaload, 1) := by decide +kernel
theorem dL_law_393 : decode cL_law 393 = .ok (.aload_n 0, 1) := by decide +kernel
theorem dL_law_394 : decode cL_law 394 = .ok (.iload 4, 2) := by decide +kernel
theorem dL_law_396 : decode cL_law 396 = .ok (.iconst 3, 1) := by decide +kernel
theorem dL_law_397 : decode cL_law 397 = .ok (.iadd, 1) := by decide +kernel
theorem dL_law_398 : decode cL_law 398 = .ok (.iaload, 1) := by decide +kernel
theorem dL_law_399 : decode cL_law 399 = .ok (.aload_n 0, 1) := by decide +kernel
theorem dL_law_400 : decode cL_law 400 = .ok (.iload 4, 2) := by decide +kernel
theorem dL_law_402 : decode cL_law 402 = .ok (.iconst 4, 1) := by decide +kernel
theorem dL_law_403 : decode cL_law 403 = .ok (.iadd, 1) := by decide +kernel
theorem dL_law_404 : decode cL_law 404 = .ok (.iaload, 1) := by decide +kernel
theorem dL_law_405 : decode cL_law 405 = .ok (.aload_n 3, 1) := by decide +kernel
theorem dL_law_406 : decode cL_law 406 = .ok (.invokestatic 80, 3) := by decide +kernel
theorem dL_law_409 : decode cL_law 409 = .ok (.istore 5, 2) := by decide +kernel
theorem dL_law_411 : decode cL_law 411 = .ok (.aload_n 2, 1) := by decide +kernel
theorem dL_law_412 : decode cL_law 412 = .ok (.aload_n 0, 1) := by decide +kernel
theorem dL_law_413 : decode cL_law 413 = .ok (.iload 4, 2) := by decide +kernel
theorem dL_law_415 : decode cL_law 415 = .ok (.iconst 1, 1) := by decide +kernel
theorem dL_law_416 : decode cL_law 416 = .ok (.iadd, 1) := by decide +kernel
theorem dL_law_417 : decode cL_law 417 = .ok (.iaload, 1) := by decide +kernel
theorem dL_law_418 : decode cL_law 418 = .ok (.aload_n 0, 1) := by decide +kernel
theorem dL_law_419 : decode cL_law 419 = .ok (.iload 4, 2) := by decide +kernel
theorem dL_law_421 : decode cL_law 421 = .ok (.iconst 2, 1) := by decide +kernel
theorem dL_law_422 : decode cL_law 422 = .ok (.iadd, 1) := by decide +kernel
theorem dL_law_423 : decode cL_law 423 = .ok (.iaload, 1) := by decide +kernel
theorem dL_law_424 : decode cL_law 424 = .ok (.aload_n 0, 1) := by decide +kernel
theorem dL_law_425 : decode cL_law 425 = .ok (.iload 4, 2) := by decide +kernel
theorem dL_law_427 : decode cL_law 427 = .ok (.iconst 3, 1) := by decide +kernel
theorem dL_law_428 : decode cL_law 428 = .ok (.iadd, 1) := by decide +kernel
theorem dL_law_429 : decode cL_law 429 = .ok (.iaload, 1) := by decide +kernel
theorem dL_law_430 : decode cL_law 430 = .ok (.aload_n 0, 1) := by decide +kernel
theorem dL_law_431 : decode cL_law 431 = .ok (.iload 4, 2) := by decide +kernel
theorem dL_law_433 : decode cL_law 433 = .ok (.iconst 4, 1) := by decide +kernel
theorem dL_law_434 : decode cL_law 434 = .ok (.iadd, 1) := by decide +kernel
theorem dL_law_435 : decode cL_law 435 = .ok (.iaload, 1) := by decide +kernel
theorem dL_law_436 : decode cL_law 436 = .ok (.invokevirtual 82, 3) := by decide +kernel
theorem dL_law_439 : decode cL_law 439 = .ok (.istore 6, 2) := by decide +kernel
theorem dL_law_441 : decode cL_law 441 = .ok (.goto 366, 3) := by decide +kernel
theorem dL_law_444 : decode cL_law 444 = .ok (.aload_n 1, 1) := by decide +kernel
theorem dL_law_445 : decode cL_law 445 = .ok (.aload_n 0, 1) := by decide +kernel
theorem dL_law_446 : decode cL_law 446 = .ok (.iload 4, 2) := by decide +kernel
theorem dL_law_448 : decode cL_law 448 = .ok (.iconst 1, 1) := by decide +kernel
theorem dL_law_449 : decode cL_law 449 = .ok (.iadd, 1) := by decide +kernel
theorem dL_law_450 : decode cL_law 450 = .ok (.iaload, 1) := by decide +kernel
theorem dL_law_451 : decode cL_law 451 = .ok (.aload_n 0, 1) := by decide +kernel
theorem dL_law_452 : decode cL_law 452 = .ok (.iload 4, 2) := by decide +kernel
theorem dL_law_454 : decode cL_law 454 = .ok (.iconst 2, 1) := by decide +kernel
theorem dL_law_455 : decode cL_law 455 = .ok (.iadd, 1) := by decide +kernel
theorem dL_law_456 : decode cL_law 456 = .ok (.iaload, 1) := by decide +kernel
theorem dL_law_457 : decode cL_law 457 = .ok (.ifCond .eq 7, 3) := by decide +kernel
theorem dL_law_460 : decode cL_law 460 = .ok (.iconst 1, 1) := by decide +kernel
theorem dL_law_461 : decode cL_law 461 = .ok (.goto 4, 3) := by decide +kernel
theorem dL_law_464 : decode cL_law 464 = .ok (.iconst 0, 1) := by decide +kernel
theorem dL_law_465 : decode cL_law 465 = .ok (.aload_n 3, 1) := by decide +kernel
theorem dL_law_466 : decode cL_law 466 = .ok (.invokestatic 83, 3) := by decide +kernel
theorem dL_law_469 : decode cL_law 469 = .ok (.istore 5, 2) := by decide +kernel
theorem dL_law_471 : decode cL_law 471 = .ok (.aload_n 2, 1) := by decide +kernel
theorem dL_law_472 : decode cL_law 472 = .ok (.aload_n 0, 1) := by decide +kernel
theorem dL_law_473 : decode cL_law 473 = .ok (.iload 4, 2) := by decide +kernel
theorem dL_law_475 : decode cL_law 475 = .ok (.iconst 1, 1) := by decide +kernel
theorem dL_law_476 : decode cL_law 476 = .ok (.iadd, 1) := by decide +kernel
theorem dL_law_477 : decode cL_law 477 = .ok (.iaload, 1) := by decide +kernel
theorem dL_law_478 : decode cL_law 478 = .ok (.aload_n 0, 1) := by decide +kernel
theorem dL_law_479 : decode cL_law 479 = .ok (.iload 4, 2) := by decide +kernel
theorem dL_law_481 : decode cL_law 481 = .ok (.iconst 2, 1) := by decide +kernel
theorem dL_law_482 : decode cL_law 482 = .ok (.iadd, 1) := by decide +kernel
theorem dL_law_483 : decode cL_law 483 = .ok (.iaload, 1) := by decide +kernel
theorem dL_law_484 : decode cL_law 484 = .ok (.ifCond .eq 7, 3) := by decide +kernel
theorem dL_law_487 : decode cL_law 487 = .ok (.iconst 1, 1) := by decide +kernel
theorem dL_law_488 : decode cL_law 488 = .ok (.goto 4, 3) := by decide +kernel
theorem dL_law_491 : decode cL_law 491 = .ok (.iconst 0, 1) := by decide +kernel
theorem dL_law_492 : decode cL_law 492 = .ok (.invokevirtual 85, 3) := by decide +kernel
theorem dL_law_495 : decode cL_law 495 = .ok (.istore 6, 2) := by decide +kernel
theorem dL_law_497 : decode cL_law 497 = .ok (.goto 310, 3) := by decide +kernel
theorem dL_law_500 : decode cL_law 500 = .ok (.aload_n 1, 1) := by decide +kernel
theorem dL_law_501 : decode cL_law 501 = .ok (.invokevirtual 86, 3) := by decide +kernel
theorem dL_law_504 : decode cL_law 504 = .ok (.pop, 1) := by decide +kernel
theorem dL_law_505 : decode cL_law 505 = .ok (.aload_n 2, 1) := by decide +kernel
theorem dL_law_506 : decode cL_law 506 = .ok (.invokevirtual 90, 3) := by decide +kernel
theorem dL_law_509 : decode cL_law 509 = .ok (.pop, 1) := by decide +kernel
theorem dL_law_510 : decode cL_law 510 = .ok (.goto 297, 3) := by decide +kernel
theorem dL_law_513 : decode cL_law 513 = .ok (.aload_n 1, 1) := by decide +kernel
theorem dL_law_514 : decode cL_law 514 = .ok (.invokevirtual 91, 3) := by decide +kernel
theorem dL_law_517 : decode cL_law 517 = .ok (.pop, 1) := by decide +kernel
theorem dL_law_518 : decode cL_law 518 = .ok (.aload_n 2, 1) := by decide +kernel
theorem dL_law_519 : decode cL_law 519 = .ok (.invokevirtual 94, 3) := by decide +kernel
theorem dL_law_522 : decode cL_law 522 = .ok (.pop, 1) := by decide +kernel
theorem dL_law_523 : decode cL_law 523 = .ok (.goto 284, 3) := by decide +kernel
theorem dL_law_526 : decode cL_law 526 = .ok (.aload_n 1, 1) := by decide +kernel
theorem dL_law_527 : decode cL_law 527 = .ok (.invokevirtual 95, 3) := by decide +kernel
theorem dL_law_530 : decode cL_law 530 = .ok (.pop, 1) := by decide +kernel
theorem dL_law_531 : decode cL_law 531 = .ok (.aload_n 2, 1) := by decide +kernel
theorem dL_law_532 : decode cL_law 532 = .ok (.invokevirtual 98, 3) := by decide +kernel
theorem dL_law_535 : decode cL_law 535 = .ok (.pop, 1) := by decide +kernel
theorem dL_law_536 : decode cL_law 536 = .ok (.goto 271, 3) := by decide +kernel
theorem dL_law_539 : decode cL_law 539 = .ok (.aload_n 1, 1) := by decide +kernel
theorem dL_law_540 : decode cL_law 540 = .ok (.aload_n 0, 1) := by decide +kernel
theorem dL_law_541 : decode cL_law 541 = .ok (.iload 4, 2) := by decide +kernel
theorem dL_law_543 : decode cL_law 543 = .ok (.iconst 1, 1) := by decide +kernel
theorem dL_law_544 : decode cL_law 544 = .ok (.iadd, 1) := by decide +kernel
theorem dL_law_545 : decode cL_law 545 = .ok (.iaload, 1) := by decide +kernel
theorem dL_law_546 : decode cL_law 546 = .ok (.aload_n 3, 1) := by decide +kernel
theorem dL_law_547 : decode cL_law 547 = .ok (.invokestatic 99, 3) := by decide +kernel
theorem dL_law_550 : decode cL_law 550 = .ok (.istore 5, 2) := by decide +kernel
theorem dL_law_552 : decode cL_law 552 = .ok (.aload_n 2, 1) := by decide +kernel
theorem dL_law_553 : decode cL_law 553 = .ok (.aload_n 0, 1) := by decide +kernel
theorem dL_law_554 : decode cL_law 554 = .ok (.iload 4, 2) := by decide +kernel
theorem dL_law_556 : decode cL_law 556 = .ok (.iconst 1, 1) := by decide +kernel
theorem dL_law_557 : decode cL_law 557 = .ok (.iadd, 1) := by decide +kernel
theorem dL_law_558 : decode cL_law 558 = .ok (.iaload, 1) := by decide +kernel
theorem dL_law_559 : decode cL_law 559 = .ok (.invokevirtual 102, 3) := by decide +kernel
theorem dL_law_562 : decode cL_law 562 = .ok (.istore 6, 2) := by decide +kernel
theorem dL_law_564 : decode cL_law 564 = .ok (.goto 243, 3) := by decide +kernel
theorem dL_law_567 : decode cL_law 567 = .ok (.aload_n 1, 1) := by decide +kernel
theorem dL_law_568 : decode cL_law 568 = .ok (.aload_n 0, 1) := by decide +kernel
theorem dL_law_569 : decode cL_law 569 = .ok (.iload 4, 2) := by decide +kernel
theorem dL_law_571 : decode cL_law 571 = .ok (.iconst 1, 1) := by decide +kernel
theorem dL_law_572 : decode cL_law 572 = .ok (.iadd, 1) := by decide +kernel
theorem dL_law_573 : decode cL_law 573 = .ok (.iaload, 1) := by decide +kernel
theorem dL_law_574 : decode cL_law 574 = .ok (.aload_n 0, 1) := by decide +kernel
theorem dL_law_575 : decode cL_law 575 = .ok (.iload 4, 2) := by decide +kernel
theorem dL_law_577 : decode cL_law 577 = .ok (.iconst 2, 1) := by decide +kernel
theorem dL_law_578 : decode cL_law 578 = .ok (.iadd, 1) := by decide +kernel
theorem dL_law_579 : decode cL_law 579 = .ok (.iaload, 1) := by decide +kernel
theorem dL_law_580 : decode cL_law 580 = .ok (.aload_n 0, 1) := by decide +kernel
theorem dL_law_581 : decode cL_law 581 = .ok (.iload 4, 2) := by decide +kernel
theorem dL_law_583 : decode cL_law 583 = .ok (.iconst 3, 1) := by decide +kernel
theorem dL_law_584 : decode cL_law 584 = .ok (.iadd, 1) := by decide +kernel
theorem dL_law_585 : decode cL_law 585 = .ok (.iaload, 1) := by decide +kernel
theorem dL_law_586 : decode cL_law 586 = .ok (.aload_n 3, 1) := by decide +kernel
theorem dL_law_587 : decode cL_law 587 = .ok (.invokestatic 103, 3) := by decide +kernel
theorem dL_law_590 : decode cL_law 590 = .ok (.istore 5, 2) := by decide +kernel
theorem dL_law_592 : decode cL_law 592 = .ok (.aload_n 2, 1) := by decide +kernel
theorem dL_law_593 : decode cL_law 593 = .ok (.aload_n 0, 1) := by decide +kernel
theorem dL_law_594 : decode cL_law 594 = .ok (.iload 4, 2) := by decide +kernel
theorem dL_law_596 : decode cL_law 596 = .ok (.iconst 1, 1) := by decide +kernel
theorem dL_law_597 : decode cL_law 597 = .ok (.iadd, 1) := by decide +kernel
theorem dL_law_598 : decode cL_law 598 = .ok (.iaload, 1) := by decide +kernel
theorem dL_law_599 : decode cL_law 599 = .ok (.aload_n 0, 1) := by decide +kernel
theorem dL_law_600 : decode cL_law 600 = .ok (.iload 4, 2) := by decide +kernel
theorem dL_law_602 : decode cL_law 602 = .ok (.iconst 2, 1) := by decide +kernel
theorem dL_law_603 : decode cL_law 603 = .ok (.iadd, 1) := by decide +kernel
theorem dL_law_604 : decode cL_law 604 = .ok (.iaload, 1) := by decide +kernel
theorem dL_law_605 : decode cL_law 605 = .ok (.aload_n 0, 1) := by decide +kernel
theorem dL_law_606 : decode cL_law 606 = .ok (.iload 4, 2) := by decide +kernel
theorem dL_law_608 : decode cL_law 608 = .ok (.iconst 3, 1) := by decide +kernel
theorem dL_law_609 : decode cL_law 609 = .ok (.iadd, 1) := by decide +kernel
theorem dL_law_610 : decode cL_law 610 = .ok (.iaload, 1) := by decide +kernel
theorem dL_law_611 : decode cL_law 611 = .ok (.invokevirtual 105, 3) := by decide +kernel
theorem dL_law_614 : decode cL_law 614 = .ok (.istore 6, 2) := by decide +kernel
theorem dL_law_616 : decode cL_law 616 = .ok (.goto 191, 3) := by decide +kernel
theorem dL_law_619 : decode cL_law 619 = .ok (.aload_n 1, 1) := by decide +kernel
theorem dL_law_620 : decode cL_law 620 = .ok (.aload_n 0, 1) := by decide +kernel
theorem dL_law_621 : decode cL_law 621 = .ok (.iload 4, 2) := by decide +kernel
theorem dL_law_623 : decode cL_law 623 = .ok (.iconst 1, 1) := by decide +kernel
theorem dL_law_624 : decode cL_law 624 = .ok (.iadd, 1) := by decide +kernel
theorem dL_law_625 : decode cL_law 625 = .ok (.iaload, 1) := by decide +kernel
theorem dL_law_626 : decode cL_law 626 = .ok (.aload_n 0, 1) := by decide +kernel
theorem dL_law_627 : decode cL_law 627 = .ok (.iload 4, 2) := by decide +kernel
theorem dL_law_629 : decode cL_law 629 = .ok (.iconst 2, 1) := by decide +kernel
theorem dL_law_630 : decode cL_law 630 = .ok (.iadd, 1) := by decide +kernel
theorem dL_law_631 : decode cL_law 631 = .ok (.iaload, 1) := by decide +kernel
theorem dL_law_632 : decode cL_law 632 = .ok (.aload_n 0, 1) := by decide +kernel
theorem dL_law_633 : decode cL_law 633 = .ok (.iload 4, 2) := by decide +kernel
theorem dL_law_635 : decode cL_law 635 = .ok (.iconst 3, 1) := by decide +kernel
theorem dL_law_636 : decode cL_law 636 = .ok (.iadd, 1) := by decide +kernel
theorem dL_law_637 : decode cL_law 637 = .ok (.iaload, 1) := by decide +kernel
theorem dL_law_638 : decode cL_law 638 = .ok (.aload_n 0, 1) := by decide +kernel
theorem dL_law_639 : decode cL_law 639 = .ok (.iload 4, 2) := by decide +kernel
theorem dL_law_641 : decode cL_law 641 = .ok (.iconst 4, 1) := by decide +kernel
theorem dL_law_642 : decode cL_law 642 = .ok (.iadd, 1) := by decide +kernel
theorem dL_law_643 : decode cL_law 643 = .ok (.iaload, 1) := by decide +kernel
theorem dL_law_644 : decode cL_law 644 = .ok (.aload_n 3, 1) := by decide +kernel
theorem dL_law_645 : decode cL_law 645 = .ok (.invokestatic 106, 3) := by decide +kernel
theorem dL_law_648 : decode cL_law 648 = .ok (.istore 5, 2) := by decide +kernel
theorem dL_law_650 : decode cL_law 650 = .ok (.aload_n 2, 1) := by decide +kernel
theorem dL_law_651 : decode cL_law 651 = .ok (.aload_n 0, 1) := by decide +kernel
theorem dL_law_652 : decode cL_law 652 = .ok (.iload 4, 2) := by decide +kernel
theorem dL_law_654 : decode cL_law 654 = .ok (.iconst 1, 1) := by decide +kernel
theorem dL_law_655 : decode cL_law 655 = .ok (.iadd, 1) := by decide +kernel
theorem dL_law_656 : decode cL_law 656 = .ok (.iaload, 1) := by decide +kernel
theorem dL_law_657 : decode cL_law 657 = .ok (.aload_n 0, 1) := by decide +kernel
theorem dL_law_658 : decode cL_law 658 = .ok (.iload 4, 2) := by decide +kernel
theorem dL_law_660 : decode cL_law 660 = .ok (.iconst 2, 1) := by decide +kernel
theorem dL_law_661 : decode cL_law 661 = .ok (.iadd, 1) := by decide +kernel
theorem dL_law_662 : decode cL_law 662 = .ok (.iaload, 1) := by decide +kernel
theorem dL_law_663 : decode cL_law 663 = .ok (.aload_n 0, 1) := by decide +kernel
theorem dL_law_664 : decode cL_law 664 = .ok (.iload 4, 2) := by decide +kernel
theorem dL_law_666 : decode cL_law 666 = .ok (.iconst 3, 1) := by decide +kernel
theorem dL_law_667 : decode cL_law 667 = .ok (.iadd, 1) := by decide +kernel
theorem dL_law_668 : decode cL_law 668 = .ok (.iaload, 1) := by decide +kernel
theorem dL_law_669 : decode cL_law 669 = .ok (.aload_n 0, 1) := by decide +kernel
theorem dL_law_670 : decode cL_law 670 = .ok (.iload 4, 2) := by decide +kernel
theorem dL_law_672 : decode cL_law 672 = .ok (.iconst 4, 1) := by decide +kernel
theorem dL_law_673 : decode cL_law 673 = .ok (.iadd, 1) := by decide +kernel
theorem dL_law_674 : decode cL_law 674 = .ok (.iaload, 1) := by decide +kernel
theorem dL_law_675 : decode cL_law 675 = .ok (.invokevirtual 108, 3) := by decide +kernel
theorem dL_law_678 : decode cL_law 678 = .ok (.istore 6, 2) := by decide +kernel
theorem dL_law_680 : decode cL_law 680 = .ok (.goto 127, 3) := by decide +kernel
theorem dL_law_683 : decode cL_law 683 = .ok (.aload_n 1, 1) := by decide +kernel
theorem dL_law_684 : decode cL_law 684 = .ok (.aload_n 0, 1) := by decide +kernel
theorem dL_law_685 : decode cL_law 685 = .ok (.iload 4, 2) := by decide +kernel
theorem dL_law_687 : decode cL_law 687 = .ok (.iconst 1, 1) := by decide +kernel
theorem dL_law_688 : decode cL_law 688 = .ok (.iadd, 1) := by decide +kernel
theorem dL_law_689 : decode cL_law 689 = .ok (.iaload, 1) := by decide +kernel
theorem dL_law_690 : decode cL_law 690 = .ok (.aload_n 0, 1) := by decide +kernel
theorem dL_law_691 : decode cL_law 691 = .ok (.iload 4, 2) := by decide +kernel
theorem dL_law_693 : decode cL_law 693 = .ok (.iconst 2, 1) := by decide +kernel
theorem dL_law_694 : decode cL_law 694 = .ok (.iadd, 1) := by decide +kernel
theorem dL_law_695 : decode cL_law 695 = .ok (.iaload, 1) := by decide +kernel
theorem dL_law_696 : decode cL_law 696 = .ok (.aload_n 3, 1) := by decide +kernel
theorem dL_law_697 : decode cL_law 697 = .ok (.invokestatic 109, 3) := by decide +kernel
theorem dL_law_700 : decode cL_law 700 = .ok (.istore 5, 2) := by decide +kernel
theorem dL_law_702 : decode cL_law 702 = .ok (.aload_n 2, 1) := by decide +kernel
theorem dL_law_703 : decode cL_law 703 = .ok (.aload_n 0, 1) := by decide +kernel
theorem dL_law_704 : decode cL_law 704 = .ok (.iload 4, 2) := by decide +kernel
theorem dL_law_706 : decode cL_law 706 = .ok (.iconst 1, 1) := by decide +kernel
theorem dL_law_707 : decode cL_law 707 = .ok (.iadd, 1) := by decide +kernel
theorem dL_law_708 : decode cL_law 708 = .ok (.iaload, 1) := by decide +kernel
theorem dL_law_709 : decode cL_law 709 = .ok (.aload_n 0, 1) := by decide +kernel
theorem dL_law_710 : decode cL_law 710 = .ok (.iload 4, 2) := by decide +kernel
theorem dL_law_712 : decode cL_law 712 = .ok (.iconst 2, 1) := by decide +kernel
theorem dL_law_713 : decode cL_law 713 = .ok (.iadd, 1) := by decide +kernel
theorem dL_law_714 : decode cL_law 714 = .ok (.iaload, 1) := by decide +kernel
theorem dL_law_715 : decode cL_law 715 = .ok (.invokevirtual 112, 3) := by decide +kernel
theorem dL_law_718 : decode cL_law 718 = .ok (.istore 6, 2) := by decide +kernel
theorem dL_law_720 : decode cL_law 720 = .ok (.goto 87, 3) := by decide +kernel
theorem dL_law_723 : decode cL_law 723 = .ok (.aload_n 1, 1) := by decide +kernel
theorem dL_law_724 : decode cL_law 724 = .ok (.aload_n 0, 1) := by decide +kernel
theorem dL_law_725 : decode cL_law 725 = .ok (.iload 4, 2) := by decide +kernel
theorem dL_law_727 : decode cL_law 727 = .ok (.iconst 1, 1) := by decide +kernel
theorem dL_law_728 : decode cL_law 728 = .ok (.iadd, 1) := by decide +kernel
theorem dL_law_729 : decode cL_law 729 = .ok (.iaload, 1) := by decide +kernel
theorem dL_law_730 : decode cL_law 730 = .ok (.aload_n 3, 1) := by decide +kernel
theorem dL_law_731 : decode cL_law 731 = .ok (.invokestatic 113, 3) := by decide +kernel
theorem dL_law_734 : decode cL_law 734 = .ok (.istore 5, 2) := by decide +kernel
theorem dL_law_736 : decode cL_law 736 = .ok (.aload_n 2, 1) := by decide +kernel
theorem dL_law_737 : decode cL_law 737 = .ok (.aload_n 0, 1) := by decide +kernel
theorem dL_law_738 : decode cL_law 738 = .ok (.iload 4, 2) := by decide +kernel
theorem dL_law_740 : decode cL_law 740 = .ok (.iconst 1, 1) := by decide +kernel
theorem dL_law_741 : decode cL_law 741 = .ok (.iadd, 1) := by decide +kernel
theorem dL_law_742 : decode cL_law 742 = .ok (.iaload, 1) := by decide +kernel
theorem dL_law_743 : decode cL_law 743 = .ok (.invokevirtual 115, 3) := by decide +kernel
theorem dL_law_746 : decode cL_law 746 = .ok (.istore 6, 2) := by decide +kernel
theorem dL_law_748 : decode cL_law 748 = .ok (.goto 59, 3) := by decide +kernel
theorem dL_law_751 : decode cL_law 751 = .ok (.aload_n 1, 1) := by decide +kernel
theorem dL_law_752 : decode cL_law 752 = .ok (.aload_n 0, 1) := by decide +kernel
theorem dL_law_753 : decode cL_law 753 = .ok (.iload 4, 2) := by decide +kernel
theorem dL_law_755 : decode cL_law 755 = .ok (.iconst 1, 1) := by decide +kernel
theorem dL_law_756 : decode cL_law 756 = .ok (.iadd, 1) := by decide +kernel
theorem dL_law_757 : decode cL_law 757 = .ok (.iaload, 1) := by decide +kernel
theorem dL_law_758 : decode cL_law 758 = .ok (.aload_n 3, 1) := by decide +kernel
theorem dL_law_759 : decode cL_law 759 = .ok (.invokestatic 116, 3) := by decide +kernel
theorem dL_law_762 : decode cL_law 762 = .ok (.istore 5, 2) := by decide +kernel
theorem dL_law_764 : decode cL_law 764 = .ok (.aload_n 2, 1) := by decide +kernel
theorem dL_law_765 : decode cL_law 765 = .ok (.aload_n 0, 1) := by decide +kernel
theorem dL_law_766 : decode cL_law 766 = .ok (.iload 4, 2) := by decide +kernel
theorem dL_law_768 : decode cL_law 768 = .ok (.iconst 1, 1) := by decide +kernel
theorem dL_law_769 : decode cL_law 769 = .ok (.iadd, 1) := by decide +kernel
theorem dL_law_770 : decode cL_law 770 = .ok (.iaload, 1) := by decide +kernel
theorem dL_law_771 : decode cL_law 771 = .ok (.invokevirtual 118, 3) := by decide +kernel
theorem dL_law_774 : decode cL_law 774 = .ok (.istore 6, 2) := by decide +kernel
theorem dL_law_776 : decode cL_law 776 = .ok (.aload_n 2, 1) := by decide +kernel
theorem dL_law_777 : decode cL_law 777 = .ok (.invokevirtual 119, 3) := by decide +kernel
theorem dL_law_780 : decode cL_law 780 = .ok (.iload 5, 2) := by decide +kernel
theorem dL_law_782 : decode cL_law 782 = .ok (.if_icmp .eq 5, 3) := by decide +kernel
theorem dL_law_787 : decode cL_law 787 = .ok (.iload 5, 2) := by decide +kernel
theorem dL_law_789 : decode cL_law 789 = .ok (.ifCond .ne 15, 3) := by decide +kernel
theorem dL_law_792 : decode cL_law 792 = .ok (.aload_n 3, 1) := by decide +kernel
theorem dL_law_793 : decode cL_law 793 = .ok (.iconst 0, 1) := by decide +kernel
theorem dL_law_794 : decode cL_law 794 = .ok (.laload, 1) := by decide +kernel
theorem dL_law_795 : decode cL_law 795 = .ok (.iload 6, 2) := by decide +kernel
theorem dL_law_797 : decode cL_law 797 = .ok (.i2l, 1) := by decide +kernel
theorem dL_law_798 : decode cL_law 798 = .ok (.lcmp, 1) := by decide +kernel
theorem dL_law_799 : decode cL_law 799 = .ok (.ifCond .eq 5, 3) := by decide +kernel
theorem dL_law_804 : decode cL_law 804 = .ok (.goto 3, 3) := by decide +kernel
theorem dL_law_807 : decode cL_law 807 = .ok (.iinc 4 6, 3) := by decide +kernel
theorem dL_law_810 : decode cL_law 810 = .ok (.goto (-787), 3) := by decide +kernel
theorem dL_law_813 : decode cL_law 813 = .ok (.iconst 1, 1) := by decide +kernel
theorem dL_law_814 : decode cL_law 814 = .ok (.ireturn, 1) := by decide +kernel
end
section
/-! MY OWN ROWS: a world is a map from addresses to cells (ZM); a contract says what the map is behind the method. No cell below b0 is ever written. -/
abbrev ZM : Type := Nat → Option va_E
def zup (M : ZM) (a : Nat) (e : va_E) : ZM := fun q => if q = a then some e else M q
theorem zup_self (M : ZM) (a : Nat) (e : va_E) : zup M a e a = some e := by simp [zup]
theorem zup_ne (M : ZM) {a q : Nat} (e : va_E) (h : q ≠ a) : zup M a e q = M q := by simp [zup, h]
theorem zup_zup (M : ZM) (a : Nat) (e e' : va_E) : zup (zup M a e) a e' = zup M a e' := by
  funext q; by_cases h : q = a <;> simp [zup, h]
theorem zup_comm (M : ZM) {a b : Nat} (e e' : va_E) (h : a ≠ b) : zup (zup M a e) b e' = zup (zup M b e') a e := by
  funext q
  by_cases h1 : q = a
  · subst h1; simp [zup, h]
  · by_cases h2 : q = b
    · subst h2; simp [zup, h1]
    · simp [zup, h1, h2]
def zA (b0 : Nat) : Nat → Prop := fun q => b0 ≤ q
def zM (D : va_G) (b0 : Nat) (M : ZM) (H : Heap) : Prop := ∀ (a : Nat) (e : va_E), M a = some e → b0 ≤ a ∧ va_at D vwCl (a, e) H
theorem zM.one {D : va_G} {b0 : Nat} {M : ZM} {H : Heap} (h : zM D b0 M H) {a : Nat} {e : va_E} (he : M a = some e) : va_P D vwCl [(a, e)] H := by
  intro k q hk
  have hz : k < 1 := (List.getElem?_eq_some_iff.mp hk).1
  rw [show k = 0 by omega] at hk
  cases hk
  exact (h a e he).2
theorem zM.two {D : va_G} {b0 : Nat} {M : ZM} {H : Heap} (h : zM D b0 M H) {a b : Nat} {e e' : va_E} (he : M a = some e) (he' : M b = some e') : va_P D vwCl [(a, e), (b, e')] H := by
  intro k q hk
  have hz : k < 2 := (List.getElem?_eq_some_iff.mp hk).1
  rcases (show k = 0 ∨ k = 1 by omega) with rfl | rfl
  · cases hk
    exact (h a e he).2
  · cases hk
    exact (h b e' he').2
theorem zM.lt {D : va_G} {b0 : Nat} {M : ZM} {H : Heap} (h : zM D b0 M H) {a : Nat} {e : va_E} (he : M a = some e) : a < H.size := (h a e he).2.lt
theorem zM.set {D : va_G} {b0 : Nat} {M : ZM} {H H1 : Heap} (h : zM D b0 M H) {a : Nat} {e e' : va_E} (he : M a = some e) (h1 : va_at D vwCl (a, e') H1) (oq : ∀ q : Nat, q ≠ a → H1[q]? = H[q]?) : zM D b0 (zup M a e') H1 := by
  intro q f hq
  by_cases hqa : q = a
  · subst hqa
    rw [zup_self] at hq
    cases hq
    exact ⟨(h q e he).1, h1⟩
  · rw [zup_ne _ _ hqa] at hq
    exact ⟨(h q f hq).1, (h q f hq).2.kept (oq q hqa)⟩
theorem zM.push {D : va_G} {b0 : Nat} {M : ZM} {H H1 : Heap} (h : zM D b0 M H) {a : Nat} {e' : va_E} (ha : a = H.size) (hb : b0 ≤ a) (h1 : va_at D vwCl (a, e') H1) (oq : ∀ q : Nat, q < H.size → H1[q]? = H[q]?) : zM D b0 (zup M a e') H1 := by
  intro q f hq
  by_cases hqa : q = a
  · subst hqa
    rw [zup_self] at hq
    cases hq
    exact ⟨hb, h1⟩
  · rw [zup_ne _ _ hqa] at hq
    exact ⟨(h q f hq).1, (h q f hq).2.kept (oq q (h.lt hq))⟩
/-- the kinds of arrays -/
def zT (aC : Nat → ClassId) : List (ClassId × FieldType) := [(aC 0, .int), (aC 1, .boolean), (aC 2, .object RX1), (aC 3, .object RX2), (aC 4, .object RX5), (aC 5, .array .int), (aC 6, .long)]
/-- words that stay true though they aren't 'good' -/
def zNest : Cond → Bool
  | .fieldLinkNest .. => true
  | .methodLinkNest .. => true
  | .castable .. => true
  | .declares .. => true
  | _ => false
def zW : List Cond := lw_tbl.filter goodWord
def zN : List Cond := lw_tbl.filter zNest
theorem zW_good {w : Cond} (h : w ∈ zW) : goodWord w = true := (List.mem_filter.mp h).2
theorem zN_warm {w : Cond} (h : zNest w = true) {s U : State} (hW : s.WarmedH U.vm) (hZ : va_Nw w s) : va_Nw w U := by
  cases w <;> first | exact va_Nw.warmF hW hZ | exact va_Nw.warmM hW hZ | exact va_Nw.warmC hW hZ | exact va_Nw.warmD hW hZ | (simp [zNest] at h)
theorem zN_tab {w : Cond} (h : zNest w = true) : w.onTables = true := by
  cases w <;> first | rfl | (simp [zNest] at h)
/-- the texts of the throws -/
def zStr : List (String × Nat × String) := [("UpdateSteps", 60, "no such kind, or not with this FROM or TO"), ("UpdateSteps", 67, "no more steps"), ("UpdateSteps", 234, "no such step"), ("UpdateSteps", 100, "no such template in this step"), ("UpdateSteps", 112, "no more templates"), ("UpdateSteps", 121, "no such pattern in this step"), ("UpdateSteps", 126, "no more rows of the pattern"), ("UpdateSteps", 236, "no such file"), ("UpdateSteps", 139, "a file has names alone"), ("UpdateSteps", 146, "no more rows of the file"), ("UpdateSteps", 245, "no such graph"), ("UpdateSteps", 190, "no such fact"), ("UpdateSteps", 193, "a fact has parts 0 to 2"), ("UpdateSteps", 212, "no such change"), ("UpdateSteps", 214, "a change has parts 0 to 4"), ("UpdateSteps", 232, "what is 0 to 4")]
/-- what isn't castable -/
def zNo : List (String × String) := [("java/lang/IllegalStateException", "java/lang/IllegalArgumentException"), ("java/lang/IndexOutOfBoundsException", "java/lang/IllegalArgumentException"), ("java/lang/IllegalArgumentException", "java/lang/IllegalStateException"), ("java/lang/IndexOutOfBoundsException", "java/lang/IllegalStateException"), ("java/lang/IllegalArgumentException", "java/lang/IndexOutOfBoundsException"), ("java/lang/IllegalStateException", "java/lang/IndexOutOfBoundsException")]
/-- the class of int[][] has been made -/
def zAA (U : State) : Prop := (Cond.arrayOver (.array .int)).before #[] U = true
theorem zAA_moved {u U : State} (hvm : u.vm.Alike U.vm) (h : zAA u) : zAA U := by
  obtain ⟨comp, c, k, h1, h2, h3, h4, h5⟩ := arrayOverA_spec h
  obtain ⟨k', hk', he⟩ := hvm.2.2 _ _ h3
  have hi : (U.vm.classes.findIdx? fun (x : Class) => match x.kind with | .array component _ => component == comp | _ => false) = some c := by
    have e1 := va_idx_bare U.vm comp
    have e2 := va_idx_bare u.vm comp
    have e3 : U.vm.bare = u.vm.bare := by first | exact hvm.bare_eq | exact hvm.bare_eq.symm
    rw [e3] at e1
    exact (e1.symm.trans e2).trans h2
  have hkind : k'.kind = .array comp (.array .int) := by rw [he]; exact h4
  have f1 : U.vm.findClass (FieldType.array .int).toString = some comp := by rw [hvm.findClass]; exact h1
  have f2 : U.vm.findClass ("[" ++ (FieldType.array .int).toString) = some c := by rw [hvm.findClass]; exact h5
  unfold zAA Cond.before Cond.holds
  simp only [Cond.value]
  rw [f1, Option.bind_some]
  refine (congrArg (fun o : Option Nat => (o.bind (fun c => (U.vm.classes[c]?).map fun (k : Class) => match k.kind with | .array _ ty => decide (ty = FieldType.array .int) && decide (U.vm.findClass ("[" ++ (FieldType.array .int).toString) = some c) | _ => false) == some true)) hi).trans ?_
  simp [hk', hkind, f2]
/-- all that the tables give, at any state -/
def zg (U : State) : Prop := (∀ w ∈ zW, w.before #[] U = true) ∧ (∀ w ∈ zN, va_Nw w U) ∧ (∀ C ∈ [RX1, RX2, RX5], va_AO C U) ∧ (∀ q ∈ zStr, ∃ a, vk_R q.1 q.2.1 q.2.2 a U) ∧ (∀ q ∈ zNo, va_Nc q.1 q.2 U) ∧ zAA U
theorem zg_warm {s U : State} (hW : s.WarmedH U.vm) (h : zg s) : zg U :=
  ⟨fun w hw => word_at hW (good_of_word (zW_good hw)) (h.1 w hw), fun w hw => zN_warm (List.mem_filter.mp hw).2 hW (h.2.1 w hw), fun C hC => va_AO.moved hW.alike (h.2.2.1 C hC),
    fun q hq => (h.2.2.2.1 q hq).elim fun a ha => ⟨a, vk_R.warm hW ha⟩, fun q hq => va_Nc.moved hW.alike (h.2.2.2.2.1 q hq), zAA_moved hW.alike h.2.2.2.2.2⟩
theorem zg_w {U : State} (h : zg U) {w : Cond} (hw : w ∈ zW) {A : Array Value} : w.before A U = true := word_at (State.WarmedH.refl U) (good_of_word (zW_good hw)) (h.1 w hw)
theorem zg_n {U : State} (h : zg U) {w : Cond} (hw : w ∈ zN) {A : Array Value} : w.before A U = true := va_Nw.use (zN_tab (List.mem_filter.mp hw).2) (h.2.1 w hw)
def zG (l : Launch) (D : va_G) (aC : Nat → ClassId) (b0 : Nat) (U : State) : Prop := l.stackTraces = false ∧ va_K D vwCl (zT aC) U ∧ zg U ∧ vx_Zq Bundle.tN "UNASSIGNED_STACK" Bundle.steD (zA b0) U U.heap ∧ vx_Zq Bundle.tN "SUPPRESSED_SENTINEL" Bundle.listD (zA b0) U U.heap ∧ b0 ≤ U.heap.size
theorem zG_to {l : Launch} {D : va_G} {aC : Nat → ClassId} {b0 : Nat} {s U : State} (h : zG l D aC b0 s) (hW : s.WarmedH U.vm) (hz : s.heap.size ≤ U.heap.size) (hk : ∀ q : Nat, q < s.heap.size → ¬ zA b0 q → U.heap[q]? = s.heap[q]?) : zG l D aC b0 U := by
  obtain ⟨h1, h2, h3, h4, h5, h6⟩ := h
  exact ⟨h1, va_K.moved hW.alike h2, zg_warm hW h3, vx_Zq.moved hW.alike (h4.kept hk), vx_Zq.moved hW.alike (h5.kept hk), Nat.le_trans h6 hz⟩
/-- a contract's start and end -/
def zPc (l : Launch) (D : va_G) (aC : Nat → ClassId) (b0 : Nat) (av : List Value) (M : ZM) (sz : Nat) : Array Value → State → Prop := fun v U => v = av.toArray ∧ zG l D aC b0 U ∧ zM D b0 M U.heap ∧ U.heap.size = sz
theorem zPc_blind {l : Launch} {D : va_G} {aC : Nat → ClassId} {b0 : Nat} {av : List Value} {M : ZM} {sz : Nat} : FrameBlind (zPc l D aC b0 av M sz) := by
  intro a U g mk h
  obtain ⟨h1, h2, h3, h4⟩ := h
  exact ⟨h1, zG_to (U := U.calling g mk a) h2 (State.WarmedH.refl U) (Nat.le_refl _) (fun _ _ _ => rfl), h3, h4⟩
def zQc (D : va_G) (b0 : Nat) (P : Option Value → ZM → Nat → Prop) : Array Value → State → Outcome → State → Prop := fun _ st o t => (∃ (r : Option Value) (M' : ZM) (sz' : Nat), o = .returned r ∧ P r M' sz' ∧ zM D b0 M' t.heap ∧ t.heap.size = sz') ∧ va_F (zA b0) st t
abbrev rz (n mc ms : Nat) : Room := { frames := 20 * n + 20, cells := mc, slots := ms, locals := 200 * n + 200 }
/-- THE CONTRACT of a method that returns -/
def Ct (l : Launch) (D : va_G) (aC : Nat → ClassId) (b0 : Nat) (y : MethodName) (cc : ByteArray) (maxL : Nat) (ret : Option FieldType) (n mc ms : Nat) (av : List Value) (M : ZM) (sz : Nat) (P : Option Value → ZM → Nat → Prop) : Prop :=
  Met l y [.code y cc maxL ret] (rz n mc ms) (zPc l D aC b0 av M sz) (zQc D b0 P) mc ms (zA b0)
/-- what stands fast in a method's body -/
def zC (p : Program) (l : Launch) (s : State) (m : MethodId) (c : Code) (D : va_G) (aC : Nat → ClassId) (b0 : Nat) (own : String) (cc : ByteArray) (nL : Nat) : Prop := p.tables.exec = Jvm.exec ∧ c.code = cc ∧ c.maxLocals = nL ∧ s.vm.findClass own = some m.cls ∧ zG l D aC b0 s
/-- the machine at frame g, the heap as M has it, of size sz -/
def Z (p : Program) (l : Launch) (e : Env) (R : Room) (s : State) (m : MethodId) (args : Array Value) (below : List Frame) (meth : Method) (c : Code) (D : va_G) (b0 : Nat) (M : ZM) (sz cells slots : Nat) (Q : State → Prop) (g : JFrame) : Prop :=
  ∀ (H : Heap) (locs : List Loc), zM D b0 M H → H.size = sz → va_S (zA b0) s.heap H locs → W p l e R s m args below meth c H locs cells slots Q g
section ZR
variable {p : Program} {l : Launch} {e : Env} {R : Room} {s : State} {m : MethodId} {args : Array Value} {below : List Frame} {meth : Method} {c : Code} {D : va_G} {aC : Nat → ClassId} {b0 : Nat} {M : ZM} {sz cells slots : Nat} {Q : State → Prop} {own : String} {cc : ByteArray} {nL pc : Nat} {ls : Array Slot} {rest : List Value} {a : Nat}
theorem zz {g g2 : JFrame} (h : ∀ (H : Heap) (locs : List Loc), W p l e R s m args below meth c H locs cells slots Q g2 → W p l e R s m args below meth c H locs cells slots Q g) (k : Z p l e R s m args below meth c D b0 M sz cells slots Q g2) : Z p l e R s m args below meth c D b0 M sz cells slots Q g :=
  fun H locs h1 h2 h3 => h H locs (k H locs h1 h2 h3)
theorem zb {g g2 g3 : JFrame} {P : Prop} (h : ∀ (H : Heap) (locs : List Loc), (P → W p l e R s m args below meth c H locs cells slots Q g2) → (¬ P → W p l e R s m args below meth c H locs cells slots Q g3) → W p l e R s m args below meth c H locs cells slots Q g)
    (k1 : P → Z p l e R s m args below meth c D b0 M sz cells slots Q g2) (k2 : ¬ P → Z p l e R s m args below meth c D b0 M sz cells slots Q g3) : Z p l e R s m args below meth c D b0 M sz cells slots Q g :=
  fun H locs h1 h2 h3 => h H locs (fun q => k1 q H locs h1 h2 h3) (fun q => k2 q H locs h1 h2 h3)
theorem zs {g : JFrame} {pc' : Nat} {st : List Value} {lv : List (Nat × Value)} (h : ∀ (H : Heap) (locs : List Loc), (∀ ls : Array Slot, lv_has ls nL lv → W p l e R s m args below meth c H locs cells slots Q (F0 m pc' ls st)) → W p l e R s m args below meth c H locs cells slots Q g)
    (k : ∀ ls : Array Slot, lv_has ls nL lv → Z p l e R s m args below meth c D b0 M sz cells slots Q (F0 m pc' ls st)) : Z p l e R s m args below meth c D b0 M sz cells slots Q g :=
  fun H locs h1 h2 h3 => h H locs (fun ls hl => k ls hl H locs h1 h2 h3)
theorem zi {x : Int32} {st : List Value} (k : ∀ y : Int32, y = x → Z p l e R s m args below meth c D b0 M sz cells slots Q (F0 m pc ls (.int y :: st))) : Z p l e R s m args below meth c D b0 M sz cells slots Q (F0 m pc ls (.int x :: st)) := k x rfl
theorem zeq {g : JFrame} {M' : ZM} (h : M = M') (k : Z p l e R s m args below meth c D b0 M' sz cells slots Q g) : Z p l e R s m args below meth c D b0 M sz cells slots Q g := h ▸ k
theorem zval {v v' : Value} {st : List Value} (h : v = v') (k : Z p l e R s m args below meth c D b0 M sz cells slots Q (F0 m pc ls (v' :: st))) : Z p l e R s m args below meth c D b0 M sz cells slots Q (F0 m pc ls (v :: st)) := h ▸ k
theorem zwid {g : JFrame} {k n : Nat} (h1 : cells ≤ k) (h2 : slots ≤ n) (kk : Z p l e R s m args below meth c D b0 M sz k n Q g) : Z p l e R s m args below meth c D b0 M sz cells slots Q g :=
  fun H locs a1 a2 a3 => W.widen h1 h2 (kk H locs a1 a2 a3)
/-- a field by its place in the pool of 'own' -/
def zFd (own : String) (idx ci k : Nat) : Prop := ∃ (C : String) (T : u_T) (N : Nat), vwCl[ci]? = some (C, T, N) ∧ k < N ∧ (∀ w ∈ u_ws C T N, w ∈ zW) ∧ (Cond.fieldLink own idx (T k).1 (T k).2.1 (T k).2.2.1 ∈ zW ∨ ∃ host : String, Cond.fieldLinkNest own idx (T k).1 (T k).2.1 (T k).2.2.1 host ∈ zN)
theorem z_get (C : zC p l s m c D aC b0 own cc nL) {idx ci k : Nat} (F : zFd own idx ci k) {fs : List Value} {v : Value} (he : M a = some (.inr (ci, fs))) (hv : fs[k]? = some v) (hdg : decode cc pc = .ok (.getfield idx, 3))
    (kk : Z p l e R s m args below meth c D b0 M sz cells slots Q (F0 m (pc + 3) ls (v :: rest))) : Z p l e R s m args below meth c D b0 M sz cells slots Q (F0 m pc ls (.ref a :: rest)) := by
  obtain ⟨hx, hb, -, hown, -, hK, hg, -⟩ := C
  obtain ⟨Cn, T, N, hc, hk, hin, hlk⟩ := F
  intro H locs h1 h2 h3
  rcases hlk with hlk | ⟨host, hlk⟩
  · exact va_get (D := D) hx hb (Ts := zW) (fun w hw => zg_w hg hw) hin hown hK (h1.one he) 0 rfl hc k hk (zg_w hg hlk) (fun _ h => h) hv hdg (kk H locs h1 h2 h3)
  · exact va_getN (D := D) hx hb (Ts := zW) (fun w hw => zg_w hg hw) hin hown hK (h1.one he) 0 rfl hc k hk (zg_n hg hlk) (fun _ h => h) hv hdg (kk H locs h1 h2 h3)
end ZR
end
section
section ZR2
variable {p : Program} {l : Launch} {e : Env} {R : Room} {s : State} {m : MethodId} {args : Array Value} {below : List Frame} {meth : Method} {c : Code} {D : va_G} {aC : Nat → ClassId} {b0 : Nat} {M : ZM} {sz cells slots : Nat} {Q : State → Prop} {own : String} {cc : ByteArray} {nL pc : Nat} {ls : Array Slot} {rest : List Value} {a : Nat}
/-- a field that may be written, by its place in the pool of 'own' -/
def zFp (own : String) (idx ci k : Nat) (ty : FieldType) (fin : Bool) : Prop := ∃ (C : String) (T : u_T) (N : Nat) (ty0 : Nat → FieldType), vwCl[ci]? = some (C, T, N) ∧ k < N ∧ (∀ w ∈ u_ws C T N, w ∈ zW) ∧ (∀ k, k < N → parseFieldDescriptor (T k).2.2.1 = some (ty0 k)) ∧ (∀ a, a < N → ∀ b, b < N → a ≠ b → (T a).2.1 ≠ (T b).2.1) ∧ ty0 k = ty ∧ (T k).2.2.2 = fin ∧
  ((fin = true ∧ (T k).1 = own ∧ Cond.fieldLink own idx (T k).1 (T k).2.1 (T k).2.2.1 ∈ zW) ∨ (fin = false ∧ (Cond.fieldLink own idx (T k).1 (T k).2.1 (T k).2.2.1 ∈ zW ∨ ∃ host : String, Cond.fieldLinkNest own idx (T k).1 (T k).2.1 (T k).2.2.1 host ∈ zN)))
theorem z_put (C : zC p l s m c D aC b0 own cc nL) {idx ci k : Nat} {ty : FieldType} {fin : Bool} (F : zFp own idx ci k ty fin) (hini : fin = true → meth.name = "<init>") {fs : List Value} {v : Value} (he : M a = some (.inr (ci, fs))) (hl : k < fs.length) (hn : narrow ty v = v) (hfit : fits ty v = true) (hdg : decode cc pc = .ok (.putfield idx, 3))
    (kk : Z p l e R s m args below meth c D b0 (zup M a (.inr (ci, fs.set k v))) sz cells slots Q (F0 m (pc + 3) ls rest)) : Z p l e R s m args below meth c D b0 M sz cells slots Q (F0 m pc ls (v :: .ref a :: rest)) := by
  obtain ⟨hx, hb, -, hown, -, hK, hg, -⟩ := C
  obtain ⟨Cn, T, N, ty0, hc, hk, hin, hty, hnm, h0, hfin, hlk⟩ := F
  have hts : ∀ w ∈ zW, w.before args s = true := fun w hw => zg_w hg hw
  have hap := va_apart (own := own) (D := D) hts hin ty0 hty hnm hK hc
  have hd : parseFieldDescriptor (T k).2.2.1 = some ty := by rw [hty k hk, h0]
  intro H locs h1 h2 h3
  obtain ⟨hb1, r, hr1, cell, q1, q2, q3, q4⟩ := h1 a _ he
  have hr : r = (Cn, T, N) := Option.some.inj (hr1.symm.trans hc)
  subst hr
  obtain ⟨hS, hfc, kC, hkC, hkind⟩ := hK.1 ci _ hc
  obtain ⟨cf, kf, fi, f, hi, hsl⟩ := hS k hk
  have hlay := hts _ (hin _ (u_in_lay hk))
  unfold u_lay at hlay
  have hst := (u_facts hfc hkC (u_lays hts hin hk) hi).1
  have fin1 : ∀ (H1 : Heap), H1[a]? = some (cell.setSlot f.slot v) → H1.size = H.size → (∀ q, q ≠ a → H1[q]? = H[q]?) → W p l e R s m args below meth c H1 (locs ++ [⟨a, f.slot⟩]) cells slots Q (F0 m (pc + 3) ls rest) := by
    intro H1 e1 e2 e3
    rw [hsl] at e1 ⊢
    exact kk H1 _ (h1.set he ⟨_, hc, t_OB.to (V := updV (vp_V fs) k v) ⟨_, e1, q2, q3, t_set q4 hap hk v⟩ (fun j _ => vp_updV_set hl v j)⟩ e3) (e2.trans h2) (h3.put e2 e3 hb1)
  rcases hlk with ⟨hf, hdecl, hlk⟩ | ⟨hf, hlk⟩
  · subst hf
    rw [if_pos hfin] at hlay
    have hcf : m.cls = cf := by
      obtain ⟨_, _, c', _, _, _, -, -, hf', -, -, -, hown2, -⟩ := Cond.laysFinal_spec hlay
      have e1 : c' = cf := by have := hi.symm.trans hf'; simp at this; exact this.1.symm
      rw [hdecl] at hown2
      rw [← e1]; exact Option.some.inj (hown.symm.trans hown2)
    have h6 := u_fits hfc hkC hkind (Or.inr hlay) hi hd hn hfit
    exact W.putFinK hx hb hown (zg_w hg hlk) hi hst hcf (hini rfl) (by rw [q2]; exact h6) q1 q3 (by rw [hsl]; exact k2_hasslot (q4 k hk)) rfl rfl hdg fin1
  · subst hf
    rw [if_neg (by rw [hfin]; decide)] at hlay
    have h6 := u_store hfc hkC hkind hlay hi hd hn hfit
    rcases hlk with hlk | ⟨host, hlk⟩
    · exact W.putK hx hb (f := f) ⟨hown, zg_w hg hlk, ⟨_, _, _, hi⟩, hst⟩ (by rw [q2]; exact h6) q1 q3 (by rw [hsl]; exact k2_hasslot (q4 k hk)) rfl rfl hdg fin1
    · exact va_WputK hx hb (f := f) hown (zg_n hg hlk) hi hst (by rw [q2]; exact h6) q1 q3 (by rw [hsl]; exact k2_hasslot (q4 k hk)) rfl rfl hdg fin1
theorem z_iald (C : zC p l s m c D aC b0 own cc nL) {n : Nat} {f : Nat → Int32} {i : Int32} (ha : M a = some (.inl (aC 0, n, .inl f))) (hin : vp_in i n) (hdg : decode cc pc = .ok (.iaload, 1))
    (kk : Z p l e R s m args below meth c D b0 M sz cells slots Q (F0 m (pc + 1) ls (.int (f i.toNatClampNeg) :: rest))) : Z p l e R s m args below meth c D b0 M sz cells slots Q (F0 m pc ls (.int i :: .ref a :: rest)) := by
  obtain ⟨hx, hb, -, hown, -, hK, hg, -⟩ := C
  exact fun H locs h1 h2 h3 => va_iald (D := D) hx hb hK (h1.one ha) 0 0 rfl rfl hin hdg (kk H locs h1 h2 h3)
theorem z_zald (C : zC p l s m c D aC b0 own cc nL) {n : Nat} {f : Nat → Int32} {i : Int32} (ha : M a = some (.inl (aC 1, n, .inl f))) (hin : vp_in i n) (hdg : decode cc pc = .ok (.baload, 1))
    (kk : Z p l e R s m args below meth c D b0 M sz cells slots Q (F0 m (pc + 1) ls (.int (f i.toNatClampNeg) :: rest))) : Z p l e R s m args below meth c D b0 M sz cells slots Q (F0 m pc ls (.int i :: .ref a :: rest)) := by
  obtain ⟨hx, hb, -, hown, -, hK, hg, -⟩ := C
  exact fun H locs h1 h2 h3 => va_zald (D := D) hx hb hK (h1.one ha) 0 1 rfl rfl hin hdg (kk H locs h1 h2 h3)
theorem z_aald (C : zC p l s m c D aC b0 own cc nL) (t0 : Nat) {Cn : String} {n : Nat} {f : Nat → Option Nat} {i : Int32} (ht : (zT aC)[t0]? = some (aC t0, .object Cn)) (ha : M a = some (.inl (aC t0, n, .inr (.inr (.inr (.inr f)))))) (hin : vp_in i n) {v : Value} (hv : va_rf (f i.toNatClampNeg) = v) (hdg : decode cc pc = .ok (.aaload, 1))
    (kk : Z p l e R s m args below meth c D b0 M sz cells slots Q (F0 m (pc + 1) ls (v :: rest))) : Z p l e R s m args below meth c D b0 M sz cells slots Q (F0 m pc ls (.int i :: .ref a :: rest)) := by
  obtain ⟨hx, hb, -, hown, -, hK, hg, -⟩ := C
  subst hv
  exact fun H locs h1 h2 h3 => va_aldq (D := D) hx hb hK (h1.one ha) 0 t0 rfl ht hin hdg (kk H locs h1 h2 h3)
theorem z_alen (C : zC p l s m c D aC b0 own cc nL) (t0 : Nat) {ty : FieldType} {x : vp_A} (ht : (zT aC)[t0]? = some (aC t0, ty)) (ha : M a = some (.inl (aC t0, x))) {v : Int32} (hv : Int32.ofNat x.1 = v) (hdg : decode cc pc = .ok (.arraylength, 1))
    (kk : Z p l e R s m args below meth c D b0 M sz cells slots Q (F0 m (pc + 1) ls (.int v :: rest))) : Z p l e R s m args below meth c D b0 M sz cells slots Q (F0 m pc ls (.ref a :: rest)) := by
  obtain ⟨hx, hb, -, hown, -, hK, hg, -⟩ := C
  exact fun H locs h1 h2 h3 => va_alen (D := D) hx hb hK (h1.one ha) 0 t0 rfl ht hv hdg (kk H locs h1 h2 h3)
theorem z_iast (C : zC p l s m c D aC b0 own cc nL) {n : Nat} {f : Nat → Int32} {i x : Int32} (ha : M a = some (.inl (aC 0, n, .inl f))) (hin : vp_in i n) (hdg : decode cc pc = .ok (.iastore, 1))
    (kk : Z p l e R s m args below meth c D b0 (zup M a (.inl (aC 0, n, .inl (upd f i.toNatClampNeg x)))) sz cells slots Q (F0 m (pc + 1) ls rest)) : Z p l e R s m args below meth c D b0 M sz cells slots Q (F0 m pc ls (.int x :: .int i :: .ref a :: rest)) := by
  obtain ⟨hx, hb, -, hown, -, hK, hg, -⟩ := C
  intro H locs h1 h2 h3
  obtain ⟨hb1, hc1⟩ := h1 a _ ha
  refine W.iast hx hb hc1 ((hK.2 0 _ rfl).1 n (fun j => .int (f j))) (fun q => by cases q) (by show ¬ (i < 0 ∨ (arrV _ _ _).slots.size ≤ _); rw [arrV_size]; exact hin) rfl rfl hdg fun H1 e z oq => ?_
  refine kk H1 _ (h1.set ha ?_ oq) (z.trans h2) (h3.put z oq hb1)
  show H1[a]? = some (vp_cell _ _)
  rw [e, vp_cell_i, vp_cell_i, arrV_store]
  congr 2
  funext q
  by_cases hq : q = i.toNatClampNeg
  · subst hq
    simp [updV, upd]
  · simp [updV, upd, hq]
theorem z_zast (C : zC p l s m c D aC b0 own cc nL) {n : Nat} {f : Nat → Int32} {i x : Int32} (ha : M a = some (.inl (aC 1, n, .inl f))) (hin : vp_in i n) (hx1 : narrow .boolean (.int x) = .int x) (hdg : decode cc pc = .ok (.bastore, 1))
    (kk : Z p l e R s m args below meth c D b0 (zup M a (.inl (aC 1, n, .inl (upd f i.toNatClampNeg x)))) sz cells slots Q (F0 m (pc + 1) ls rest)) : Z p l e R s m args below meth c D b0 M sz cells slots Q (F0 m pc ls (.int x :: .int i :: .ref a :: rest)) := by
  obtain ⟨hx, hb, -, hown, -, hK, hg, -⟩ := C
  intro H locs h1 h2 h3
  obtain ⟨hb1, hc1⟩ := h1 a _ ha
  refine W.zast hx hb hc1 ((hK.2 1 _ rfl).1 n (fun j => .int (f j))) (fun q => by cases q) (by show ¬ (i < 0 ∨ (arrV _ _ _).slots.size ≤ _); rw [arrV_size]; exact hin) rfl rfl hdg fun H1 e z oq => ?_
  refine kk H1 _ (h1.set ha ?_ oq) (z.trans h2) (h3.put z oq hb1)
  show H1[a]? = some (vp_cell _ _)
  rw [e, hx1, vp_cell_i, vp_cell_i, arrV_store]
  congr 2
  funext q
  by_cases hq : q = i.toNatClampNeg
  · subst hq
    simp [updV, upd]
  · simp [updV, upd, hq]
theorem z_aast (C : zC p l s m c D aC b0 own cc nL) (t0 : Nat) {r : vw_C} {n v ci : Nat} {vs : List Value} {f : Nat → Option Nat} {i : Int32} (ht : (zT aC)[t0]? = some (aC t0, .object r.1)) (ha : M a = some (.inl (aC t0, n, .inr (.inr (.inr (.inr f)))))) (hv : M v = some (.inr (ci, vs))) (hc : vwCl[ci]? = some r) (hin : vp_in i n) (hdg : decode cc pc = .ok (.aastore, 1))
    (kk : Z p l e R s m args below meth c D b0 (zup M a (.inl (aC t0, n, .inr (.inr (.inr (.inr (va_up f i.toNatClampNeg (some v)))))))) sz cells slots Q (F0 m (pc + 1) ls rest)) : Z p l e R s m args below meth c D b0 M sz cells slots Q (F0 m pc ls (.ref v :: .int i :: .ref a :: rest)) := by
  obtain ⟨hx, hb, -, hown, -, hK, hg, -⟩ := C
  intro H locs h1 h2 h3
  obtain ⟨hb1, hc1⟩ := h1 a _ ha
  have hlt : i.toNatClampNeg < n := Nat.not_le.mp fun q => hin (Or.inr q)
  have h0 : ¬ i < 0 := fun q => hin (Or.inl q)
  obtain ⟨r', hr', cellV, g1, g2, g3, -⟩ := (h1 v _ hv).2
  have hcls := (hK.1 ci r hc).2
  obtain ⟨kA, comp, k1, k2, k3, -⟩ := (hK.2 t0 _ ht).2
  have hcomp : comp = D.1 ci := Option.some.inj (k3.symm.trans hcls.1)
  subst hcomp
  obtain ⟨kC, hkC, -⟩ := hcls.2
  refine W.aast hx hb hc1 (fun q h => by cases h) (fun h => by cases h) k1 k2 rfl hkC ⟨h0, by show _ < (arrV _ _ _).slots.size; rw [arrV_size]; exact hlt⟩ g1 (fun q h => by rw [g3] at h; cases h) (by rw [g2]; exact hkC) (by rw [g2]; exact va_assign hcls) rfl rfl hdg fun H1 e z oq => ?_
  refine kk H1 _ (h1.set ha ?_ oq) (z.trans h2) (h3.put z oq hb1)
  show H1[a]? = some (vp_cell _ _)
  rw [e, vp_cell_q, vp_cell_q, arrV_store]
  congr 2
  funext q
  by_cases hq : q = i.toNatClampNeg
  · subst hq
    simp [updV, va_up, va_rf]
  · simp [updV, va_up, hq]
end ZR2
end
section
section ZR3
variable {p : Program} {l : Launch} {e : Env} {R : Room} {s : State} {m : MethodId} {args : Array Value} {below : List Frame} {meth : Method} {c : Code} {D : va_G} {aC : Nat → ClassId} {b0 : Nat} {M : ZM} {sz cells slots : Nat} {Q : State → Prop} {own : String} {cc : ByteArray} {nL pc : Nat} {ls : Array Slot} {rest : List Value} {a : Nat}
theorem zS_push {A : Nat → Prop} {H0 H H1 : Heap} {locs : List Loc} (h : va_S A H0 H locs) (hz : H1.size = H.size + 1) (o1 : ∀ q : Nat, q < H.size → H1[q]? = H[q]?) : va_S A H0 H1 locs :=
  ⟨Nat.le_trans h.1 (by omega), fun x h1 h2 => (o1 x (Nat.lt_of_lt_of_le h1 h.1)).trans (h.2.1 x h1 h2), h.2.2⟩
theorem zC.low (C : zC p l s m c D aC b0 own cc nL) {H : Heap} {locs : List Loc} (h : va_S (zA b0) s.heap H locs) : b0 ≤ H.size := Nat.le_trans C.2.2.2.2.2.2.2.2.2 h.1
/-- a class that can be made -/
def zNw (own : String) (idx ci N : Nat) (fs : List Value) : Prop := ∃ (C : String) (T : u_T) (ty : Nat → FieldType), vwCl[ci]? = some (C, T, N) ∧ (∀ w ∈ u_ws C T N, w ∈ zW) ∧ (∀ k, k < N → parseFieldDescriptor (T k).2.2.1 = some (ty k)) ∧ Cond.classLink own idx C ∈ zW ∧ Cond.instantiable C N ∈ zW ∧ Cond.initialized C ∈ zW ∧ ∀ j, j < N → defaultValue (ty j) = vp_V fs j
theorem z_new (C : zC p l s m c D aC b0 own cc nL) {idx ci N : Nat} {fs : List Value} (F : zNw own idx ci N fs) (hcells : cells + 1 ≤ R.cells) (hslots : slots + N ≤ R.slots) (hdg : decode cc pc = .ok (.new idx, 3))
    (kk : Z p l e R s m args below meth c D b0 (zup M sz (.inr (ci, fs))) (sz + 1) (cells + 1) (slots + N) Q (F0 m (pc + 3) ls (.ref sz :: rest))) : Z p l e R s m args below meth c D b0 M sz cells slots Q (F0 m pc ls rest) := by
  intro H locs h1 h2 h3
  have hlow := C.low h3
  obtain ⟨hx, hb, -, hown, -, hK, hg, -⟩ := C
  obtain ⟨Cn, T, ty, hc, hin, hty, hcl, hins, hini, hfs⟩ := F
  have hts : ∀ w ∈ zW, w.before args s = true := fun w hw => zg_w hg hw
  have hKn := hK.1 ci _ hc
  refine W.newcK hx hb hown (hts _ hcl) (hts _ hins) (hts _ hini) rfl hdg hcells hslots hKn.2.1 h2 fun H1 kC hkC e1 z1 o1 => ?_
  subst h2
  exact kk H1 locs (h1.push rfl hlow ⟨_, hc, (u_born ty hts hin hKn hkC e1 hty).to hfs⟩ o1) z1 (zS_push h3 z1 o1)
theorem z_newa (C : zC p l s m c D aC b0 own cc nL) (t0 : Nat) {atype : ArrayType} {n : Int32} {N' : Nat} {a0 : vp_A} (ht : (zT aC)[t0]? = some (aC t0, newarray.typeOf atype)) (hw : Cond.arrayClass (newarray.typeOf atype) ∈ zW) (hpr : ∀ (U : State) (cA : ClassId), va_RA U cA (newarray.typeOf atype) = (U.vm.findClass ("[" ++ (newarray.typeOf atype).toString) = some cA)) (ha : ∀ cA : ClassId, vp_cell cA a0 = arrV cA N' (fun _ => defaultValue (newarray.typeOf atype))) (hn : ¬ n < 0) (hN : n.toNatClampNeg = N') (hbytes : N' * componentBytes (newarray.typeOf atype) ≤ 536870912) (hcells : cells + 1 ≤ R.cells) (hslots : slots + N' ≤ R.slots) (hdg : decode cc pc = .ok (.newarray atype, 2))
    (kk : Z p l e R s m args below meth c D b0 (zup M sz (.inl (aC t0, a0))) (sz + 1) (cells + 1) (slots + N') Q (F0 m (pc + 2) ls (.ref sz :: rest))) : Z p l e R s m args below meth c D b0 M sz cells slots Q (F0 m pc ls (.int n :: rest)) := by
  intro H locs h1 h2 h3
  have hlow := C.low h3
  obtain ⟨hx, hb, -, hown, -, hK, hg, -⟩ := C
  refine va_newaK hx hb (zg_w hg hw) rfl hdg rfl hn hN hbytes hcells hslots h2 fun H1 cA e1 z1 o1 hA hf => ?_
  subst h2
  have hcA : cA = aC t0 := by
    have h9 := (hK.2 t0 _ ht).2
    rw [hpr] at h9
    exact Option.some.inj (hf.symm.trans h9)
  subst hcA
  exact kk H1 locs (h1.push rfl hlow (by show H1[Array.size H]? = some (vp_cell _ _); rw [ha]; exact e1) o1) z1 (zS_push h3 z1 o1)
theorem z_newq (C : zC p l s m c D aC b0 own cc nL) (t0 : Nat) {Cn : String} {idx : Nat} {n : Int32} {N' : Nat} (ht : (zT aC)[t0]? = some (aC t0, .object Cn)) (hC : Cn ∈ [RX1, RX2, RX5]) (hcl : Cond.classLink own idx Cn ∈ zW) (hn : ¬ n < 0) (hN : n.toNatClampNeg = N') (hbytes : N' * 4 ≤ 536870912) (hcells : cells + 1 ≤ R.cells) (hslots : slots + N' ≤ R.slots) (hdg : decode cc pc = .ok (.anewarray idx, 3))
    (kk : Z p l e R s m args below meth c D b0 (zup M sz (.inl (aC t0, N', .inr (.inr (.inr (.inr (fun _ => none))))))) (sz + 1) (cells + 1) (slots + N') Q (F0 m (pc + 3) ls (.ref sz :: rest))) : Z p l e R s m args below meth c D b0 M sz cells slots Q (F0 m pc ls (.int n :: rest)) := by
  intro H locs h1 h2 h3
  have hlow := C.low h3
  obtain ⟨hx, hb, -, hown, -, hK, hg, -⟩ := C
  subst hN
  refine W.anew hx hb hown (zg_w hg hcl) (va_AO.use (hg.2.2.1 Cn hC)) rfl hdg rfl hn hbytes hcells hslots fun cA kA comp f1 f2 f3 f4 => ?_
  subst h2
  have hcA : cA = aC t0 := by
    obtain ⟨_, _, -, -, -, h9⟩ := (hK.2 t0 _ ht).2
    exact Option.some.inj (f1.symm.trans h9)
  subst hcA
  generalize hH1 : H.push ({ cls := aC t0, slots := Array.replicate n.toNatClampNeg .null, vm := .none } : Cell) = H1
  have z1 : H1.size = H.size + 1 := by rw [← hH1, Array.size_push]
  have e1 : H1[H.size]? = some (arrV (aC t0) n.toNatClampNeg (fun _ => .null)) := by rw [← hH1, Array.getElem?_push_size, ← arrV_new]
  have o1 : ∀ q : Nat, q < H.size → H1[q]? = H[q]? := fun q hq => by rw [← hH1, Array.getElem?_push, if_neg (Nat.ne_of_lt hq)]
  exact kk H1 locs (h1.push rfl hlow (by show H1[Array.size H]? = some (vp_cell _ _); rw [vp_cell_q]; exact e1) o1) z1 (zS_push h3 z1 o1)
/-- the pool of a map -/
theorem zM.pool {H : Heap} (h : zM D b0 M H) : ∃ (L : List Nat) (f : Nat → va_E), (∀ q e, M q = some e → q ∈ L ∧ f q = e) ∧ (∀ q ∈ L, b0 ≤ q) ∧ va_P D vwCl ([] ++ va_pl L f) H ∧ va_D (zA b0) ([] ++ va_pl L f) := by
  refine ⟨(List.range H.size).filter (fun q => (M q).isSome), fun q => (M q).getD (.inr (0, [])), fun q e hq => ⟨List.mem_filter.mpr ⟨List.mem_range.mpr (h.lt hq), by rw [hq]; rfl⟩, by simp [hq]⟩, fun q hq => ?_, fun k q hk => ?_, ?_, fun k q hk => ?_⟩
  · obtain ⟨e, he⟩ := Option.isSome_iff_exists.mp (List.mem_filter.mp hq).2
    exact (h q e he).1
  · have hm := List.mem_of_getElem? hk
    rw [List.nil_append, va_pl, List.mem_map] at hm
    obtain ⟨x, hx, rfl⟩ := hm
    obtain ⟨e, he⟩ := Option.isSome_iff_exists.mp (List.mem_filter.mp hx).2
    rw [he]
    exact (h x e he).2
  · intro i j p q hi hj hpq
    rw [List.nil_append, va_pl, List.getElem?_map, Option.map_eq_some_iff] at hi hj
    obtain ⟨x, hx, rfl⟩ := hi
    obtain ⟨y, hy, rfl⟩ := hj
    dsimp only at hpq
    subst hpq
    have hnd : List.Pairwise (fun a b : Nat => a ≠ b) ((List.range H.size).filter (fun q => (M q).isSome)) := List.Pairwise.filter _ List.nodup_range
    obtain ⟨hi1, hi2⟩ := List.getElem?_eq_some_iff.mp hx
    obtain ⟨hj1, hj2⟩ := List.getElem?_eq_some_iff.mp hy
    rcases Nat.lt_trichotomy i j with h9 | h9 | h9
    · exact absurd (hi2.trans hj2.symm) (List.pairwise_iff_getElem.mp hnd i j hi1 hj1 h9)
    · exact h9
    · exact absurd (hj2.trans hi2.symm) (List.pairwise_iff_getElem.mp hnd j i hj1 hi1 h9)
  · have hm := List.mem_of_getElem? hk
    rw [List.nil_append, va_pl, List.mem_map] at hm
    obtain ⟨x, hx, rfl⟩ := hm
    obtain ⟨e, he⟩ := Option.isSome_iff_exists.mp (List.mem_filter.mp hx).2
    exact (h x e he).1
/-- System.arraycopy of ints -/
theorem z_copy (C : zC p l s m c D aC b0 own cc nL) (hml : ls.size = nL) {idx a1 n0 n1 : Nat} {f g : Nat → Int32} {sp dp n : Int32} (hlk : Cond.methodLink own idx arraycopyName ∈ zW) (h0 : M a1 = some (.inl (aC 0, n0, .inl f))) (h1 : M a = some (.inl (aC 0, n1, .inl g))) (k1 : ¬ sp < 0) (k2 : ¬ dp < 0) (k3 : ¬ n < 0) (k4 : sp.toNatClampNeg + n.toNatClampNeg ≤ n0) (k5 : dp.toNatClampNeg + n.toNatClampNeg ≤ n1)
    (hfr : 1 ≤ R.frames) (hlo : (rest.map fun v => v.category).sum + 200 ≤ R.locals) (hdg : decode cc pc = .ok (.invokestatic idx, 3))
    (kk : ∀ sz' : Nat, Z p l e R s m args below meth c D b0 (zup M a (.inl (aC 0, n1, .inl (va_cpy f g sp.toNatClampNeg dp.toNatClampNeg n.toNatClampNeg)))) sz' cells slots Q (F0 m (pc + 3) ls rest)) : Z p l e R s m args below meth c D b0 M sz cells slots Q (F0 m pc ls (.int n :: .int dp :: .ref a :: .int sp :: .ref a1 :: rest)) := by
  obtain ⟨hx, hb, hml2, hown, -, hK, hg, -⟩ := C
  intro H locs q1 q2 q3
  obtain ⟨L, F, hL, hbL, hP, hD⟩ := q1.pool
  obtain ⟨i0, e0⟩ := hL _ _ h0
  obtain ⟨i1, e1⟩ := hL _ _ h1
  obtain ⟨j0, hj0⟩ := va_pl_get (X := []) (f := F) i0
  obtain ⟨j1, hj1⟩ := va_pl_get (X := []) (f := F) i1
  refine va_copyi (D := D) hx hb (hml2.trans hml.symm) hown (zg_w hg hlk) (zg_w hg (w := .native arraycopyName) (by decide +kernel)) (zg_w hg (w := .static arraycopyName) (by decide +kernel)) (zg_w hg (w := .initialized "java/lang/System") (by decide +kernel)) hK hP hD q3 j0 j1 0 0 (hj0.trans (by rw [e0])) (hj1.trans (by rw [e1])) rfl rfl rfl k1 k2 k3 k4 k5 (fun _ _ => rfl) hfr (Nat.le_trans (Nat.add_le_add_left (by decide +kernel) _) hlo) hdg (fun H1 locs1 hP1 hD1 hS1 => ?_)
  rw [va_pl_set hD i1 hj1] at hP1
  refine kk H1.size H1 locs1 (fun q e hq => ?_) rfl hS1
  by_cases hqa : q = a
  · subst hqa
    rw [zup_self] at hq
    cases hq
    obtain ⟨j2, hj2⟩ := va_pl_get (X := []) (f := va_up F q (.inl (aC 0, n1, .inl (va_cpy f g sp.toNatClampNeg dp.toNatClampNeg n.toNatClampNeg)))) i1
    have h9 := hP1 _ _ hj2
    rw [va_up_self] at h9
    exact ⟨hbL _ i1, h9⟩
  · rw [zup_ne _ _ hqa] at hq
    obtain ⟨i2, e2⟩ := hL _ _ hq
    obtain ⟨j2, hj2⟩ := va_pl_get (X := []) (f := va_up F a (.inl (aC 0, n1, .inl (va_cpy f g sp.toNatClampNeg dp.toNatClampNeg n.toNatClampNeg)))) i2
    have h9 := hP1 _ _ hj2
    rw [va_up_ne _ _ hqa, e2] at h9
    exact ⟨hbL _ i2, h9⟩
end ZR3
end
section
section ZR4
variable {p : Program} {l : Launch} {e : Env} {R : Room} {s : State} {m : MethodId} {args : Array Value} {below : List Frame} {meth : Method} {c : Code} {D : va_G} {aC : Nat → ClassId} {b0 : Nat} {M : ZM} {sz cells slots : Nat} {Q : State → Prop} {own : String} {cc : ByteArray} {nL pc : Nat} {ls : Array Slot} {rest : List Value} {a : Nat}
/-- what a call asks of the tables: by the method's own link, or as a nest mate -/
def zLk (own : String) (idx : Nat) (y : MethodName) (cy : ByteArray) (maxL : Nat) (ret : Option FieldType) (n : Nat) : Prop :=
  (y.cls ≠ "java/lang/invoke/MethodHandle" ∧ y.cls ≠ "java/lang/invoke/VarHandle" ∧ (parseMethodDescriptor y.desc).map (fun d => d.parameters.length) = some n) ∧ Cond.code y cy maxL ret ∈ zW ∧ Cond.initialized y.cls ∈ zW ∧ (Cond.methodLink own idx y ∈ zW ∨ ∃ host : String, Cond.methodLinkNest own idx y host ∈ zN)
def zLkV (own : String) (idx : Nat) (y : MethodName) (cy : ByteArray) (maxL : Nat) (ret : Option FieldType) (n : Nat) : Prop := zLk own idx y cy maxL ret n ∧ Cond.instanceMethod y ∈ zW ∧ Cond.selects y.cls y y ∈ zW
def zLkS (own : String) (idx : Nat) (y : MethodName) (cy : ByteArray) (maxL : Nat) (ret : Option FieldType) (n : Nat) : Prop := zLk own idx y cy maxL ret n ∧ Cond.static y ∈ zW
def zLkI (own : String) (idx : Nat) (y : MethodName) (cy : ByteArray) (maxL n : Nat) : Prop := zLk own idx y cy maxL none n ∧ y.name = "<init>" ∧ Cond.instanceMethod y ∈ zW
theorem z_pre (C : zC p l s m c D aC b0 own cc nL) {H : Heap} {locs : List Loc} (h1 : zM D b0 M H) (h2 : H.size = sz) (h3 : va_S (zA b0) s.heap H locs) (av : List Value) : PreS s H (zPc l D aC b0 av M sz) av :=
  ⟨zPc_blind, fun U hU hW => ⟨rfl, zG_to C.2.2.2.2 hW (by rw [hU]; exact h3.1) (fun q a1 a2 => by rw [hU]; exact h3.2.1 q a1 a2), by rw [hU]; exact h1, by rw [hU]; exact h2⟩⟩
theorem z_one {y : MethodName} {cy : ByteArray} {maxL : Nat} {ret : Option FieldType} {ws : List Cond} (hg : zg s) (hc : Cond.code y cy maxL ret ∈ zW) (hw : ws = [.code y cy maxL ret]) : ∀ w ∈ ws, ∀ (a' : Array Value) (U : State), s.WarmedH U.vm → w.before a' U = true := by
  intro w h a' U hW
  rw [hw] at h
  rw [List.mem_singleton.mp h]
  exact word_at hW (good_of_word (zW_good hc)) (hg.1 _ hc)
/-- behind a call that has come back -/
theorem z_back {g0 : JFrame} {mc ms pc' : Nat} {P : Option Value → ZM → Nat → Prop} {H : Heap} {locs : List Loc} {av : Array Value} (h3 : va_S (zA b0) s.heap H locs) (hg0 : g0 = F0 m pc ls g0.stack) (hp : pc' = pc + 3)
    (hr : va_Run p l e R s m args below meth c H locs cells slots mc ms g0 rest (zQc D b0 P av) (zA b0))
    (kk : ∀ (r : Option Value) (M' : ZM) (sz' : Nat), P r M' sz' → Z p l e R s m args below meth c D b0 M' sz' (cells + mc) (slots + ms) Q (F0 m pc' ls (r.toList ++ rest))) : W p l e R s m args below meth c H locs cells slots Q g0 := by
  intro T hT X
  obtain ⟨v, st₀, t, T', L, h0, X', hL, e1, e2, ⟨⟨r, M', sz', hv, hP, hM, hz⟩, hf1, hf2⟩, st⟩ := hr T hT X
  cases hv
  rw [h0] at hf1 hf2
  obtain ⟨t2, a1, b1⟩ := kk v M' sz' hP T'.heap (locs ++ L) (by rw [e1]; exact hM) (by rw [e1]; exact hz)
    ⟨Nat.le_trans h3.1 (by rw [e1]; exact hf1), fun q a1 a2 => by rw [e1, hf2 q (Nat.lt_of_lt_of_le a1 h3.1) a2]; exact h3.2.1 q a1 a2, fun q hq => by
      rcases List.mem_append.mp hq with h | h
      · exact h3.2.2 q h
      · exact hL q h⟩ T' rfl X'
  refine ⟨t2, st t2 ?_, b1⟩
  subst hp
  rw [hg0]
  exact a1
theorem z_callV (C : zC p l s m c D aC b0 own cc nL) (hml : ls.size = nL) {idx : Nat} {y : MethodName} {cy : ByteArray} {maxL n nv mc ms ci : Nat} {ret : Option FieldType} {As fs : List Value} {P : Option Value → ZM → Nat → Prop} {st : List Value} {T : u_T} {N : Nat} (F : zLkV own idx y cy maxL ret n)
    (hM : Ct l D aC b0 y cy maxL ret nv mc ms (.ref a :: As) M sz P) (ha : M a = some (.inr (ci, fs))) (hci : vwCl[ci]? = some (y.cls, T, N)) (hn : As.length = n) (hst : st = As.reverse ++ .ref a :: rest) (hW : (rest.map fun v => v.category).sum ≤ 8)
    (hR : 20 * nv + 21 ≤ R.frames ∧ maxL + (200 * nv + 219) ≤ R.locals ∧ cells + mc ≤ R.cells ∧ slots + ms ≤ R.slots) (hdg : decode cc pc = .ok (.invokevirtual idx, 3))
    (kk : ∀ (r : Option Value) (M' : ZM) (sz' : Nat), P r M' sz' → Z p l e R s m args below meth c D b0 M' sz' (cells + mc) (slots + ms) Q (F0 m (pc + 3) ls (r.toList ++ rest))) : Z p l e R s m args below meth c D b0 M sz cells slots Q (F0 m pc ls st) := by
  intro H locs h1 h2 h3
  have hpre := z_pre C h1 h2 h3 (.ref a :: As)
  obtain ⟨hx, hb, hml2, hown, -, hK, hg, -⟩ := C
  obtain ⟨⟨hd, hcode, hini, hlk⟩, hinst, hsel⟩ := F
  subst hst
  have hts : ∀ w ∈ zW, w.before args s = true := fun w hw => zg_w hg hw
  have hrecv := va_recv (D := D) (cl := vwCl) (tys := zT aC) hK (h1.one ha) hci (q0 := 0) rfl
  have hlen : ∀ sig, parseMethodDescriptor y.desc = some sig → n = sig.parameters.length := fun sig h => by
    have h9 := hd.2.2
    rw [h] at h9
    exact (Option.some.inj h9).symm
  refine z_back (av := (Value.ref a :: As).toArray) h3 rfl rfl ?_ kk
  rcases hlk with hlk | ⟨host, hlk⟩
  · exact va_runV (Ts := zW) ⟨hx, hb, hml2, hown, hts⟩ hM ⟨⟨rfl, rfl, by show 20 * nv + 20 + 1 ≤ _; omega, by show 8 + (maxL + 11) + (200 * nv + 200) ≤ _; omega, z_one hg hcode rfl, List.mem_singleton.mpr rfl, hts _ hcode, hts _ hini, ⟨hd.1, hd.2.1⟩, hlen, hts _ hlk⟩, hts _ hinst, hts _ hsel⟩ ⟨hpre.1, hrecv, hpre.2⟩ rfl hn hml rfl (by show 2 * 0 + _ ≤ 8; omega) hdg ⟨hR.2.2.1, hR.2.2.2⟩
  · exact va_runVN (Ts := zW) ⟨hx, hb, hml2, hown, hts⟩ hM ⟨⟨⟨rfl, rfl, by show 20 * nv + 20 + 1 ≤ _; omega, by show 8 + (maxL + 11) + (200 * nv + 200) ≤ _; omega, z_one hg hcode rfl, List.mem_singleton.mpr rfl⟩, hts _ hcode, hts _ hini, ⟨hd.1, hd.2.1⟩, hlen, zg_n hg hlk⟩, hts _ hinst, hts _ hsel⟩ ⟨hpre.1, hrecv, hpre.2⟩ rfl hn hml rfl (by show 2 * 0 + _ ≤ 8; omega) hdg ⟨hR.2.2.1, hR.2.2.2⟩
theorem z_callS (C : zC p l s m c D aC b0 own cc nL) (hml : ls.size = nL) {idx : Nat} {y : MethodName} {cy : ByteArray} {maxL n nv mc ms : Nat} {ret : Option FieldType} {As : List Value} {P : Option Value → ZM → Nat → Prop} {st : List Value} (F : zLkS own idx y cy maxL ret n)
    (hM : Ct l D aC b0 y cy maxL ret nv mc ms As M sz P) (hn : As.length = n) (hst : st = As.reverse ++ rest) (hW : (rest.map fun v => v.category).sum ≤ 8)
    (hR : 20 * nv + 21 ≤ R.frames ∧ maxL + (200 * nv + 219) ≤ R.locals ∧ cells + mc ≤ R.cells ∧ slots + ms ≤ R.slots) (hdg : decode cc pc = .ok (.invokestatic idx, 3))
    (kk : ∀ (r : Option Value) (M' : ZM) (sz' : Nat), P r M' sz' → Z p l e R s m args below meth c D b0 M' sz' (cells + mc) (slots + ms) Q (F0 m (pc + 3) ls (r.toList ++ rest))) : Z p l e R s m args below meth c D b0 M sz cells slots Q (F0 m pc ls st) := by
  intro H locs h1 h2 h3
  have hpre := z_pre C h1 h2 h3 As
  obtain ⟨hx, hb, hml2, hown, -, hK, hg, -⟩ := C
  obtain ⟨⟨hd, hcode, hini, hlk⟩, hstt⟩ := F
  subst hst
  have hts : ∀ w ∈ zW, w.before args s = true := fun w hw => zg_w hg hw
  have hlen : ∀ sig, parseMethodDescriptor y.desc = some sig → n = sig.parameters.length := fun sig h => by
    have h9 := hd.2.2
    rw [h] at h9
    exact (Option.some.inj h9).symm
  refine z_back (av := As.toArray) h3 rfl rfl ?_ kk
  rcases hlk with hlk | ⟨host, hlk⟩
  · exact va_runS (Ts := zW) ⟨hx, hb, hml2, hown, hts⟩ hM ⟨⟨rfl, rfl, by show 20 * nv + 20 + 1 ≤ _; omega, by show 8 + (maxL + 11) + (200 * nv + 200) ≤ _; omega, z_one hg hcode rfl, List.mem_singleton.mpr rfl, hts _ hcode, hts _ hini, ⟨hd.1, hd.2.1⟩, hlen, hts _ hlk⟩, hts _ hstt⟩ hpre rfl hn hml rfl (by show 2 * 0 + _ ≤ 8; omega) hdg ⟨hR.2.2.1, hR.2.2.2⟩
  · exact va_runSN (Ts := zW) ⟨hx, hb, hml2, hown, hts⟩ hM ⟨⟨⟨rfl, rfl, by show 20 * nv + 20 + 1 ≤ _; omega, by show 8 + (maxL + 11) + (200 * nv + 200) ≤ _; omega, z_one hg hcode rfl, List.mem_singleton.mpr rfl⟩, hts _ hcode, hts _ hini, ⟨hd.1, hd.2.1⟩, hlen, zg_n hg hlk⟩, hts _ hstt, trivial⟩ hpre rfl hn hml rfl (by show 2 * 0 + _ ≤ 8; omega) hdg ⟨hR.2.2.1, hR.2.2.2⟩
theorem z_callI (C : zC p l s m c D aC b0 own cc nL) (hml : ls.size = nL) {idx : Nat} {y : MethodName} {cy : ByteArray} {maxL n nv mc ms : Nat} {As : List Value} {P : Option Value → ZM → Nat → Prop} {st : List Value} (F : zLkI own idx y cy maxL n)
    (hM : Ct l D aC b0 y cy maxL none nv mc ms (.ref a :: As) M sz P) (hn : As.length = n) (hst : st = As.reverse ++ .ref a :: rest) (hW : (rest.map fun v => v.category).sum ≤ 8)
    (hR : 20 * nv + 21 ≤ R.frames ∧ maxL + (200 * nv + 219) ≤ R.locals ∧ cells + mc ≤ R.cells ∧ slots + ms ≤ R.slots) (hdg : decode cc pc = .ok (.invokespecial idx, 3))
    (kk : ∀ (r : Option Value) (M' : ZM) (sz' : Nat), P r M' sz' → Z p l e R s m args below meth c D b0 M' sz' (cells + mc) (slots + ms) Q (F0 m (pc + 3) ls (r.toList ++ rest))) : Z p l e R s m args below meth c D b0 M sz cells slots Q (F0 m pc ls st) := by
  intro H locs h1 h2 h3
  have hpre := z_pre C h1 h2 h3 (.ref a :: As)
  obtain ⟨hx, hb, hml2, hown, -, hK, hg, -⟩ := C
  obtain ⟨⟨hd, hcode, hini, hlk⟩, hyi, hinst⟩ := F
  subst hst
  have hts : ∀ w ∈ zW, w.before args s = true := fun w hw => zg_w hg hw
  have hlen : ∀ sig, parseMethodDescriptor y.desc = some sig → n = sig.parameters.length := fun sig h => by
    have h9 := hd.2.2
    rw [h] at h9
    exact (Option.some.inj h9).symm
  refine z_back (av := (Value.ref a :: As).toArray) h3 rfl rfl ?_ kk
  rcases hlk with hlk | ⟨host, hlk⟩
  · exact va_runI (Ts := zW) ⟨hx, hb, hml2, hown, hts⟩ hM ⟨⟨rfl, rfl, by show 20 * nv + 20 + 1 ≤ _; omega, by show 8 + (maxL + 11) + (200 * nv + 200) ≤ _; omega, z_one hg hcode rfl, List.mem_singleton.mpr rfl, hts _ hcode, hts _ hini, ⟨hd.1, hd.2.1⟩, hlen, hts _ hlk⟩, hyi, hts _ hinst⟩ hpre rfl hn hml rfl (by show 2 * 0 + _ ≤ 8; omega) hdg ⟨hR.2.2.1, hR.2.2.2⟩
  · exact va_runIN (Ts := zW) ⟨hx, hb, hml2, hown, hts⟩ hM ⟨⟨⟨rfl, rfl, by show 20 * nv + 20 + 1 ≤ _; omega, by show 8 + (maxL + 11) + (200 * nv + 200) ≤ _; omega, z_one hg hcode rfl, List.mem_singleton.mpr rfl⟩, hts _ hcode, hts _ hini, ⟨hd.1, hd.2.1⟩, hlen, zg_n hg hlk⟩, hyi, hts _ hinst⟩ hpre rfl hn hml rfl (by show 2 * 0 + _ ≤ 8; omega) hdg ⟨hR.2.2.1, hR.2.2.2⟩
/-- Object.<init> -/
theorem z_obj (C : zC p l s m c D aC b0 own cc nL) (hml : ls.size = nL) {idx : Nat} (hlk : Cond.methodLink own idx objectInit ∈ zW) (hfr : 1 ≤ R.frames) (hlo : (rest.map fun v => v.category).sum + 12 ≤ R.locals) (hdg : decode cc pc = .ok (.invokespecial idx, 3))
    (kk : Z p l e R s m args below meth c D b0 M sz cells slots Q (F0 m (pc + 3) ls rest)) : Z p l e R s m args below meth c D b0 M sz cells slots Q (F0 m pc ls (.ref a :: rest)) := by
  intro H locs h1 h2 h3
  obtain ⟨hx, hb, hml2, hown, -, hK, hg, -⟩ := C
  exact W.objInit hx hb hown (zg_w hg hlk) (zg_w hg (w := .instanceMethod objectInit) (by decide +kernel)) (zg_w hg (w := .code objectInit ⟨#[0xb1]⟩ 1 none) (by decide +kernel)) rfl (by rw [hml2]; exact hml) rfl hdg hfr (by show 2 * 0 + _ + 12 ≤ _; omega) (kk H locs h1 h2 h3)
/-- the ends -/
theorem z_ends {P : Option Value → ZM → Nat → Prop} {v : Option Value} (hp : P v M sz) {H : Heap} {locs : List Loc} (h1 : zM D b0 M H) (h2 : H.size = sz) (h3 : va_S (zA b0) s.heap H locs) : ∀ t : State, t.heap = H → s.WarmedH t.vm → zQc D b0 P args s (.returned v) t :=
  fun t ht _ => ⟨⟨v, M, sz, rfl, hp, by rw [ht]; exact h1, by rw [ht]; exact h2⟩, h3.F ht⟩
theorem z_iret (C : zC p l s m c D aC b0 own cc nL) {P : Option Value → ZM → Nat → Prop} {v : Int32} (hr : meth.sig.returnType = some .int) (hlocks : meth.locks = false) (hdg : decode cc pc = .ok (.ireturn, 1)) (hp : P (some (.int v)) M sz) : Z p l e R s m args below meth c D b0 M sz cells slots (MQ below (zQc D b0 P) args s cells slots (zA b0)) (F0 m pc ls [.int v]) :=
  fun _ _ h1 h2 h3 => W.iret (v := v) C.1 C.2.1 hr (z_ends hp h1 h2 h3) h3.2.2 hdg hlocks
theorem z_zret (C : zC p l s m c D aC b0 own cc nL) {P : Option Value → ZM → Nat → Prop} {v : Int32} (hr : meth.sig.returnType = some .boolean) (hn : narrow .boolean (.int v) = .int v) (hlocks : meth.locks = false) (hdg : decode cc pc = .ok (.ireturn, 1)) (hp : P (some (.int v)) M sz) : Z p l e R s m args below meth c D b0 M sz cells slots (MQ below (zQc D b0 P) args s cells slots (zA b0)) (F0 m pc ls [.int v]) :=
  fun _ _ h1 h2 h3 => W.zret (v := v) C.1 C.2.1 hr hn (z_ends hp h1 h2 h3) h3.2.2 hdg hlocks
theorem z_vret (C : zC p l s m c D aC b0 own cc nL) {P : Option Value → ZM → Nat → Prop} (hr : meth.sig.returnType = none) (hlocks : meth.locks = false) (hdg : decode cc pc = .ok (.return_, 1)) (hp : P none M sz) : Z p l e R s m args below meth c D b0 M sz cells slots (MQ below (zQc D b0 P) args s cells slots (zA b0)) (F0 m pc ls []) :=
  fun _ _ h1 h2 h3 => W.vret C.1 C.2.1 hr (z_ends hp h1 h2 h3) h3.2.2 hdg hlocks
theorem z_aret (C : zC p l s m c D aC b0 own cc nL) {P : Option Value → ZM → Nat → Prop} {n : String} (hr : meth.sig.returnType = some (.object n)) (hlocks : meth.locks = false) (hdg : decode cc pc = .ok (.areturn, 1)) (hp : P (some (.ref a)) M sz) : Z p l e R s m args below meth c D b0 M sz cells slots (MQ below (zQc D b0 P) args s cells slots (zA b0)) (F0 m pc ls [.ref a]) :=
  fun _ _ h1 h2 h3 => W.aret C.1 C.2.1 hr (Or.inl ⟨n, rfl⟩) (Or.inr ⟨a, rfl⟩) (z_ends hp h1 h2 h3) h3.2.2 hdg hlocks
end ZR4
/-- a contract out of the walk of the body -/
theorem Ct.of {l : Launch} {D : va_G} {aC : Nat → ClassId} {b0 : Nat} {y : MethodName} {cc : ByteArray} {maxL : Nat} {ret : Option FieldType} {n mc ms : Nat} {av : List Value} {M : ZM} {sz : Nat} {P : Option Value → ZM → Nat → Prop} (hy : plainName y.cls = true) (hlen : (lg_sl av).length ≤ maxL)
    (body : ∀ (p : Program) (e : Env) (s : State) (m : MethodId) (below : List Frame) (meth : Method) (c : Code) (ls : Array Slot), zC p l s m c D aC b0 y.cls cc maxL → meth.sig.returnType = ret → meth.locks = false → meth.name = y.name → lv_has ls maxL (lv_args 0 av) →
      Z p l e (rz n mc ms) s m av.toArray below meth c D b0 M sz 0 0 (MQ below (zQc D b0 P) av.toArray s mc ms (zA b0)) (F0 m 0 ls [])) : Ct l D aC b0 y cc maxL ret n mc ms av M sz P := by
  refine Met.ofW (cc := cc) (maxL := maxL) (ret := ret) hy rfl ?_
  intro p e s m args below meth c s₁ B hml hv
  obtain ⟨rfl, hG, hM, hz⟩ := hv
  have hl := lv_entry av (n := maxL) hlen
  rw [lg_entry_eq]
  generalize (lg_sl av ++ List.replicate (maxL - (lg_sl av).length) Slot.unset).toArray = ls at hl ⊢
  exact body p e s m below meth c ls ⟨B.exec, B.bytes, hml, findClass_of_methodNamed B.named, hG⟩ B.returns B.notSynchronized (name_of_methodNamed B.named B.method).1 hl s.heap [] hM hz va_S.rf
end
section
/-! methods that return or throw -/
def zXc (D : va_G) (b0 : Nat) (PX : String → ZM → Prop) : String → State → State → Prop := fun E st t => (∃ M' : ZM, PX E M' ∧ zM D b0 M' t.heap) ∧ va_F (zA b0) st t
def CtX (l : Launch) (D : va_G) (aC : Nat → ClassId) (b0 : Nat) (y : MethodName) (cc : ByteArray) (maxL : Nat) (ret : Option FieldType) (n mc ms : Nat) (av : List Value) (M : ZM) (sz : Nat) (P : Option Value → ZM → Nat → Prop) (PX : String → ZM → Prop) : Prop :=
  vx_Met l y [.code y cc maxL ret] (rz n mc ms) (zPc l D aC b0 av M sz) (zQc D b0 P) (zXc D b0 PX) mc ms (zA b0)
section ZR5
variable {p : Program} {l : Launch} {e : Env} {R : Room} {s : State} {m : MethodId} {args : Array Value} {below : List Frame} {meth : Method} {c : Code} {D : va_G} {aC : Nat → ClassId} {b0 : Nat} {M : ZM} {sz cells slots : Nat} {Q : State → Prop} {own : String} {cc : ByteArray} {nL pc : Nat} {ls : Array Slot} {rest : List Value} {a : Nat}
theorem z_ret {g : JFrame} {mc ms : Nat} {P : Option Value → ZM → Nat → Prop} {PX : String → ZM → Prop} (h1 : cells ≤ mc) (h2 : slots ≤ ms) (k : Z p l e R s m args below meth c D b0 M sz mc ms (MQ below (zQc D b0 P) args s mc ms (zA b0)) g) : Z p l e R s m args below meth c D b0 M sz cells slots (vx_MQ below (zQc D b0 P) (zXc D b0 PX) args s mc ms (zA b0)) g :=
  fun H locs a1 a2 a3 => W.widen h1 h2 (vx_ret (k H locs a1 a2 a3))
/-- what a throw asks of the tables -/
def zTh (own : String) (ik is ic : Nat) (cls text : String) : Prop := Bundle.fit cls = true ∧ Cond.classLink own ik cls ∈ zW ∧ Cond.initialized cls ∈ zW ∧ (own, is, text) ∈ zStr ∧ (∀ w ∈ vx_atS own ic cls ["java/lang/RuntimeException", "java/lang/Exception"], w ∈ zW ∨ w ∈ zN) ∧ (∀ w ∈ Cond.classLink own ik cls :: Cond.initialized cls :: vx_atS own ic cls ["java/lang/RuntimeException", "java/lang/Exception"], vx_ot w = true)
theorem z_throw (C : zC p l s m c D aC b0 own cc nL) (hml : ls.size = nL) {ik is ic mc ms : Nat} {cls text : String} {P : Option Value → ZM → Nat → Prop} {PX : String → ZM → Prop} (F : zTh own ik is ic cls text) (hnt : ∀ x ∈ c.exceptionTable.toList, False) (hlocks : meth.locks = false)
    (d0 : decode cc pc = .ok (.new ik, 3)) (d3 : decode cc (pc + 3) = .ok (.dup, 1)) (d4 : decode cc (pc + 4) = .ok (.ldc is, 2)) (d6 : decode cc (pc + 6) = .ok (.invokespecial ic, 3)) (d9 : decode cc (pc + 9) = .ok (.athrow, 1))
    (hR : 5 < R.frames ∧ (rest.map fun v => v.category).sum + 82 ≤ R.locals ∧ cells + 1 ≤ R.cells ∧ slots + 6 ≤ R.slots ∧ cells + 1 ≤ mc ∧ slots + 6 ≤ ms) (hp : PX cls M) :
    Z p l e R s m args below meth c D b0 M sz cells slots (vx_MQ below (zQc D b0 P) (zXc D b0 PX) args s mc ms (zA b0)) (F0 m pc ls rest) := by
  intro H locs h1 h2 h3
  obtain ⟨hx, hb, hml2, hown, hl, hK, hg, hU, hN, hlow⟩ := C
  obtain ⟨f1, f2, f3, f4, f5, f6⟩ := F
  obtain ⟨sa, hsa⟩ := hg.2.2.2.1 _ f4
  refine vx_throwS (text := text) (names := ["java/lang/RuntimeException", "java/lang/Exception"]) (A := zA b0) hx hb hl hown f1 (by decide +kernel) (zg_w hg f2) (zg_w hg f3) hsa (fun w hw => (f5 w hw).elim (fun q => zg_w hg q) (fun q => zg_n hg q)) f6 hU hN h3 (hml.trans hml2.symm) d0 d3 d4 d6 d9 (fun x hx9 => (hnt x hx9).elim) hR.1 (by show _ + 82 ≤ _; exact hR.2.1) hR.2.2.1 hR.2.2.2.1 hlocks (fun t _ t1 t2 => ?_) h3.2.2 hR.2.2.2.2.1 hR.2.2.2.2.2
  refine ⟨⟨M, hp, fun q f hq => ⟨(h1 q f hq).1, (h1 q f hq).2.kept (t2 q (h1.lt hq))⟩⟩, Nat.le_trans h3.1 t1, fun q a1 a2 => ?_⟩
  rw [t2 q (Nat.lt_of_lt_of_le a1 h3.1)]
  exact h3.2.1 q a1 a2
/-- behind a call that has come back, or thrown -/
theorem z_backX {g0 : JFrame} {mc ms pc' : Nat} {P : Option Value → ZM → Nat → Prop} {PX : String → ZM → Prop} {H : Heap} {locs : List Loc} {av : Array Value} (h3 : va_S (zA b0) s.heap H locs) (hg0 : g0 = F0 m pc ls g0.stack) (hp : pc' = pc + 3)
    (hr : vx_Run p l e R s m args below meth c H locs cells slots mc ms g0 rest (zQc D b0 P av) (zXc D b0 PX) (zA b0))
    (kx : ∀ (E : String) (M' : ZM), PX E M' → ∀ (H1 : Heap) (locs1 : List Loc) (q9 : Addr) (ce : Cell), zM D b0 M' H1 → va_S (zA b0) s.heap H1 locs1 → H1[q9]? = some ce → ce.vm = .none → s.vm.findClass E = some ce.cls → vx_W p l e R s m args below meth c H1 locs1 (cells + mc) (slots + ms) Q (F0 m pc ls rest) q9)
    (kk : ∀ (r : Option Value) (M' : ZM) (sz' : Nat), P r M' sz' → Z p l e R s m args below meth c D b0 M' sz' (cells + mc) (slots + ms) Q (F0 m pc' ls (r.toList ++ rest))) : W p l e R s m args below meth c H locs cells slots Q g0 := by
  intro T hT X
  rcases hr T hT X with ⟨v, st₀, t, T', L, h0, X', hL, e1, e2, ⟨⟨r, M', sz', hv, hP, hM, hz⟩, hf1, hf2⟩, st⟩ | ⟨q, st₀, t, T', L, E, ce, h0, X', hL, e1, e2, ⟨⟨M', hPX, hM⟩, hf1, hf2⟩, hce, hcv, hcl, st⟩
  · cases hv
    rw [h0] at hf1 hf2
    obtain ⟨t2, a1, b1⟩ := kk v M' sz' hP T'.heap (locs ++ L) (by rw [e1]; exact hM) (by rw [e1]; exact hz)
      ⟨Nat.le_trans h3.1 (by rw [e1]; exact hf1), fun q a1 a2 => by rw [e1, hf2 q (Nat.lt_of_lt_of_le a1 h3.1) a2]; exact h3.2.1 q a1 a2, fun q hq => by
        rcases List.mem_append.mp hq with h | h
        · exact h3.2.2 q h
        · exact hL q h⟩ T' rfl X'
    refine ⟨t2, st t2 ?_, b1⟩
    subst hp
    rw [hg0]
    exact a1
  · rw [h0] at hf1 hf2
    obtain ⟨t2, a1, b1⟩ := kx E M' hPX T'.heap (locs ++ L) q ce (by rw [e1]; exact hM)
      ⟨Nat.le_trans h3.1 (by rw [e1]; exact hf1), fun q a1 a2 => by rw [e1, hf2 q (Nat.lt_of_lt_of_le a1 h3.1) a2]; exact h3.2.1 q a1 a2, fun q hq => by
        rcases List.mem_append.mp hq with h | h
        · exact h3.2.2 q h
        · exact hL q h⟩ (by rw [e1]; exact hce) hcv hcl T' rfl X'
    refine ⟨t2, st.trans ?_, b1⟩
    rw [hg0]
    exact a1
/-- .. what is thrown goes on to the caller -/
theorem z_out {mc ms : Nat} {P : Option Value → ZM → Nat → Prop} {PX : String → ZM → Prop} {E : String} {M' : ZM} (hnt : ∀ x ∈ c.exceptionTable.toList, False) (hlocks : meth.locks = false) (hc : cells ≤ mc) (hs : slots ≤ ms) (hp : PX E M') {H1 : Heap} {locs1 : List Loc} {q9 : Addr} {ce : Cell} (h1 : zM D b0 M' H1) (h3 : va_S (zA b0) s.heap H1 locs1) (hce : H1[q9]? = some ce) (hcv : ce.vm = .none) (hcl : s.vm.findClass E = some ce.cls) :
    vx_W p l e R s m args below meth c H1 locs1 cells slots (vx_MQ below (zQc D b0 P) (zXc D b0 PX) args s mc ms (zA b0)) (F0 m pc ls rest) q9 :=
  vx_out (fun x hx9 => (hnt x hx9).elim) hlocks hce hcv hcl (fun t ht _ => ⟨⟨M', hp, by rw [ht]; exact h1⟩, h3.F ht⟩) h3.2.2 hc hs
theorem z_callVX (C : zC p l s m c D aC b0 own cc nL) (hml : ls.size = nL) {idx : Nat} {y : MethodName} {cy : ByteArray} {maxL n nv mc ms ci : Nat} {ret : Option FieldType} {As fs : List Value} {P : Option Value → ZM → Nat → Prop} {PX : String → ZM → Prop} {st : List Value} {T : u_T} {N : Nat} (F : zLkV own idx y cy maxL ret n) (hlk : Cond.methodLink own idx y ∈ zW)
    (hM : CtX l D aC b0 y cy maxL ret nv mc ms (.ref a :: As) M sz P PX) (ha : M a = some (.inr (ci, fs))) (hci : vwCl[ci]? = some (y.cls, T, N)) (hn : As.length = n) (hst : st = As.reverse ++ .ref a :: rest) (hW : (rest.map fun v => v.category).sum ≤ 8)
    (hR : 20 * nv + 21 ≤ R.frames ∧ maxL + (200 * nv + 219) ≤ R.locals ∧ cells + mc ≤ R.cells ∧ slots + ms ≤ R.slots) (hdg : decode cc pc = .ok (.invokevirtual idx, 3))
    (kx : ∀ (E : String) (M' : ZM), PX E M' → ∀ (H1 : Heap) (locs1 : List Loc) (q9 : Addr) (ce : Cell), zM D b0 M' H1 → va_S (zA b0) s.heap H1 locs1 → H1[q9]? = some ce → ce.vm = .none → s.vm.findClass E = some ce.cls → vx_W p l e R s m args below meth c H1 locs1 (cells + mc) (slots + ms) Q (F0 m pc ls rest) q9)
    (kk : ∀ (r : Option Value) (M' : ZM) (sz' : Nat), P r M' sz' → Z p l e R s m args below meth c D b0 M' sz' (cells + mc) (slots + ms) Q (F0 m (pc + 3) ls (r.toList ++ rest))) : Z p l e R s m args below meth c D b0 M sz cells slots Q (F0 m pc ls st) := by
  intro H locs h1 h2 h3
  have hpre := z_pre C h1 h2 h3 (.ref a :: As)
  obtain ⟨hx, hb, hml2, hown, -, hK, hg, -⟩ := C
  obtain ⟨⟨hd, hcode, hini, -⟩, hinst, hsel⟩ := F
  subst hst
  have hts : ∀ w ∈ zW, w.before args s = true := fun w hw => zg_w hg hw
  have hrecv := va_recv (D := D) (cl := vwCl) (tys := zT aC) hK (h1.one ha) hci (q0 := 0) rfl
  have hlen : ∀ sig, parseMethodDescriptor y.desc = some sig → n = sig.parameters.length := fun sig h => by
    have h9 := hd.2.2
    rw [h] at h9
    exact (Option.some.inj h9).symm
  refine z_backX (av := (Value.ref a :: As).toArray) h3 rfl rfl ?_ kx kk
  exact vx_runV (Ts := zW) ⟨hx, hb, hml2, hown, hts⟩ hM ⟨⟨rfl, rfl, by show 20 * nv + 20 + 1 ≤ _; omega, by show 8 + (maxL + 11) + (200 * nv + 200) ≤ _; omega, z_one hg hcode rfl, List.mem_singleton.mpr rfl, hts _ hcode, hts _ hini, ⟨hd.1, hd.2.1⟩, hlen, hts _ hlk⟩, hts _ hinst, hts _ hsel⟩ ⟨hpre.1, hrecv, hpre.2⟩ rfl hn hml rfl (by show 2 * 0 + _ ≤ 8; omega) hdg ⟨hR.2.2.1, hR.2.2.2⟩
end ZR5
theorem CtX.of {l : Launch} {D : va_G} {aC : Nat → ClassId} {b0 : Nat} {y : MethodName} {cc : ByteArray} {maxL : Nat} {ret : Option FieldType} {n mc ms : Nat} {av : List Value} {M : ZM} {sz : Nat} {P : Option Value → ZM → Nat → Prop} {PX : String → ZM → Prop} (hy : plainName y.cls = true) (hlen : (lg_sl av).length ≤ maxL)
    (body : ∀ (p : Program) (e : Env) (s : State) (m : MethodId) (below : List Frame) (meth : Method) (c : Code) (ls : Array Slot), zC p l s m c D aC b0 y.cls cc maxL → meth.sig.returnType = ret → meth.locks = false → (∀ x ∈ c.exceptionTable.toList, False) → lv_has ls maxL (lv_args 0 av) →
      Z p l e (rz n mc ms) s m av.toArray below meth c D b0 M sz 0 0 (vx_MQ below (zQc D b0 P) (zXc D b0 PX) av.toArray s mc ms (zA b0)) (F0 m 0 ls [])) : CtX l D aC b0 y cc maxL ret n mc ms av M sz P PX := by
  refine vx_ofW (cc := cc) (maxL := maxL) (ret := ret) hy rfl ?_
  intro p e s m args below meth c s₁ B hml hnt hv
  obtain ⟨rfl, hG, hM, hz⟩ := hv
  have hl := lv_entry av (n := maxL) hlen
  rw [lg_entry_eq]
  generalize (lg_sl av ++ List.replicate (maxL - (lg_sl av).length) Slot.unset).toArray = ls at hl ⊢
  exact body p e s m below meth c ls ⟨B.exec, B.bytes, hml, findClass_of_methodNamed B.named, hG⟩ B.returns B.notSynchronized hnt hl s.heap [] hM hz va_S.rf
end

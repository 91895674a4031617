section
theorem dX8_init_21 : decode cX8_init 21 = .ok (.putfield 18, 3) := by decide +kernel
theorem dX8_init_24 : decode cX8_init 24 = .ok (.aload_n 0, 1) := by decide +kernel
theorem dX8_init_25 : decode cX8_init 25 = .ok (.aload_n 0, 1) := by decide +kernel
theorem dX8_init_26 : decode cX8_init 26 = .ok (.getfield 18, 3) := by decide +kernel
theorem dX8_init_29 : decode cX8_init 29 = .ok (.getfield 22, 3) := by decide +kernel
theorem dX8_init_32 : decode cX8_init 32 = .ok (.putfield 26, 3) := by decide +kernel
theorem dX8_init_35 : decode cX8_init 35 = .ok (.aload_n 0, 1) := by decide +kernel
theorem dX8_init_36 : decode cX8_init 36 = .ok (.new 27, 3) := by decide +kernel
theorem dX8_init_39 : decode cX8_init 39 = .ok (.dup, 1) := by decide +kernel
theorem dX8_init_40 : decode cX8_init 40 = .ok (.invokespecial 29, 3) := by decide +kernel
theorem dX8_init_43 : decode cX8_init 43 = .ok (.putfield 30, 3) := by decide +kernel
theorem dX8_init_46 : decode cX8_init 46 = .ok (.aload_n 0, 1) := by decide +kernel
theorem dX8_init_47 : decode cX8_init 47 = .ok (.new 33, 3) := by decide +kernel
theorem dX8_init_50 : decode cX8_init 50 = .ok (.dup, 1) := by decide +kernel
theorem dX8_init_51 : decode cX8_init 51 = .ok (.invokespecial 35, 3) := by decide +kernel
theorem dX8_init_54 : decode cX8_init 54 = .ok (.putfield 36, 3) := by decide +kernel
theorem dX8_init_57 : decode cX8_init 57 = .ok (.aload_n 0, 1) := by decide +kernel
theorem dX8_init_58 : decode cX8_init 58 = .ok (.iconst 0, 1) := by decide +kernel
theorem dX8_init_59 : decode cX8_init 59 = .ok (.putfield 40, 3) := by decide +kernel
theorem dX8_init_62 : decode cX8_init 62 = .ok (.aload_n 0, 1) := by decide +kernel
theorem dX8_init_63 : decode cX8_init 63 = .ok (.iconst (-1), 1) := by decide +kernel
theorem dX8_init_64 : decode cX8_init 64 = .ok (.putfield 44, 3) := by decide +kernel
theorem dX8_init_67 : decode cX8_init 67 = .ok (.aload_n 0, 1) := by decide +kernel
theorem dX8_init_68 : decode cX8_init 68 = .ok (.iconst 0, 1) := by decide +kernel
theorem dX8_init_69 : decode cX8_init 69 = .ok (.putfield 47, 3) := by decide +kernel
theorem dX8_init_72 : decode cX8_init 72 = .ok (.iconst 0, 1) := by decide +kernel
theorem dX8_init_73 : decode cX8_init 73 = .ok (.istore_n 1, 1) := by decide +kernel
theorem dX8_init_74 : decode cX8_init 74 = .ok (.iload_n 1, 1) := by decide +kernel
theorem dX8_init_75 : decode cX8_init 75 = .ok (.bipush 12, 2) := by decide +kernel
theorem dX8_init_77 : decode cX8_init 77 = .ok (.if_icmp .ge 22, 3) := by decide +kernel
theorem dX8_init_80 : decode cX8_init 80 = .ok (.aload_n 0, 1) := by decide +kernel
theorem dX8_init_81 : decode cX8_init 81 = .ok (.getfield 11, 3) := by decide +kernel
theorem dX8_init_84 : decode cX8_init 84 = .ok (.iload_n 1, 1) := by decide +kernel
theorem dX8_init_85 : decode cX8_init 85 = .ok (.new 9, 3) := by decide +kernel
theorem dX8_init_88 : decode cX8_init 88 = .ok (.dup, 1) := by decide +kernel
theorem dX8_init_89 : decode cX8_init 89 = .ok (.invokespecial 50, 3) := by decide +kernel
theorem dX8_init_92 : decode cX8_init 92 = .ok (.aastore, 1) := by decide +kernel
theorem dX8_init_93 : decode cX8_init 93 = .ok (.iinc 1 1, 3) := by decide +kernel
theorem dX8_init_96 : decode cX8_init 96 = .ok (.goto (-22), 3) := by decide +kernel
theorem dX8_init_99 : decode cX8_init 99 = .ok (.return_, 1) := by decide +kernel
theorem dX8_step_0 : decode cX8_step 0 = .ok (.iload_n 1, 1) := by decide +kernel
theorem dX8_step_1 : decode cX8_step 1 = .ok (.ifCond .lt 25, 3) := by decide +kernel
theorem dX8_step_4 : decode cX8_step 4 = .ok (.iload_n 1, 1) := by decide +kernel
theorem dX8_step_5 : decode cX8_step 5 = .ok (.bipush 9, 2) := by decide +kernel
theorem dX8_step_7 : decode cX8_step 7 = .ok (.if_icmp .gt 19, 3) := by decide +kernel
theorem dX8_step_10 : decode cX8_step 10 = .ok (.iload_n 1, 1) := by decide +kernel
theorem dX8_step_11 : decode cX8_step 11 = .ok (.iload_n 2, 1) := by decide +kernel
theorem dX8_step_12 : decode cX8_step 12 = .ok (.invokestatic 51, 3) := by decide +kernel
theorem dX8_step_15 : decode cX8_step 15 = .ok (.ifCond .eq 11, 3) := by decide +kernel
theorem dX8_step_18 : decode cX8_step 18 = .ok (.iload_n 1, 1) := by decide +kernel
theorem dX8_step_19 : decode cX8_step 19 = .ok (.iload_n 3, 1) := by decide +kernel
theorem dX8_step_20 : decode cX8_step 20 = .ok (.invokestatic 55, 3) := by decide +kernel
theorem dX8_step_23 : decode cX8_step 23 = .ok (.ifCond .ne 13, 3) := by decide +kernel
theorem dX8_step_26 : decode cX8_step 26 = .ok (.new 58, 3) := by decide +kernel
theorem dX8_step_29 : decode cX8_step 29 = .ok (.dup, 1) := by decide +kernel
theorem dX8_step_30 : decode cX8_step 30 = .ok (.ldc 60, 2) := by decide +kernel
theorem dX8_step_32 : decode cX8_step 32 = .ok (.invokespecial 62, 3) := by decide +kernel
theorem dX8_step_35 : decode cX8_step 35 = .ok (.athrow, 1) := by decide +kernel
theorem dX8_step_36 : decode cX8_step 36 = .ok (.aload_n 0, 1) := by decide +kernel
theorem dX8_step_37 : decode cX8_step 37 = .ok (.getfield 40, 3) := by decide +kernel
theorem dX8_step_40 : decode cX8_step 40 = .ok (.bipush 12, 2) := by decide +kernel
theorem dX8_step_42 : decode cX8_step 42 = .ok (.if_icmp .lt 13, 3) := by decide +kernel
theorem dX8_step_45 : decode cX8_step 45 = .ok (.new 65, 3) := by decide +kernel
theorem dX8_step_48 : decode cX8_step 48 = .ok (.dup, 1) := by decide +kernel
theorem dX8_step_49 : decode cX8_step 49 = .ok (.ldc 67, 2) := by decide +kernel
theorem dX8_step_51 : decode cX8_step 51 = .ok (.invokespecial 69, 3) := by decide +kernel
theorem dX8_step_54 : decode cX8_step 54 = .ok (.athrow, 1) := by decide +kernel
theorem dX8_step_55 : decode cX8_step 55 = .ok (.aload_n 0, 1) := by decide +kernel
theorem dX8_step_56 : decode cX8_step 56 = .ok (.getfield 11, 3) := by decide +kernel
theorem dX8_step_59 : decode cX8_step 59 = .ok (.aload_n 0, 1) := by decide +kernel
theorem dX8_step_60 : decode cX8_step 60 = .ok (.getfield 40, 3) := by decide +kernel
theorem dX8_step_63 : decode cX8_step 63 = .ok (.aaload, 1) := by decide +kernel
theorem dX8_step_64 : decode cX8_step 64 = .ok (.iload_n 1, 1) := by decide +kernel
theorem dX8_step_65 : decode cX8_step 65 = .ok (.iload_n 1, 1) := by decide +kernel
theorem dX8_step_66 : decode cX8_step 66 = .ok (.invokestatic 70, 3) := by decide +kernel
theorem dX8_step_69 : decode cX8_step 69 = .ok (.ifCond .eq 7, 3) := by decide +kernel
theorem dX8_step_72 : decode cX8_step 72 = .ok (.iload_n 2, 1) := by decide +kernel
theorem dX8_step_73 : decode cX8_step 73 = .ok (.goto 4, 3) := by decide +kernel
theorem dX8_step_76 : decode cX8_step 76 = .ok (.iconst 0, 1) := by decide +kernel
theorem dX8_step_77 : decode cX8_step 77 = .ok (.iload_n 3, 1) := by decide +kernel
theorem dX8_step_78 : decode cX8_step 78 = .ok (.invokevirtual 74, 3) := by decide +kernel
theorem dX8_step_81 : decode cX8_step 81 = .ok (.aload_n 0, 1) := by decide +kernel
theorem dX8_step_82 : decode cX8_step 82 = .ok (.dup, 1) := by decide +kernel
theorem dX8_step_83 : decode cX8_step 83 = .ok (.getfield 40, 3) := by decide +kernel
theorem dX8_step_86 : decode cX8_step 86 = .ok (.iconst 1, 1) := by decide +kernel
theorem dX8_step_87 : decode cX8_step 87 = .ok (.iadd, 1) := by decide +kernel
theorem dX8_step_88 : decode cX8_step 88 = .ok (.putfield 40, 3) := by decide +kernel
theorem dX8_step_91 : decode cX8_step 91 = .ok (.aload_n 0, 1) := by decide +kernel
theorem dX8_step_92 : decode cX8_step 92 = .ok (.getfield 40, 3) := by decide +kernel
theorem dX8_step_95 : decode cX8_step 95 = .ok (.iconst 1, 1) := by decide +kernel
theorem dX8_step_96 : decode cX8_step 96 = .ok (.isub, 1) := by decide +kernel
theorem dX8_step_97 : decode cX8_step 97 = .ok (.ireturn, 1) := by decide +kernel
theorem dX8_silent_0 : decode cX8_silent 0 = .ok (.aload_n 0, 1) := by decide +kernel
theorem dX8_silent_1 : decode cX8_silent 1 = .ok (.iload_n 1, 1) := by decide +kernel
theorem dX8_silent_2 : decode cX8_silent 2 = .ok (.invokevirtual 78, 3) := by decide +kernel
theorem dX8_silent_5 : decode cX8_silent 5 = .ok (.astore_n 3, 1) := by decide +kernel
theorem dX8_silent_6 : decode cX8_silent 6 = .ok (.aload_n 3, 1) := by decide +kernel
theorem dX8_silent_7 : decode cX8_silent 7 = .ok (.getfield 82, 3) := by decide +kernel
theorem dX8_silent_10 : decode cX8_silent 10 = .ok (.istore 4, 2) := by decide +kernel
theorem dX8_silent_12 : decode cX8_silent 12 = .ok (.aload_n 3, 1) := by decide +kernel
theorem dX8_silent_13 : decode cX8_silent 13 = .ok (.iload_n 2, 1) := by decide +kernel
theorem dX8_silent_14 : decode cX8_silent 14 = .ok (.putfield 82, 3) := by decide +kernel
theorem dX8_silent_17 : decode cX8_silent 17 = .ok (.iload 4, 2) := by decide +kernel
theorem dX8_silent_19 : decode cX8_silent 19 = .ok (.ireturn, 1) := by decide +kernel
theorem dX8_template_0 : decode cX8_template 0 = .ok (.aload_n 0, 1) := by decide +kernel
theorem dX8_template_1 : decode cX8_template 1 = .ok (.iload_n 1, 1) := by decide +kernel
theorem dX8_template_2 : decode cX8_template 2 = .ok (.invokevirtual 78, 3) := by decide +kernel
theorem dX8_template_5 : decode cX8_template 5 = .ok (.astore 6, 2) := by decide +kernel
theorem dX8_template_7 : decode cX8_template 7 = .ok (.aload 6, 2) := by decide +kernel
theorem dX8_template_9 : decode cX8_template 9 = .ok (.getfield 86, 3) := by decide +kernel
theorem dX8_template_12 : decode cX8_template 12 = .ok (.istore 7, 2) := by decide +kernel
theorem dX8_template_14 : decode cX8_template 14 = .ok (.iload 7, 2) := by decide +kernel
theorem dX8_template_16 : decode cX8_template 16 = .ok (.iload 5, 2) := by decide +kernel
theorem dX8_template_18 : decode cX8_template 18 = .ok (.invokestatic 89, 3) := by decide +kernel
theorem dX8_template_21 : decode cX8_template 21 = .ok (.ifCond .eq 44, 3) := by decide +kernel
theorem dX8_template_24 : decode cX8_template 24 = .ok (.iload 7, 2) := by decide +kernel
theorem dX8_template_26 : decode cX8_template 26 = .ok (.iload 5, 2) := by decide +kernel
theorem dX8_template_28 : decode cX8_template 28 = .ok (.iload_n 2, 1) := by decide +kernel
theorem dX8_template_29 : decode cX8_template 29 = .ok (.invokestatic 93, 3) := by decide +kernel
theorem dX8_template_32 : decode cX8_template 32 = .ok (.ifCond .eq 33, 3) := by decide +kernel
theorem dX8_template_35 : decode cX8_template 35 = .ok (.iload_n 3, 1) := by decide +kernel
theorem dX8_template_36 : decode cX8_template 36 = .ok (.invokestatic 97, 3) := by decide +kernel
theorem dX8_template_39 : decode cX8_template 39 = .ok (.ifCond .ne 26, 3) := by decide +kernel
theorem dX8_template_42 : decode cX8_template 42 = .ok (.iload 7, 2) := by decide +kernel
theorem dX8_template_44 : decode cX8_template 44 = .ok (.iload 5, 2) := by decide +kernel
theorem dX8_template_46 : decode cX8_template 46 = .ok (.iload_n 3, 1) := by decide +kernel
theorem dX8_template_47 : decode cX8_template 47 = .ok (.invokestatic 93, 3) := by decide +kernel
theorem dX8_template_50 : decode cX8_template 50 = .ok (.ifCond .eq 15, 3) := by decide +kernel
theorem dX8_template_53 : decode cX8_template 53 = .ok (.iload 7, 2) := by decide +kernel
theorem dX8_template_55 : decode cX8_template 55 = .ok (.iload 5, 2) := by decide +kernel
theorem dX8_template_57 : decode cX8_template 57 = .ok (.iload 4, 2) := by decide +kernel
theorem dX8_template_59 : decode cX8_template 59 = .ok (.invokestatic 93, 3) := by decide +kernel
theorem dX8_template_62 : decode cX8_template 62 = .ok (.ifCond .ne 13, 3) := by decide +kernel
theorem dX8_template_65 : decode cX8_template 65 = .ok (.new 58, 3) := by decide +kernel
theorem dX8_template_68 : decode cX8_template 68 = .ok (.dup, 1) := by decide +kernel
theorem dX8_template_69 : decode cX8_template 69 = .ok (.ldc 100, 2) := by decide +kernel
theorem dX8_template_71 : decode cX8_template 71 = .ok (.invokespecial 62, 3) := by decide +kernel
theorem dX8_template_74 : decode cX8_template 74 = .ok (.athrow, 1) := by decide +kernel
theorem dX8_template_75 : decode cX8_template 75 = .ok (.aload 6, 2) := by decide +kernel
theorem dX8_template_77 : decode cX8_template 77 = .ok (.getfield 102, 3) := by decide +kernel
theorem dX8_template_80 : decode cX8_template 80 = .ok (.invokevirtual 106, 3) := by decide +kernel
theorem dX8_template_83 : decode cX8_template 83 = .ok (.ifCond .eq 13, 3) := by decide +kernel
theorem dX8_template_86 : decode cX8_template 86 = .ok (.new 65, 3) := by decide +kernel
theorem dX8_template_89 : decode cX8_template 89 = .ok (.dup, 1) := by decide +kernel
theorem dX8_template_90 : decode cX8_template 90 = .ok (.ldc 112, 2) := by decide +kernel
theorem dX8_template_92 : decode cX8_template 92 = .ok (.invokespecial 69, 3) := by decide +kernel
theorem dX8_template_95 : decode cX8_template 95 = .ok (.athrow, 1) := by decide +kernel
theorem dX8_template_96 : decode cX8_template 96 = .ok (.aload 6, 2) := by decide +kernel
theorem dX8_template_98 : decode cX8_template 98 = .ok (.iload_n 2, 1) := by decide +kernel
theorem dX8_template_99 : decode cX8_template 99 = .ok (.iload_n 3, 1) := by decide +kernel
theorem dX8_template_100 : decode cX8_template 100 = .ok (.iload 4, 2) := by decide +kernel
theorem dX8_template_102 : decode cX8_template 102 = .ok (.iload 5, 2) := by decide +kernel
theorem dX8_template_104 : decode cX8_template 104 = .ok (.invokevirtual 114, 3) := by decide +kernel
theorem dX8_template_107 : decode cX8_template 107 = .ok (.ireturn, 1) := by decide +kernel
theorem dX8_pattern_0 : decode cX8_pattern 0 = .ok (.aload_n 0, 1) := by decide +kernel
theorem dX8_pattern_1 : decode cX8_pattern 1 = .ok (.iload_n 1, 1) := by decide +kernel
theorem dX8_pattern_2 : decode cX8_pattern 2 = .ok (.invokevirtual 78, 3) := by decide +kernel
theorem dX8_pattern_5 : decode cX8_pattern 5 = .ok (.astore 5, 2) := by decide +kernel
theorem dX8_pattern_7 : decode cX8_pattern 7 = .ok (.aload 5, 2) := by decide +kernel
theorem dX8_pattern_9 : decode cX8_pattern 9 = .ok (.getfield 86, 3) := by decide +kernel
theorem dX8_pattern_12 : decode cX8_pattern 12 = .ok (.iconst 2, 1) := by decide +kernel
theorem dX8_pattern_13 : decode cX8_pattern 13 = .ok (.if_icmp .ne 25, 3) := by decide +kernel
theorem dX8_pattern_16 : decode cX8_pattern 16 = .ok (.iload_n 2, 1) := by decide +kernel
theorem dX8_pattern_17 : decode cX8_pattern 17 = .ok (.invokestatic 118, 3) := by decide +kernel
theorem dX8_pattern_20 : decode cX8_pattern 20 = .ok (.ifCond .eq 18, 3) := by decide +kernel
theorem dX8_pattern_23 : decode cX8_pattern 23 = .ok (.iload_n 3, 1) := by decide +kernel
theorem dX8_pattern_24 : decode cX8_pattern 24 = .ok (.invokestatic 118, 3) := by decide +kernel
theorem dX8_pattern_27 : decode cX8_pattern 27 = .ok (.ifCond .eq 11, 3) := by decide +kernel
theorem dX8_pattern_30 : decode cX8_pattern 30 = .ok (.iload 4, 2) := by decide +kernel
theorem dX8_pattern_32 : decode cX8_pattern 32 = .ok (.invokestatic 118, 3) := by decide +kernel
theorem dX8_pattern_35 : decode cX8_pattern 35 = .ok (.ifCond .ne 13, 3) := by decide +kernel
theorem dX8_pattern_38 : decode cX8_pattern 38 = .ok (.new 58, 3) := by decide +kernel
theorem dX8_pattern_41 : decode cX8_pattern 41 = .ok (.dup, 1) := by decide +kernel
theorem dX8_pattern_42 : decode cX8_pattern 42 = .ok (.ldc 121, 2) := by decide +kernel
theorem dX8_pattern_44 : decode cX8_pattern 44 = .ok (.invokespecial 62, 3) := by decide +kernel
theorem dX8_pattern_47 : decode cX8_pattern 47 = .ok (.athrow, 1) := by decide +kernel
theorem dX8_pattern_48 : decode cX8_pattern 48 = .ok (.aload 5, 2) := by decide +kernel
theorem dX8_pattern_50 : decode cX8_pattern 50 = .ok (.getfield 123, 3) := by decide +kernel
theorem dX8_pattern_53 : decode cX8_pattern 53 = .ok (.invokevirtual 106, 3) := by decide +kernel
theorem dX8_pattern_56 : decode cX8_pattern 56 = .ok (.ifCond .eq 13, 3) := by decide +kernel
theorem dX8_pattern_59 : decode cX8_pattern 59 = .ok (.new 65, 3) := by decide +kernel
theorem dX8_pattern_62 : decode cX8_pattern 62 = .ok (.dup, 1) := by decide +kernel
theorem dX8_pattern_63 : decode cX8_pattern 63 = .ok (.ldc 126, 2) := by decide +kernel
theorem dX8_pattern_65 : decode cX8_pattern 65 = .ok (.invokespecial 69, 3) := by decide +kernel
theorem dX8_pattern_68 : decode cX8_pattern 68 = .ok (.athrow, 1) := by decide +kernel
theorem dX8_pattern_69 : decode cX8_pattern 69 = .ok (.aload 5, 2) := by decide +kernel
theorem dX8_pattern_71 : decode cX8_pattern 71 = .ok (.getfield 123, 3) := by decide +kernel
theorem dX8_pattern_74 : decode cX8_pattern 74 = .ok (.iload_n 2, 1) := by decide +kernel
theorem dX8_pattern_75 : decode cX8_pattern 75 = .ok (.iload_n 3, 1) := by decide +kernel
theorem dX8_pattern_76 : decode cX8_pattern 76 = .ok (.iload 4, 2) := by decide +kernel
theorem dX8_pattern_78 : decode cX8_pattern 78 = .ok (.invokevirtual 128, 3) := by decide +kernel
theorem dX8_pattern_81 : decode cX8_pattern 81 = .ok (.ireturn, 1) := by decide +kernel
theorem dX8_file_0 : decode cX8_file 0 = .ok (.aload_n 0, 1) := by decide +kernel
theorem dX8_file_1 : decode cX8_file 1 = .ok (.iload_n 1, 1) := by decide +kernel
theorem dX8_file_2 : decode cX8_file 2 = .ok (.invokevirtual 132, 3) := by decide +kernel
theorem dX8_file_5 : decode cX8_file 5 = .ok (.astore 5, 2) := by decide +kernel
theorem dX8_file_7 : decode cX8_file 7 = .ok (.iload_n 2, 1) := by decide +kernel
theorem dX8_file_8 : decode cX8_file 8 = .ok (.invokestatic 136, 3) := by decide +kernel
theorem dX8_file_11 : decode cX8_file 11 = .ok (.ifCond .eq 18, 3) := by decide +kernel
theorem dX8_file_14 : decode cX8_file 14 = .ok (.iload_n 3, 1) := by decide +kernel
theorem dX8_file_15 : decode cX8_file 15 = .ok (.invokestatic 136, 3) := by decide +kernel
theorem dX8_file_18 : decode cX8_file 18 = .ok (.ifCond .eq 11, 3) := by decide +kernel
theorem dX8_file_21 : decode cX8_file 21 = .ok (.iload 4, 2) := by decide +kernel
theorem dX8_file_23 : decode cX8_file 23 = .ok (.invokestatic 136, 3) := by decide +kernel
theorem dX8_file_26 : decode cX8_file 26 = .ok (.ifCond .ne 13, 3) := by decide +kernel
theorem dX8_file_29 : decode cX8_file 29 = .ok (.new 58, 3) := by decide +kernel
theorem dX8_file_32 : decode cX8_file 32 = .ok (.dup, 1) := by decide +kernel
theorem dX8_file_33 : decode cX8_file 33 = .ok (.ldc 139, 2) := by decide +kernel
theorem dX8_file_35 : decode cX8_file 35 = .ok (.invokespecial 62, 3) := by decide +kernel
theorem dX8_file_38 : decode cX8_file 38 = .ok (.athrow, 1) := by decide +kernel
theorem dX8_file_39 : decode cX8_file 39 = .ok (.aload 5, 2) := by decide +kernel
theorem dX8_file_41 : decode cX8_file 41 = .ok (.getfield 141, 3) := by decide +kernel
theorem dX8_file_44 : decode cX8_file 44 = .ok (.invokevirtual 106, 3) := by decide +kernel
theorem dX8_file_47 : decode cX8_file 47 = .ok (.ifCond .eq 13, 3) := by decide +kernel
theorem dX8_file_50 : decode cX8_file 50 = .ok (.new 65, 3) := by decide +kernel
theorem dX8_file_53 : decode cX8_file 53 = .ok (.dup, 1) := by decide +kernel
theorem dX8_file_54 : decode cX8_file 54 = .ok (.ldc 146, 2) := by decide +kernel
theorem dX8_file_56 : decode cX8_file 56 = .ok (.invokespecial 69, 3) := by decide +kernel
theorem dX8_file_59 : decode cX8_file 59 = .ok (.athrow, 1) := by decide +kernel
theorem dX8_file_60 : decode cX8_file 60 = .ok (.aload 5, 2) := by decide +kernel
theorem dX8_file_62 : decode cX8_file 62 = .ok (.getfield 141, 3) := by decide +kernel
theorem dX8_file_65 : decode cX8_file 65 = .ok (.iload_n 2, 1) := by decide +kernel
theorem dX8_file_66 : decode cX8_file 66 = .ok (.iload_n 3, 1) := by decide +kernel
theorem dX8_file_67 : decode cX8_file 67 = .ok (.iload 4, 2) := by decide +kernel
theorem dX8_file_69 : decode cX8_file 69 = .ok (.invokevirtual 128, 3) := by decide +kernel
theorem dX8_file_72 : decode cX8_file 72 = .ok (.ireturn, 1) := by decide +kernel
theorem dX8_torn_0 : decode cX8_torn 0 = .ok (.aload_n 0, 1) := by decide +kernel
theorem dX8_torn_1 : decode cX8_torn 1 = .ok (.iload_n 1, 1) := by decide +kernel
theorem dX8_torn_2 : decode cX8_torn 2 = .ok (.invokevirtual 132, 3) := by decide +kernel
theorem dX8_torn_5 : decode cX8_torn 5 = .ok (.astore_n 3, 1) := by decide +kernel
theorem dX8_torn_6 : decode cX8_torn 6 = .ok (.aload_n 3, 1) := by decide +kernel
theorem dX8_torn_7 : decode cX8_torn 7 = .ok (.getfield 148, 3) := by decide +kernel
theorem dX8_torn_10 : decode cX8_torn 10 = .ok (.istore 4, 2) := by decide +kernel
theorem dX8_torn_12 : decode cX8_torn 12 = .ok (.aload_n 3, 1) := by decide +kernel
theorem dX8_torn_13 : decode cX8_torn 13 = .ok (.iload_n 2, 1) := by decide +kernel
theorem dX8_torn_14 : decode cX8_torn 14 = .ok (.putfield 148, 3) := by decide +kernel
theorem dX8_torn_17 : decode cX8_torn 17 = .ok (.iload 4, 2) := by decide +kernel
theorem dX8_torn_19 : decode cX8_torn 19 = .ok (.ireturn, 1) := by decide +kernel
theorem dX8_run_0 : decode cX8_run 0 = .ok (.aload_n 0, 1) := by decide +kernel
theorem dX8_run_1 : decode cX8_run 1 = .ok (.getfield 30, 3) := by decide +kernel
theorem dX8_run_4 : decode cX8_run 4 = .ok (.aload_n 0, 1) := by decide +kernel
theorem dX8_run_5 : decode cX8_run 5 = .ok (.getfield 26, 3) := by decide +kernel
theorem dX8_run_8 : decode cX8_run 8 = .ok (.invokevirtual 151, 3) := by decide +kernel
theorem dX8_run_11 : decode cX8_run 11 = .ok (.aload_n 0, 1) := by decide +kernel
theorem dX8_run_12 : decode cX8_run 12 = .ok (.getfield 18, 3) := by decide +kernel
theorem dX8_run_15 : decode cX8_run 15 = .ok (.iconst 0, 1) := by decide +kernel
theorem dX8_run_16 : decode cX8_run 16 = .ok (.putfield 155, 3) := by decide +kernel
theorem dX8_run_19 : decode cX8_run 19 = .ok (.iconst 0, 1) := by decide +kernel
theorem dX8_run_20 : decode cX8_run 20 = .ok (.istore_n 1, 1) := by decide +kernel
theorem dX8_run_21 : decode cX8_run 21 = .ok (.iload_n 1, 1) := by decide +kernel
theorem dX8_run_22 : decode cX8_run 22 = .ok (.aload_n 0, 1) := by decide +kernel
theorem dX8_run_23 : decode cX8_run 23 = .ok (.getfield 40, 3) := by decide +kernel
theorem dX8_run_26 : decode cX8_run 26 = .ok (.if_icmp .ge 19, 3) := by decide +kernel
theorem dX8_run_29 : decode cX8_run 29 = .ok (.aload_n 0, 1) := by decide +kernel
theorem dX8_run_30 : decode cX8_run 30 = .ok (.getfield 11, 3) := by decide +kernel
theorem dX8_run_33 : decode cX8_run 33 = .ok (.iload_n 1, 1) := by decide +kernel
theorem dX8_run_34 : decode cX8_run 34 = .ok (.aaload, 1) := by decide +kernel
theorem dX8_run_35 : decode cX8_run 35 = .ok (.iconst (-1), 1) := by decide +kernel
theorem dX8_run_36 : decode cX8_run 36 = .ok (.putfield 158, 3) := by decide +kernel
theorem dX8_run_39 : decode cX8_run 39 = .ok (.iinc 1 1, 3) := by decide +kernel
theorem dX8_run_42 : decode cX8_run 42 = .ok (.goto (-21), 3) := by decide +kernel
theorem dX8_run_45 : decode cX8_run 45 = .ok (.iconst 0, 1) := by decide +kernel
theorem dX8_run_46 : decode cX8_run 46 = .ok (.istore_n 1, 1) := by decide +kernel
theorem dX8_run_47 : decode cX8_run 47 = .ok (.iload_n 1, 1) := by decide +kernel
theorem dX8_run_48 : decode cX8_run 48 = .ok (.aload_n 0, 1) := by decide +kernel
theorem dX8_run_49 : decode cX8_run 49 = .ok (.getfield 40, 3) := by decide +kernel
theorem dX8_run_52 : decode cX8_run 52 = .ok (.if_icmp .ge 65, 3) := by decide +kernel
theorem dX8_run_55 : decode cX8_run 55 = .ok (.aload_n 0, 1) := by decide +kernel
theorem dX8_run_56 : decode cX8_run 56 = .ok (.getfield 18, 3) := by decide +kernel
theorem dX8_run_59 : decode cX8_run 59 = .ok (.aload_n 0, 1) := by decide +kernel
theorem dX8_run_60 : decode cX8_run 60 = .ok (.getfield 11, 3) := by decide +kernel
theorem dX8_run_63 : decode cX8_run 63 = .ok (.iload_n 1, 1) := by decide +kernel
theorem dX8_run_64 : decode cX8_run 64 = .ok (.aaload, 1) := by decide +kernel
theorem dX8_run_65 : decode cX8_run 65 = .ok (.invokevirtual 161, 3) := by decide +kernel
theorem dX8_run_68 : decode cX8_run 68 = .ok (.istore_n 2, 1) := by decide +kernel
theorem dX8_run_69 : decode cX8_run 69 = .ok (.iload_n 2, 1) := by decide +kernel
theorem dX8_run_70 : decode cX8_run 70 = .ok (.ifCond .eq 41, 3) := by decide +kernel
theorem dX8_run_73 : decode cX8_run 73 = .ok (.aload_n 0, 1) := by decide +kernel
theorem dX8_run_74 : decode cX8_run 74 = .ok (.getfield 11, 3) := by decide +kernel
theorem dX8_run_77 : decode cX8_run 77 = .ok (.iload_n 1, 1) := by decide +kernel
theorem dX8_run_78 : decode cX8_run 78 = .ok (.aaload, 1) := by decide +kernel
theorem dX8_run_79 : decode cX8_run 79 = .ok (.iload_n 2, 1) := by decide +kernel
theorem dX8_run_80 : decode cX8_run 80 = .ok (.invokestatic 165, 3) := by decide +kernel
theorem dX8_run_83 : decode cX8_run 83 = .ok (.ifCond .ne 28, 3) := by decide +kernel
theorem dX8_run_86 : decode cX8_run 86 = .ok (.aload_n 0, 1) := by decide +kernel
theorem dX8_run_87 : decode cX8_run 87 = .ok (.getfield 26, 3) := by decide +kernel
theorem dX8_run_90 : decode cX8_run 90 = .ok (.aload_n 0, 1) := by decide +kernel
theorem dX8_run_91 : decode cX8_run 91 = .ok (.getfield 30, 3) := by decide +kernel
theorem dX8_run_94 : decode cX8_run 94 = .ok (.invokevirtual 151, 3) := by decide +kernel
theorem dX8_run_97 : decode cX8_run 97 = .ok (.aload_n 0, 1) := by decide +kernel
theorem dX8_run_98 : decode cX8_run 98 = .ok (.iload_n 1, 1) := by decide +kernel
theorem dX8_run_99 : decode cX8_run 99 = .ok (.putfield 44, 3) := by decide +kernel
theorem dX8_run_102 : decode cX8_run 102 = .ok (.aload_n 0, 1) := by decide +kernel
theorem dX8_run_103 : decode cX8_run 103 = .ok (.iconst 0, 1) := by decide +kernel
theorem dX8_run_104 : decode cX8_run 104 = .ok (.putfield 47, 3) := by decide +kernel
theorem dX8_run_107 : decode cX8_run 107 = .ok (.iconst (-1), 1) := by decide +kernel
theorem dX8_run_108 : decode cX8_run 108 = .ok (.iload_n 2, 1) := by decide +kernel
theorem dX8_run_109 : decode cX8_run 109 = .ok (.isub, 1) := by decide +kernel
theorem dX8_run_110 : decode cX8_run 110 = .ok (.ireturn, 1) := by decide +kernel
theorem dX8_run_111 : decode cX8_run 111 = .ok (.iinc 1 1, 3) := by decide +kernel
theorem dX8_run_114 : decode cX8_run 114 = .ok (.goto (-67), 3) := by decide +kernel
theorem dX8_run_117 : decode cX8_run 117 = .ok (.aload_n 0, 1) := by decide +kernel
theorem dX8_run_118 : decode cX8_run 118 = .ok (.iconst (-1), 1) := by decide +kernel
theorem dX8_run_119 : decode cX8_run 119 = .ok (.putfield 44, 3) := by decide +kernel
theorem dX8_run_122 : decode cX8_run 122 = .ok (.aload_n 0, 1) := by decide +kernel
theorem dX8_run_123 : decode cX8_run 123 = .ok (.aload_n 0, 1) := by decide +kernel
theorem dX8_run_124 : decode cX8_run 124 = .ok (.getfield 18, 3) := by decide +kernel
theorem dX8_run_127 : decode cX8_run 127 = .ok (.getfield 155, 3) := by decide +kernel
theorem dX8_run_130 : decode cX8_run 130 = .ok (.putfield 47, 3) := by decide +kernel
theorem dX8_run_133 : decode cX8_run 133 = .ok (.aload_n 0, 1) := by decide +kernel
theorem dX8_run_134 : decode cX8_run 134 = .ok (.getfield 36, 3) := by decide +kernel
theorem dX8_run_137 : decode cX8_run 137 = .ok (.aload_n 0, 1) := by decide +kernel
theorem dX8_run_138 : decode cX8_run 138 = .ok (.getfield 30, 3) := by decide +kernel
theorem dX8_run_141 : decode cX8_run 141 = .ok (.aload_n 0, 1) := by decide +kernel
theorem dX8_run_142 : decode cX8_run 142 = .ok (.getfield 26, 3) := by decide +kernel
theorem dX8_run_145 : decode cX8_run 145 = .ok (.invokevirtual 169, 3) := by decide +kernel
theorem dX8_run_148 : decode cX8_run 148 = .ok (.aload_n 0, 1) := by decide +kernel
theorem dX8_run_149 : decode cX8_run 149 = .ok (.getfield 36, 3) := by decide +kernel
theorem dX8_run_152 : decode cX8_run 152 = .ok (.getfield 173, 3) := by decide +kernel
theorem dX8_run_155 : decode cX8_run 155 = .ok (.ireturn, 1) := by decide +kernel
theorem dX8_fails_0 : decode cX8_fails 0 = .ok (.aload_n 0, 1) := by decide +kernel
theorem dX8_fails_1 : decode cX8_fails 1 = .ok (.getfield 44, 3) := by decide +kernel
theorem dX8_fails_4 : decode cX8_fails 4 = .ok (.ireturn, 1) := by decide +kernel
theorem dX8_clear_0 : decode cX8_clear 0 = .ok (.aload_n 0, 1) := by decide +kernel
theorem dX8_clear_1 : decode cX8_clear 1 = .ok (.getfield 40, 3) := by decide +kernel
theorem dX8_clear_4 : decode cX8_clear 4 = .ok (.istore_n 1, 1) := by decide +kernel
theorem dX8_clear_5 : decode cX8_clear 5 = .ok (.aload_n 0, 1) := by decide +kernel
theorem dX8_clear_6 : decode cX8_clear 6 = .ok (.iconst 0, 1) := by decide +kernel
theorem dX8_clear_7 : decode cX8_clear 7 = .ok (.putfield 40, 3) := by decide +kernel
theorem dX8_clear_10 : decode cX8_clear 10 = .ok (.iload_n 1, 1) := by decide +kernel
theorem dX8_clear_11 : decode cX8_clear 11 = .ok (.ireturn, 1) := by decide +kernel
theorem dX8_many_0 : decode cX8_many 0 = .ok (.aload_n 0, 1) := by decide +kernel
theorem dX8_many_1 : decode cX8_many 1 = .ok (.iload_n 1, 1) := by decide +kernel
theorem dX8_many_2 : decode cX8_many 2 = .ok (.invokevirtual 176, 3) := by decide +kernel
theorem dX8_many_5 : decode cX8_many 5 = .ok (.astore_n 2, 1) := by decide +kernel
theorem dX8_many_6 : decode cX8_many 6 = .ok (.aload_n 2, 1) := by decide +kernel
theorem dX8_many_7 : decode cX8_many 7 = .ok (.getfield 180, 3) := by decide +kernel
theorem dX8_many_10 : decode cX8_many 10 = .ok (.ifCond .eq 10, 3) := by decide +kernel
theorem dX8_many_13 : decode cX8_many 13 = .ok (.aload_n 2, 1) := by decide +kernel
theorem dX8_many_14 : decode cX8_many 14 = .ok (.getfield 185, 3) := by decide +kernel
theorem dX8_many_17 : decode cX8_many 17 = .ok (.goto 4, 3) := by decide +kernel
theorem dX8_many_20 : decode cX8_many 20 = .ok (.iconst (-1), 1) := by decide +kernel
theorem dX8_many_21 : decode cX8_many 21 = .ok (.ireturn, 1) := by decide +kernel
theorem dX8_at_0 : decode cX8_at 0 = .ok (.aload_n 0, 1) := by decide +kernel
theorem dX8_at_1 : decode cX8_at 1 = .ok (.iload_n 1, 1) := by decide +kernel
theorem dX8_at_2 : decode cX8_at 2 = .ok (.invokevirtual 176, 3) := by decide +kernel
theorem dX8_at_5 : decode cX8_at 5 = .ok (.astore 4, 2) := by decide +kernel
theorem dX8_at_7 : decode cX8_at 7 = .ok (.iload_n 2, 1) := by decide +kernel
theorem dX8_at_8 : decode cX8_at 8 = .ok (.ifCond .lt 12, 3) := by decide +kernel
theorem dX8_at_11 : decode cX8_at 11 = .ok (.iload_n 2, 1) := by decide +kernel
theorem dX8_at_12 : decode cX8_at 12 = .ok (.aload 4, 2) := by decide +kernel
theorem dX8_at_14 : decode cX8_at 14 = .ok (.getfield 185, 3) := by decide +kernel
theorem dX8_at_17 : decode cX8_at 17 = .ok (.if_icmp .lt 13, 3) := by decide +kernel
theorem dX8_at_20 : decode cX8_at 20 = .ok (.new 188, 3) := by decide +kernel
theorem dX8_at_23 : decode cX8_at 23 = .ok (.dup, 1) := by decide +kernel
theorem dX8_at_24 : decode cX8_at 24 = .ok (.ldc 190, 2) := by decide +kernel
theorem dX8_at_26 : decode cX8_at 26 = .ok (.invokespecial 192, 3) := by decide +kernel
theorem dX8_at_29 : decode cX8_at 29 = .ok (.athrow, 1) := by decide +kernel
theorem dX8_at_30 : decode cX8_at 30 = .ok (.iload_n 3, 1) := by decide +kernel
theorem dX8_at_31 : decode cX8_at 31 = .ok (.ifCond .lt 8, 3) := by decide +kernel
theorem dX8_at_34 : decode cX8_at 34 = .ok (.iload_n 3, 1) := by decide +kernel
theorem dX8_at_35 : decode cX8_at 35 = .ok (.iconst 2, 1) := by decide +kernel
theorem dX8_at_36 : decode cX8_at 36 = .ok (.if_icmp .le 13, 3) := by decide +kernel
theorem dX8_at_39 : decode cX8_at 39 = .ok (.new 58, 3) := by decide +kernel
theorem dX8_at_42 : decode cX8_at 42 = .ok (.dup, 1) := by decide +kernel
theorem dX8_at_43 : decode cX8_at 43 = .ok (.ldc 193, 2) := by decide +kernel
theorem dX8_at_45 : decode cX8_at 45 = .ok (.invokespecial 62, 3) := by decide +kernel
theorem dX8_at_48 : decode cX8_at 48 = .ok (.athrow, 1) := by decide +kernel
theorem dX8_at_49 : decode cX8_at 49 = .ok (.aload 4, 2) := by decide +kernel
theorem dX8_at_51 : decode cX8_at 51 = .ok (.getfield 195, 3) := by decide +kernel
theorem dX8_at_54 : decode cX8_at 54 = .ok (.iload_n 2, 1) := by decide +kernel
theorem dX8_at_55 : decode cX8_at 55 = .ok (.iaload, 1) := by decide +kernel
theorem dX8_at_56 : decode cX8_at 56 = .ok (.iload_n 3, 1) := by decide +kernel
theorem dX8_at_57 : decode cX8_at 57 = .ok (.invokestatic 199, 3) := by decide +kernel
theorem dX8_at_60 : decode cX8_at 60 = .ok (.ireturn, 1) := by decide +kernel
theorem dX8_has_0 : decode cX8_has 0 = .ok (.aload_n 0, 1) := by decide +kernel
theorem dX8_has_1 : decode cX8_has 1 = .ok (.iload_n 1, 1) := by decide +kernel
theorem dX8_has_2 : decode cX8_has 2 = .ok (.invokevirtual 176, 3) := by decide +kernel
theorem dX8_has_5 : decode cX8_has 5 = .ok (.astore 5, 2) := by decide +kernel
theorem dX8_has_7 : decode cX8_has 7 = .ok (.iload_n 2, 1) := by decide +kernel
theorem dX8_has_8 : decode cX8_has 8 = .ok (.invokestatic 203, 3) := by decide +kernel
theorem dX8_has_11 : decode cX8_has 11 = .ok (.ifCond .eq 37, 3) := by decide +kernel
theorem dX8_has_14 : decode cX8_has 14 = .ok (.iload_n 3, 1) := by decide +kernel
theorem dX8_has_15 : decode cX8_has 15 = .ok (.invokestatic 203, 3) := by decide +kernel
theorem dX8_has_18 : decode cX8_has 18 = .ok (.ifCond .eq 30, 3) := by decide +kernel
theorem dX8_has_21 : decode cX8_has 21 = .ok (.iload 4, 2) := by decide +kernel
theorem dX8_has_23 : decode cX8_has 23 = .ok (.invokestatic 203, 3) := by decide +kernel
theorem dX8_has_26 : decode cX8_has 26 = .ok (.ifCond .eq 22, 3) := by decide +kernel
theorem dX8_has_29 : decode cX8_has 29 = .ok (.aload 5, 2) := by decide +kernel
theorem dX8_has_31 : decode cX8_has 31 = .ok (.iload_n 2, 1) := by decide +kernel
theorem dX8_has_32 : decode cX8_has 32 = .ok (.iload_n 3, 1) := by decide +kernel
theorem dX8_has_33 : decode cX8_has 33 = .ok (.iload 4, 2) := by decide +kernel
theorem dX8_has_35 : decode cX8_has 35 = .ok (.invokestatic 206, 3) := by decide +kernel
theorem dX8_has_38 : decode cX8_has 38 = .ok (.invokevirtual 209, 3) := by decide +kernel
theorem dX8_has_41 : decode cX8_has 41 = .ok (.ifCond .eq 7, 3) := by decide +kernel
theorem dX8_has_44 : decode cX8_has 44 = .ok (.iconst 1, 1) := by decide +kernel
theorem dX8_has_45 : decode cX8_has 45 = .ok (.goto 4, 3) := by decide +kernel
theorem dX8_has_48 : decode cX8_has 48 = .ok (.iconst 0, 1) := by decide +kernel
theorem dX8_has_49 : decode cX8_has 49 = .ok (.ireturn, 1) := by decide +kernel
theorem dX8_changed_0 : decode cX8_changed 0 = .ok (.iload_n 1, 1) := by decide +kernel
theorem dX8_changed_1 : decode cX8_changed 1 = .ok (.ifCond .lt 14, 3) := by decide +kernel
theorem dX8_changed_4 : decode cX8_changed 4 = .ok (.iload_n 1, 1) := by decide +kernel
theorem dX8_changed_5 : decode cX8_changed 5 = .ok (.aload_n 0, 1) := by decide +kernel
theorem dX8_changed_6 : decode cX8_changed 6 = .ok (.getfield 36, 3) := by decide +kernel
theorem dX8_changed_9 : decode cX8_changed 9 = .ok (.getfield 173, 3) := by decide +kernel
theorem dX8_changed_12 : decode cX8_changed 12 = .ok (.if_icmp .lt 13, 3) := by decide +kernel
theorem dX8_changed_15 : decode cX8_changed 15 = .ok (.new 188, 3) := by decide +kernel
theorem dX8_changed_18 : decode cX8_changed 18 = .ok (.dup, 1) := by decide +kernel
theorem dX8_changed_19 : decode cX8_changed 19 = .ok (.ldc 212, 2) := by decide +kernel
theorem dX8_changed_21 : decode cX8_changed 21 = .ok (.invokespecial 192, 3) := by decide +kernel
theorem dX8_changed_24 : decode cX8_changed 24 = .ok (.athrow, 1) := by decide +kernel
theorem dX8_changed_25 : decode cX8_changed 25 = .ok (.iload_n 2, 1) := by decide +kernel
theorem dX8_changed_26 : decode cX8_changed 26 = .ok (.ifCond .lt 8, 3) := by decide +kernel
theorem dX8_changed_29 : decode cX8_changed 29 = .ok (.iload_n 2, 1) := by decide +kernel
theorem dX8_changed_30 : decode cX8_changed 30 = .ok (.iconst 4, 1) := by decide +kernel
theorem dX8_changed_31 : decode cX8_changed 31 = .ok (.if_icmp .le 13, 3) := by decide +kernel
theorem dX8_changed_34 : decode cX8_changed 34 = .ok (.new 58, 3) := by decide +kernel
theorem dX8_changed_37 : decode cX8_changed 37 = .ok (.dup, 1) := by decide +kernel
theorem dX8_changed_38 : decode cX8_changed 38 = .ok (.ldc 214, 2) := by decide +kernel
theorem dX8_changed_40 : decode cX8_changed 40 = .ok (.invokespecial 62, 3) := by decide +kernel
theorem dX8_changed_43 : decode cX8_changed 43 = .ok (.athrow, 1) := by decide +kernel
theorem dX8_changed_44 : decode cX8_changed 44 = .ok (.iload_n 2, 1) := by decide +kernel
theorem dX8_changed_45 : decode cX8_changed 45 = .ok (.ifCond .ne 13, 3) := by decide +kernel
theorem dX8_changed_48 : decode cX8_changed 48 = .ok (.aload_n 0, 1) := by decide +kernel
theorem dX8_changed_49 : decode cX8_changed 49 = .ok (.getfield 36, 3) := by decide +kernel
theorem dX8_changed_52 : decode cX8_changed 52 = .ok (.getfield 216, 3) := by decide +kernel
theorem dX8_changed_55 : decode cX8_changed 55 = .ok (.iload_n 1, 1) := by decide +kernel
theorem dX8_changed_56 : decode cX8_changed 56 = .ok (.iaload, 1) := by decide +kernel
theorem dX8_changed_57 : decode cX8_changed 57 = .ok (.ireturn, 1) := by decide +kernel
theorem dX8_changed_58 : decode cX8_changed 58 = .ok (.iload_n 2, 1) := by decide +kernel
theorem dX8_changed_59 : decode cX8_changed 59 = .ok (.iconst 4, 1) := by decide +kernel
theorem dX8_changed_60 : decode cX8_changed 60 = .ok (.if_icmp .ne 15, 3) := by decide +kernel
theorem dX8_changed_63 : decode cX8_changed 63 = .ok (.aload_n 0, 1) := by decide +kernel
theorem dX8_changed_64 : decode cX8_changed 64 = .ok (.getfield 36, 3) := by decide +kernel
theorem dX8_changed_67 : decode cX8_changed 67 = .ok (.getfield 219, 3) := by decide +kernel
theorem dX8_changed_70 : decode cX8_changed 70 = .ok (.iload_n 1, 1) := by decide +kernel
theorem dX8_changed_71 : decode cX8_changed 71 = .ok (.iaload, 1) := by decide +kernel
theorem dX8_changed_72 : decode cX8_changed 72 = .ok (.goto 18, 3) := by decide +kernel
theorem dX8_changed_75 : decode cX8_changed 75 = .ok (.aload_n 0, 1) := by decide +kernel
theorem dX8_changed_76 : decode cX8_changed 76 = .ok (.getfield 36, 3) := by decide +kernel
theorem dX8_changed_79 : decode cX8_changed 79 = .ok (.getfield 222, 3) := by decide +kernel
theorem dX8_changed_82 : decode cX8_changed 82 = .ok (.iload_n 1, 1) := by decide +kernel
theorem dX8_changed_83 : decode cX8_changed 83 = .ok (.iaload, 1) := by decide +kernel
theorem dX8_changed_84 : decode cX8_changed 84 = .ok (.iload_n 2, 1) := by decide +kernel
theorem dX8_changed_85 : decode cX8_changed 85 = .ok (.iconst 1, 1) := by decide +kernel
theorem dX8_changed_86 : decode cX8_changed 86 = .ok (.isub, 1) := by decide +kernel
theorem dX8_changed_87 : decode cX8_changed 87 = .ok (.invokestatic 199, 3) := by decide +kernel
theorem dX8_changed_90 : decode cX8_changed 90 = .ok (.ireturn, 1) := by decide +kernel
theorem dX8_solutions_0 : decode cX8_solutions 0 = .ok (.aload_n 0, 1) := by decide +kernel
theorem dX8_solutions_1 : decode cX8_solutions 1 = .ok (.iload_n 1, 1) := by decide +kernel
theorem dX8_solutions_2 : decode cX8_solutions 2 = .ok (.invokevirtual 78, 3) := by decide +kernel
theorem dX8_solutions_5 : decode cX8_solutions 5 = .ok (.getfield 158, 3) := by decide +kernel
theorem dX8_solutions_8 : decode cX8_solutions 8 = .ok (.ireturn, 1) := by decide +kernel
theorem dX8_told_0 : decode cX8_told 0 = .ok (.iload_n 1, 1) := by decide +kernel
theorem dX8_told_1 : decode cX8_told 1 = .ok (.tableswitch 69 0 4 #[35, 40, 48, 56, 64], 35) := by decide +kernel
theorem dX8_told_36 : decode cX8_told 36 = .ok (.aload_n 0, 1) := by decide +kernel
theorem dX8_told_37 : decode cX8_told 37 = .ok (.getfield 40, 3) := by decide +kernel
theorem dX8_told_40 : decode cX8_told 40 = .ok (.ireturn, 1) := by decide +kernel
theorem dX8_told_41 : decode cX8_told 41 = .ok (.aload_n 0, 1) := by decide +kernel
theorem dX8_told_42 : decode cX8_told 42 = .ok (.getfield 26, 3) := by decide +kernel
theorem dX8_told_45 : decode cX8_told 45 = .ok (.invokevirtual 225, 3) := by decide +kernel
theorem dX8_told_48 : decode cX8_told 48 = .ok (.ireturn, 1) := by decide +kernel
theorem dX8_told_49 : decode cX8_told 49 = .ok (.aload_n 0, 1) := by decide +kernel
theorem dX8_told_50 : decode cX8_told 50 = .ok (.getfield 26, 3) := by decide +kernel
theorem dX8_told_53 : decode cX8_told 53 = .ok (.getfield 229, 3) := by decide +kernel
theorem dX8_told_56 : decode cX8_told 56 = .ok (.ireturn, 1) := by decide +kernel
theorem dX8_told_57 : decode cX8_told 57 = .ok (.aload_n 0, 1) := by decide +kernel
theorem dX8_told_58 : decode cX8_told 58 = .ok (.getfield 36, 3) := by decide +kernel
theorem dX8_told_61 : decode cX8_told 61 = .ok (.getfield 173, 3) := by decide +kernel
theorem dX8_told_64 : decode cX8_told 64 = .ok (.ireturn, 1) := by decide +kernel
theorem dX8_told_65 : decode cX8_told 65 = .ok (.aload_n 0, 1) := by decide +kernel
theorem dX8_told_66 : decode cX8_told 66 = .ok (.getfield 47, 3) := by decide +kernel
theorem dX8_told_69 : decode cX8_told 69 = .ok (.ireturn, 1) := by decide +kernel
theorem dX8_told_70 : decode cX8_told 70 = .ok (.new 58, 3) := by decide +kernel
theorem dX8_told_73 : decode cX8_told 73 = .ok (.dup, 1) := by decide +kernel
theorem dX8_told_74 : decode cX8_told 74 = .ok (.ldc 232, 2) := by decide +kernel
theorem dX8_told_76 : decode cX8_told 76 = .ok (.invokespecial 62, 3) := by decide +kernel
theorem dX8_told_79 : decode cX8_told 79 = .ok (.athrow, 1) := by decide +kernel
theorem dX8_stepNumbered_0 : decode cX8_stepNumbered 0 = .ok (.iload_n 1, 1) := by decide +kernel
theorem dX8_stepNumbered_1 : decode cX8_stepNumbered 1 = .ok (.ifCond .lt 11, 3) := by decide +kernel
theorem dX8_stepNumbered_4 : decode cX8_stepNumbered 4 = .ok (.iload_n 1, 1) := by decide +kernel
theorem dX8_stepNumbered_5 : decode cX8_stepNumbered 5 = .ok (.aload_n 0, 1) := by decide +kernel
theorem dX8_stepNumbered_6 : decode cX8_stepNumbered 6 = .ok (.getfield 40, 3) := by decide +kernel
theorem dX8_stepNumbered_9 : decode cX8_stepNumbered 9 = .ok (.if_icmp .lt 13, 3) := by decide +kernel
theorem dX8_stepNumbered_12 : decode cX8_stepNumbered 12 = .ok (.new 188, 3) := by decide +kernel
theorem dX8_stepNumbered_15 : decode cX8_stepNumbered 15 = .ok (.dup, 1) := by decide +kernel
theorem dX8_stepNumbered_16 : decode cX8_stepNumbered 16 = .ok (.ldc 234, 2) := by decide +kernel
theorem dX8_stepNumbered_18 : decode cX8_stepNumbered 18 = .ok (.invokespecial 192, 3) := by decide +kernel
theorem dX8_stepNumbered_21 : decode cX8_stepNumbered 21 = .ok (.athrow, 1) := by decide +kernel
theorem dX8_stepNumbered_22 : decode cX8_stepNumbered 22 = .ok (.aload_n 0, 1) := by decide +kernel
theorem dX8_stepNumbered_23 : decode cX8_stepNumbered 23 = .ok (.getfield 11, 3) := by decide +kernel
theorem dX8_stepNumbered_26 : decode cX8_stepNumbered 26 = .ok (.iload_n 1, 1) := by decide +kernel
theorem dX8_stepNumbered_27 : decode cX8_stepNumbered 27 = .ok (.aaload, 1) := by decide +kernel
theorem dX8_stepNumbered_28 : decode cX8_stepNumbered 28 = .ok (.areturn, 1) := by decide +kernel
theorem dX8_fileNumbered_0 : decode cX8_fileNumbered 0 = .ok (.iload_n 1, 1) := by decide +kernel
theorem dX8_fileNumbered_1 : decode cX8_fileNumbered 1 = .ok (.ifCond .lt 8, 3) := by decide +kernel
theorem dX8_fileNumbered_4 : decode cX8_fileNumbered 4 = .ok (.iload_n 1, 1) := by decide +kernel
theorem dX8_fileNumbered_5 : decode cX8_fileNumbered 5 = .ok (.iconst 4, 1) := by decide +kernel
theorem dX8_fileNumbered_6 : decode cX8_fileNumbered 6 = .ok (.if_icmp .lt 13, 3) := by decide +kernel
theorem dX8_fileNumbered_9 : decode cX8_fileNumbered 9 = .ok (.new 188, 3) := by decide +kernel
theorem dX8_fileNumbered_12 : decode cX8_fileNumbered 12 = .ok (.dup, 1) := by decide +kernel
theorem dX8_fileNumbered_13 : decode cX8_fileNumbered 13 = .ok (.ldc 236, 2) := by decide +kernel
theorem dX8_fileNumbered_15 : decode cX8_fileNumbered 15 = .ok (.invokespecial 192, 3) := by decide +kernel
theorem dX8_fileNumbered_18 : decode cX8_fileNumbered 18 = .ok (.athrow, 1) := by decide +kernel
theorem dX8_fileNumbered_19 : decode cX8_fileNumbered 19 = .ok (.aload_n 0, 1) := by decide +kernel
theorem dX8_fileNumbered_20 : decode cX8_fileNumbered 20 = .ok (.getfield 18, 3) := by decide +kernel
theorem dX8_fileNumbered_23 : decode cX8_fileNumbered 23 = .ok (.getfield 238, 3) := by decide +kernel
theorem dX8_fileNumbered_26 : decode cX8_fileNumbered 26 = .ok (.iload_n 1, 1) := by decide +kernel
theorem dX8_fileNumbered_27 : decode cX8_fileNumbered 27 = .ok (.aaload, 1) := by decide +kernel
theorem dX8_fileNumbered_28 : decode cX8_fileNumbered 28 = .ok (.areturn, 1) := by decide +kernel
theorem dX8_graphNumbered_0 : decode cX8_graphNumbered 0 = .ok (.iload_n 1, 1) := by decide +kernel
theorem dX8_graphNumbered_1 : decode cX8_graphNumbered 1 = .ok (.invokestatic 242, 3) := by decide +kernel
theorem dX8_graphNumbered_4 : decode cX8_graphNumbered 4 = .ok (.ifCond .ne 13, 3) := by decide +kernel
theorem dX8_graphNumbered_7 : decode cX8_graphNumbered 7 = .ok (.new 188, 3) := by decide +kernel
theorem dX8_graphNumbered_10 : decode cX8_graphNumbered 10 = .ok (.dup, 1) := by decide +kernel
theorem dX8_graphNumbered_11 : decode cX8_graphNumbered 11 = .ok (.ldc 245, 2) := by decide +kernel
theorem dX8_graphNumbered_13 : decode cX8_graphNumbered 13 = .ok (.invokespecial 192, 3) := by decide +kernel
theorem dX8_graphNumbered_16 : decode cX8_graphNumbered 16 = .ok (.athrow, 1) := by decide +kernel
theorem dX8_graphNumbered_17 : decode cX8_graphNumbered 17 = .ok (.aload_n 0, 1) := by decide +kernel
theorem dX8_graphNumbered_18 : decode cX8_graphNumbered 18 = .ok (.getfield 26, 3) := by decide +kernel
theorem dX8_graphNumbered_21 : decode cX8_graphNumbered 21 = .ok (.getfield 247, 3) := by decide +kernel
theorem dX8_graphNumbered_24 : decode cX8_graphNumbered 24 = .ok (.iload_n 1, 1) := by decide +kernel
theorem dX8_graphNumbered_25 : decode cX8_graphNumbered 25 = .ok (.aaload, 1) := by decide +kernel
theorem dX8_graphNumbered_26 : decode cX8_graphNumbered 26 = .ok (.areturn, 1) := by decide +kernel
theorem dX8_isGraph_0 : decode cX8_isGraph 0 = .ok (.iload_n 0, 1) := by decide +kernel
theorem dX8_isGraph_1 : decode cX8_isGraph 1 = .ok (.ifCond .lt 13, 3) := by decide +kernel
theorem dX8_isGraph_4 : decode cX8_isGraph 4 = .ok (.iload_n 0, 1) := by decide +kernel
theorem dX8_isGraph_5 : decode cX8_isGraph 5 = .ok (.bipush 7, 2) := by decide +kernel
theorem dX8_isGraph_7 : decode cX8_isGraph 7 = .ok (.if_icmp .ge 7, 3) := by decide +kernel
theorem dX8_isGraph_10 : decode cX8_isGraph 10 = .ok (.iconst 1, 1) := by decide +kernel
theorem dX8_isGraph_11 : decode cX8_isGraph 11 = .ok (.goto 4, 3) := by decide +kernel
theorem dX8_isGraph_14 : decode cX8_isGraph 14 = .ok (.iconst 0, 1) := by decide +kernel
theorem dX8_isGraph_15 : decode cX8_isGraph 15 = .ok (.ireturn, 1) := by decide +kernel
theorem dX8_fromCounts_0 : decode cX8_fromCounts 0 = .ok (.iload_n 0, 1) := by decide +kernel
theorem dX8_fromCounts_1 : decode cX8_fromCounts 1 = .ok (.iconst 2, 1) := by decide +kernel
theorem dX8_fromCounts_2 : decode cX8_fromCounts 2 = .ok (.if_icmp .eq 9, 3) := by decide +kernel
theorem dX8_fromCounts_5 : decode cX8_fromCounts 5 = .ok (.iload_n 0, 1) := by decide +kernel
theorem dX8_fromCounts_6 : decode cX8_fromCounts 6 = .ok (.bipush 6, 2) := by decide +kernel
theorem dX8_fromCounts_8 : decode cX8_fromCounts 8 = .ok (.if_icmp .lt 7, 3) := by decide +kernel
theorem dX8_fromCounts_11 : decode cX8_fromCounts 11 = .ok (.iconst 1, 1) := by decide +kernel
theorem dX8_fromCounts_12 : decode cX8_fromCounts 12 = .ok (.goto 4, 3) := by decide +kernel
theorem dX8_fromCounts_15 : decode cX8_fromCounts 15 = .ok (.iconst 0, 1) := by decide +kernel
theorem dX8_fromCounts_16 : decode cX8_fromCounts 16 = .ok (.ireturn, 1) := by decide +kernel
theorem dX8_fromMayBe_0 : decode cX8_fromMayBe 0 = .ok (.iload_n 0, 1) := by decide +kernel
theorem dX8_fromMayBe_1 : decode cX8_fromMayBe 1 = .ok (.bipush 9, 2) := by decide +kernel
theorem dX8_fromMayBe_3 : decode cX8_fromMayBe 3 = .ok (.if_icmp .ne 18, 3) := by decide +kernel
theorem dX8_fromMayBe_6 : decode cX8_fromMayBe 6 = .ok (.iload_n 1, 1) := by decide +kernel
theorem dX8_fromMayBe_7 : decode cX8_fromMayBe 7 = .ok (.ifCond .lt 12, 3) := by decide +kernel
theorem dX8_fromMayBe_10 : decode cX8_fromMayBe 10 = .ok (.iload_n 1, 1) := by decide +kernel
theorem dX8_fromMayBe_11 : decode cX8_fromMayBe 11 = .ok (.iconst 4, 1) := by decide +kernel
theorem dX8_fromMayBe_12 : decode cX8_fromMayBe 12 = .ok (.if_icmp .ge 7, 3) := by decide +kernel
theorem dX8_fromMayBe_15 : decode cX8_fromMayBe 15 = .ok (.iconst 1, 1) := by decide +kernel
theorem dX8_fromMayBe_16 : decode cX8_fromMayBe 16 = .ok (.goto 4, 3) := by decide +kernel
theorem dX8_fromMayBe_19 : decode cX8_fromMayBe 19 = .ok (.iconst 0, 1) := by decide +kernel
theorem dX8_fromMayBe_20 : decode cX8_fromMayBe 20 = .ok (.ireturn, 1) := by decide +kernel
theorem dX8_fromMayBe_21 : decode cX8_fromMayBe 21 = .ok (.iload_n 0, 1) := by decide +kernel
theorem dX8_fromMayBe_22 : decode cX8_fromMayBe 22 = .ok (.invokestatic 70, 3) := by decide +kernel
theorem dX8_fromMayBe_25 : decode cX8_fromMayBe 25 = .ok (.ifCond .eq 10, 3) := by decide +kernel
theorem dX8_fromMayBe_28 : decode cX8_fromMayBe 28 = .ok (.iload_n 1, 1) := by decide +kernel
theorem dX8_fromMayBe_29 : decode cX8_fromMayBe 29 = .ok (.invokestatic 242, 3) := by decide +kernel
theorem dX8_fromMayBe_32 : decode cX8_fromMayBe 32 = .ok (.ifCond .eq 7, 3) := by decide +kernel
theorem dX8_fromMayBe_35 : decode cX8_fromMayBe 35 = .ok (.iconst 1, 1) := by decide +kernel
theorem dX8_fromMayBe_36 : decode cX8_fromMayBe 36 = .ok (.goto 4, 3) := by decide +kernel
theorem dX8_fromMayBe_39 : decode cX8_fromMayBe 39 = .ok (.iconst 0, 1) := by decide +kernel
theorem dX8_fromMayBe_40 : decode cX8_fromMayBe 40 = .ok (.ireturn, 1) := by decide +kernel
theorem dX8_toMayBe_0 : decode cX8_toMayBe 0 = .ok (.iload_n 1, 1) := by decide +kernel
theorem dX8_toMayBe_1 : decode cX8_toMayBe 1 = .ok (.iconst (-1), 1) := by decide +kernel
theorem dX8_toMayBe_2 : decode cX8_toMayBe 2 = .ok (.if_icmp .eq 9, 3) := by decide +kernel
theorem dX8_toMayBe_5 : decode cX8_toMayBe 5 = .ok (.iload_n 1, 1) := by decide +kernel
theorem dX8_toMayBe_6 : decode cX8_toMayBe 6 = .ok (.bipush (-2), 2) := by decide +kernel
theorem dX8_toMayBe_8 : decode cX8_toMayBe 8 = .ok (.if_icmp .ne 19, 3) := by decide +kernel
theorem dX8_toMayBe_11 : decode cX8_toMayBe 11 = .ok (.iload_n 0, 1) := by decide +kernel
theorem dX8_toMayBe_12 : decode cX8_toMayBe 12 = .ok (.iconst 3, 1) := by decide +kernel
theorem dX8_toMayBe_13 : decode cX8_toMayBe 13 = .ok (.if_icmp .eq 8, 3) := by decide +kernel
theorem dX8_toMayBe_16 : decode cX8_toMayBe 16 = .ok (.iload_n 0, 1) := by decide +kernel
theorem dX8_toMayBe_17 : decode cX8_toMayBe 17 = .ok (.iconst 5, 1) := by decide +kernel
theorem dX8_toMayBe_18 : decode cX8_toMayBe 18 = .ok (.if_icmp .ne 7, 3) := by decide +kernel
theorem dX8_toMayBe_21 : decode cX8_toMayBe 21 = .ok (.iconst 1, 1) := by decide +kernel
theorem dX8_toMayBe_22 : decode cX8_toMayBe 22 = .ok (.goto 4, 3) := by decide +kernel
theorem dX8_toMayBe_25 : decode cX8_toMayBe 25 = .ok (.iconst 0, 1) := by decide +kernel
theorem dX8_toMayBe_26 : decode cX8_toMayBe 26 = .ok (.ireturn, 1) := by decide +kernel
theorem dX8_toMayBe_27 : decode cX8_toMayBe 27 = .ok (.iload_n 1, 1) := by decide +kernel
theorem dX8_toMayBe_28 : decode cX8_toMayBe 28 = .ok (.invokestatic 242, 3) := by decide +kernel
theorem dX8_toMayBe_31 : decode cX8_toMayBe 31 = .ok (.ifCond .eq 16, 3) := by decide +kernel
theorem dX8_toMayBe_34 : decode cX8_toMayBe 34 = .ok (.iload_n 0, 1) := by decide +kernel
theorem dX8_toMayBe_35 : decode cX8_toMayBe 35 = .ok (.iconst 4, 1) := by decide +kernel
theorem dX8_toMayBe_36 : decode cX8_toMayBe 36 = .ok (.if_icmp .ne 7, 3) := by decide +kernel
theorem dX8_toMayBe_39 : decode cX8_toMayBe 39 = .ok (.iload_n 1, 1) := by decide +kernel
theorem dX8_toMayBe_40 : decode cX8_toMayBe 40 = .ok (.ifCond .eq 7, 3) := by decide +kernel
theorem dX8_toMayBe_43 : decode cX8_toMayBe 43 = .ok (.iconst 1, 1) := by decide +kernel
theorem dX8_toMayBe_44 : decode cX8_toMayBe 44 = .ok (.goto 4, 3) := by decide +kernel
theorem dX8_toMayBe_47 : decode cX8_toMayBe 47 = .ok (.iconst 0, 1) := by decide +kernel
theorem dX8_toMayBe_48 : decode cX8_toMayBe 48 = .ok (.ireturn, 1) := by decide +kernel
theorem dX8_templateMayBe_0 : decode cX8_templateMayBe 0 = .ok (.iload_n 0, 1) := by decide +kernel
theorem dX8_templateMayBe_1 : decode cX8_templateMayBe 1 = .ok (.iconst 2, 1) := by decide +kernel
theorem dX8_templateMayBe_2 : decode cX8_templateMayBe 2 = .ok (.if_icmp .eq 20, 3) := by decide +kernel
theorem dX8_templateMayBe_5 : decode cX8_templateMayBe 5 = .ok (.iload_n 0, 1) := by decide +kernel
theorem dX8_templateMayBe_6 : decode cX8_templateMayBe 6 = .ok (.ifCond .ne 7, 3) := by decide +kernel
theorem dX8_templateMayBe_9 : decode cX8_templateMayBe 9 = .ok (.iload_n 1, 1) := by decide +kernel
theorem dX8_templateMayBe_10 : decode cX8_templateMayBe 10 = .ok (.ifCond .ne 12, 3) := by decide +kernel
theorem dX8_templateMayBe_13 : decode cX8_templateMayBe 13 = .ok (.iload_n 0, 1) := by decide +kernel
theorem dX8_templateMayBe_14 : decode cX8_templateMayBe 14 = .ok (.iconst 1, 1) := by decide +kernel
theorem dX8_templateMayBe_15 : decode cX8_templateMayBe 15 = .ok (.if_icmp .ne 11, 3) := by decide +kernel
theorem dX8_templateMayBe_18 : decode cX8_templateMayBe 18 = .ok (.iload_n 1, 1) := by decide +kernel
theorem dX8_templateMayBe_19 : decode cX8_templateMayBe 19 = .ok (.ifCond .ne 7, 3) := by decide +kernel
theorem dX8_templateMayBe_22 : decode cX8_templateMayBe 22 = .ok (.iconst 1, 1) := by decide +kernel
theorem dX8_templateMayBe_23 : decode cX8_templateMayBe 23 = .ok (.goto 4, 3) := by decide +kernel
theorem dX8_templateMayBe_26 : decode cX8_templateMayBe 26 = .ok (.iconst 0, 1) := by decide +kernel
theorem dX8_templateMayBe_27 : decode cX8_templateMayBe 27 = .ok (.ireturn, 1) := by decide +kernel
theorem dX8_templateTermMayBe_0 : decode cX8_templateTermMayBe 0 = .ok (.iload_n 2, 1) := by decide +kernel
theorem dX8_templateTermMayBe_1 : decode cX8_templateTermMayBe 1 = .ok (.invokestatic 136, 3) := by decide +kernel
theorem dX8_templateTermMayBe_4 : decode cX8_templateTermMayBe 4 = .ok (.ifCond .ne 26, 3) := by decide +kernel
theorem dX8_templateTermMayBe_7 : decode cX8_templateTermMayBe 7 = .ok (.iload_n 2, 1) := by decide +kernel
theorem dX8_templateTermMayBe_8 : decode cX8_templateTermMayBe 8 = .ok (.invokestatic 251, 3) := by decide +kernel
theorem dX8_templateTermMayBe_11 : decode cX8_templateTermMayBe 11 = .ok (.ifCond .eq 8, 3) := by decide +kernel
theorem dX8_templateTermMayBe_14 : decode cX8_templateTermMayBe 14 = .ok (.iload_n 0, 1) := by decide +kernel
theorem dX8_templateTermMayBe_15 : decode cX8_templateTermMayBe 15 = .ok (.iconst 2, 1) := by decide +kernel
theorem dX8_templateTermMayBe_16 : decode cX8_templateTermMayBe 16 = .ok (.if_icmp .eq 14, 3) := by decide +kernel
theorem dX8_templateTermMayBe_19 : decode cX8_templateTermMayBe 19 = .ok (.iload_n 2, 1) := by decide +kernel
theorem dX8_templateTermMayBe_20 : decode cX8_templateTermMayBe 20 = .ok (.invokestatic 97, 3) := by decide +kernel
theorem dX8_templateTermMayBe_23 : decode cX8_templateTermMayBe 23 = .ok (.ifCond .eq 11, 3) := by decide +kernel
theorem dX8_templateTermMayBe_26 : decode cX8_templateTermMayBe 26 = .ok (.iload_n 1, 1) := by decide +kernel
theorem dX8_templateTermMayBe_27 : decode cX8_templateTermMayBe 27 = .ok (.ifCond .eq 7, 3) := by decide +kernel
theorem dX8_templateTermMayBe_30 : decode cX8_templateTermMayBe 30 = .ok (.iconst 1, 1) := by decide +kernel
theorem dX8_templateTermMayBe_31 : decode cX8_templateTermMayBe 31 = .ok (.goto 4, 3) := by decide +kernel
theorem dX8_templateTermMayBe_34 : decode cX8_templateTermMayBe 34 = .ok (.iconst 0, 1) := by decide +kernel
theorem dX8_templateTermMayBe_35 : decode cX8_templateTermMayBe 35 = .ok (.ireturn, 1) := by decide +kernel
theorem dX8_patternTermMayBe_0 : decode cX8_patternTermMayBe 0 = .ok (.iload_n 0, 1) := by decide +kernel
theorem dX8_patternTermMayBe_1 : decode cX8_patternTermMayBe 1 = .ok (.invokestatic 136, 3) := by decide +kernel
theorem dX8_patternTermMayBe_4 : decode cX8_patternTermMayBe 4 = .ok (.ifCond .ne 10, 3) := by decide +kernel
theorem dX8_patternTermMayBe_7 : decode cX8_patternTermMayBe 7 = .ok (.iload_n 0, 1) := by decide +kernel
theorem dX8_patternTermMayBe_8 : decode cX8_patternTermMayBe 8 = .ok (.invokestatic 251, 3) := by decide +kernel
theorem dX8_patternTermMayBe_11 : decode cX8_patternTermMayBe 11 = .ok (.ifCond .eq 7, 3) := by decide +kernel
theorem dX8_patternTermMayBe_14 : decode cX8_patternTermMayBe 14 = .ok (.iconst 1, 1) := by decide +kernel
theorem dX8_patternTermMayBe_15 : decode cX8_patternTermMayBe 15 = .ok (.goto 4, 3) := by decide +kernel
theorem dX8_patternTermMayBe_18 : decode cX8_patternTermMayBe 18 = .ok (.iconst 0, 1) := by decide +kernel
theorem dX8_patternTermMayBe_19 : decode cX8_patternTermMayBe 19 = .ok (.ireturn, 1) := by decide +kernel
theorem dX8_isName_0 : decode cX8_isName 0 = .ok (.iload_n 0, 1) := by decide +kernel
theorem dX8_isName_1 : decode cX8_isName 1 = .ok (.ifCond .lt 13, 3) := by decide +kernel
theorem dX8_isName_4 : decode cX8_isName 4 = .ok (.iload_n 0, 1) := by decide +kernel
theorem dX8_isName_5 : decode cX8_isName 5 = .ok (.bipush 100, 2) := by decide +kernel
theorem dX8_isName_7 : decode cX8_isName 7 = .ok (.if_icmp .ge 7, 3) := by decide +kernel
theorem dX8_isName_10 : decode cX8_isName 10 = .ok (.iconst 1, 1) := by decide +kernel
theorem dX8_isName_11 : decode cX8_isName 11 = .ok (.goto 4, 3) := by decide +kernel
theorem dX8_isName_14 : decode cX8_isName 14 = .ok (.iconst 0, 1) := by decide +kernel
theorem dX8_isName_15 : decode cX8_isName 15 = .ok (.ireturn, 1) := by decide +kernel
theorem dX8_isVariable_0 : decode cX8_isVariable 0 = .ok (.iload_n 0, 1) := by decide +kernel
theorem dX8_isVariable_1 : decode cX8_isVariable 1 = .ok (.iconst (-1), 1) := by decide +kernel
theorem dX8_isVariable_2 : decode cX8_isVariable 2 = .ok (.if_icmp .gt 13, 3) := by decide +kernel
theorem dX8_isVariable_5 : decode cX8_isVariable 5 = .ok (.iload_n 0, 1) := by decide +kernel
theorem dX8_isVariable_6 : decode cX8_isVariable 6 = .ok (.bipush (-5), 2) := by decide +kernel
theorem dX8_isVariable_8 : decode cX8_isVariable 8 = .ok (.if_icmp .le 7, 3) := by decide +kernel
theorem dX8_isVariable_11 : decode cX8_isVariable 11 = .ok (.iconst 1, 1) := by decide +kernel
theorem dX8_isVariable_12 : decode cX8_isVariable 12 = .ok (.goto 4, 3) := by decide +kernel
theorem dX8_isVariable_15 : decode cX8_isVariable 15 = .ok (.iconst 0, 1) := by decide +kernel
theorem dX8_isVariable_16 : decode cX8_isVariable 16 = .ok (.ireturn, 1) := by decide +kernel
theorem dX8_isNewBlank_0 : decode cX8_isNewBlank 0 = .ok (.iload_n 0, 1) := by decide +kernel
theorem dX8_isNewBlank_1 : decode cX8_isNewBlank 1 = .ok (.bipush (-11), 2) := by decide +kernel
theorem dX8_isNewBlank_3 : decode cX8_isNewBlank 3 = .ok (.if_icmp .gt 13, 3) := by decide +kernel
theorem dX8_isNewBlank_6 : decode cX8_isNewBlank 6 = .ok (.iload_n 0, 1) := by decide +kernel
theorem dX8_isNewBlank_7 : decode cX8_isNewBlank 7 = .ok (.bipush (-15), 2) := by decide +kernel
theorem dX8_isNewBlank_9 : decode cX8_isNewBlank 9 = .ok (.if_icmp .le 7, 3) := by decide +kernel
theorem dX8_isNewBlank_12 : decode cX8_isNewBlank 12 = .ok (.iconst 1, 1) := by decide +kernel
theorem dX8_isNewBlank_13 : decode cX8_isNewBlank 13 = .ok (.goto 4, 3) := by decide +kernel
theorem dX8_isNewBlank_16 : decode cX8_isNewBlank 16 = .ok (.iconst 0, 1) := by decide +kernel
theorem dX8_isNewBlank_17 : decode cX8_isNewBlank 17 = .ok (.ireturn, 1) := by decide +kernel
theorem dX8_isPassedOver_0 : decode cX8_isPassedOver 0 = .ok (.aload_n 0, 1) := by decide +kernel
theorem dX8_isPassedOver_1 : decode cX8_isPassedOver 1 = .ok (.getfield 82, 3) := by decide +kernel
theorem dX8_isPassedOver_4 : decode cX8_isPassedOver 4 = .ok (.ifCond .eq 12, 3) := by decide +kernel
theorem dX8_isPassedOver_7 : decode cX8_isPassedOver 7 = .ok (.iload_n 1, 1) := by decide +kernel
theorem dX8_isPassedOver_8 : decode cX8_isPassedOver 8 = .ok (.iconst 3, 1) := by decide +kernel
theorem dX8_isPassedOver_9 : decode cX8_isPassedOver 9 = .ok (.if_icmp .gt 7, 3) := by decide +kernel
theorem dX8_isPassedOver_12 : decode cX8_isPassedOver 12 = .ok (.iconst 1, 1) := by decide +kernel
theorem dX8_isPassedOver_13 : decode cX8_isPassedOver 13 = .ok (.goto 4, 3) := by decide +kernel
theorem dX8_isPassedOver_16 : decode cX8_isPassedOver 16 = .ok (.iconst 0, 1) := by decide +kernel
theorem dX8_isPassedOver_17 : decode cX8_isPassedOver 17 = .ok (.ireturn, 1) := by decide +kernel
theorem dX8_factOf_0 : decode cX8_factOf 0 = .ok (.iload_n 0, 1) := by decide +kernel
theorem dX8_factOf_1 : decode cX8_factOf 1 = .ok (.bipush 16, 2) := by decide +kernel
theorem dX8_factOf_3 : decode cX8_factOf 3 = .ok (.ishl, 1) := by decide +kernel
theorem dX8_factOf_4 : decode cX8_factOf 4 = .ok (.iload_n 1, 1) := by decide +kernel
theorem dX8_factOf_5 : decode cX8_factOf 5 = .ok (.bipush 8, 2) := by decide +kernel
theorem dX8_factOf_7 : decode cX8_factOf 7 = .ok (.ishl, 1) := by decide +kernel
theorem dX8_factOf_8 : decode cX8_factOf 8 = .ok (.ior, 1) := by decide +kernel
theorem dX8_factOf_9 : decode cX8_factOf 9 = .ok (.iload_n 2, 1) := by decide +kernel
theorem dX8_factOf_10 : decode cX8_factOf 10 = .ok (.ior, 1) := by decide +kernel
theorem dX8_factOf_11 : decode cX8_factOf 11 = .ok (.ireturn, 1) := by decide +kernel
theorem dX8_partOf_0 : decode cX8_partOf 0 = .ok (.iload_n 0, 1) := by decide +kernel
theorem dX8_partOf_1 : decode cX8_partOf 1 = .ok (.bipush 16, 2) := by decide +kernel
theorem dX8_partOf_3 : decode cX8_partOf 3 = .ok (.bipush 8, 2) := by decide +kernel
theorem dX8_partOf_5 : decode cX8_partOf 5 = .ok (.iload_n 1, 1) := by decide +kernel
theorem dX8_partOf_6 : decode cX8_partOf 6 = .ok (.imul, 1) := by decide +kernel
theorem dX8_partOf_7 : decode cX8_partOf 7 = .ok (.isub, 1) := by decide +kernel
theorem dX8_partOf_8 : decode cX8_partOf 8 = .ok (.ishr, 1) := by decide +kernel
theorem dX8_partOf_9 : decode cX8_partOf 9 = .ok (.sipush 255, 3) := by decide +kernel
theorem dX8_partOf_12 : decode cX8_partOf 12 = .ok (.iand, 1) := by decide +kernel
theorem dX8_partOf_13 : decode cX8_partOf 13 = .ok (.ireturn, 1) := by decide +kernel
theorem dX8_isPart_0 : decode cX8_isPart 0 = .ok (.iload_n 0, 1) := by decide +kernel
theorem dX8_isPart_1 : decode cX8_isPart 1 = .ok (.ifCond .lt 14, 3) := by decide +kernel
theorem dX8_isPart_4 : decode cX8_isPart 4 = .ok (.iload_n 0, 1) := by decide +kernel
theorem dX8_isPart_5 : decode cX8_isPart 5 = .ok (.sipush 255, 3) := by decide +kernel
theorem dX8_isPart_8 : decode cX8_isPart 8 = .ok (.if_icmp .gt 7, 3) := by decide +kernel
theorem dX8_isPart_11 : decode cX8_isPart 11 = .ok (.iconst 1, 1) := by decide +kernel
theorem dX8_isPart_12 : decode cX8_isPart 12 = .ok (.goto 4, 3) := by decide +kernel
theorem dX8_isPart_15 : decode cX8_isPart 15 = .ok (.iconst 0, 1) := by decide +kernel
theorem dX8_isPart_16 : decode cX8_isPart 16 = .ok (.ireturn, 1) := by decide +kernel
theorem dX9_init_0 : decode cX9_init 0 = .ok (.aload_n 0, 1) := by decide +kernel
theorem dX9_init_1 : decode cX9_init 1 = .ok (.invokespecial 1, 3) := by decide +kernel
theorem dX9_init_4 : decode cX9_init 4 = .ok (.aload_n 0, 1) := by decide +kernel
theorem dX9_init_5 : decode cX9_init 5 = .ok (.bipush 12, 2) := by decide +kernel
theorem dX9_init_7 : decode cX9_init 7 = .ok (.newarray .int, 2) := by decide +kernel
theorem dX9_init_9 : decode cX9_init 9 = .ok (.putfield 7, 3) := by decide +kernel
theorem dX9_init_12 : decode cX9_init 12 = .ok (.aload_n 0, 1) := by decide +kernel
theorem dX9_init_13 : decode cX9_init 13 = .ok (.bipush 12, 2) := by decide +kernel
theorem dX9_init_15 : decode cX9_init 15 = .ok (.newarray .int, 2) := by decide +kernel
theorem dX9_init_17 : decode cX9_init 17 = .ok (.putfield 13, 3) := by decide +kernel
theorem dX9_init_20 : decode cX9_init 20 = .ok (.aload_n 0, 1) := by decide +kernel
theorem dX9_init_21 : decode cX9_init 21 = .ok (.bipush 12, 2) := by decide +kernel
theorem dX9_init_23 : decode cX9_init 23 = .ok (.newarray .int, 2) := by decide +kernel
theorem dX9_init_25 : decode cX9_init 25 = .ok (.putfield 16, 3) := by decide +kernel
theorem dX9_init_28 : decode cX9_init 28 = .ok (.aload_n 0, 1) := by decide +kernel
theorem dX9_init_29 : decode cX9_init 29 = .ok (.bipush 12, 2) := by decide +kernel
theorem dX9_init_31 : decode cX9_init 31 = .ok (.newarray .boolean, 2) := by decide +kernel
theorem dX9_init_33 : decode cX9_init 33 = .ok (.putfield 19, 3) := by decide +kernel
theorem dX9_init_36 : decode cX9_init 36 = .ok (.aload_n 0, 1) := by decide +kernel
theorem dX9_init_37 : decode cX9_init 37 = .ok (.bipush 12, 2) := by decide +kernel
theorem dX9_init_39 : decode cX9_init 39 = .ok (.newarray .int, 2) := by decide +kernel
theorem dX9_init_41 : decode cX9_init 41 = .ok (.putfield 23, 3) := by decide +kernel
theorem dX9_init_44 : decode cX9_init 44 = .ok (.aload_n 0, 1) := by decide +kernel
theorem dX9_init_45 : decode cX9_init 45 = .ok (.bipush 72, 2) := by decide +kernel
theorem dX9_init_47 : decode cX9_init 47 = .ok (.newarray .int, 2) := by decide +kernel
theorem dX9_init_49 : decode cX9_init 49 = .ok (.putfield 26, 3) := by decide +kernel
theorem dX9_init_52 : decode cX9_init 52 = .ok (.aload_n 0, 1) := by decide +kernel
theorem dX9_init_53 : decode cX9_init 53 = .ok (.bipush 72, 2) := by decide +kernel
theorem dX9_init_55 : decode cX9_init 55 = .ok (.newarray .int, 2) := by decide +kernel
theorem dX9_init_57 : decode cX9_init 57 = .ok (.putfield 29, 3) := by decide +kernel
theorem dX9_init_60 : decode cX9_init 60 = .ok (.aload_n 0, 1) := by decide +kernel
theorem dX9_init_61 : decode cX9_init 61 = .ok (.bipush 72, 2) := by decide +kernel
theorem dX9_init_63 : decode cX9_init 63 = .ok (.newarray .int, 2) := by decide +kernel
theorem dX9_init_65 : decode cX9_init 65 = .ok (.putfield 32, 3) := by decide +kernel
theorem dX9_init_68 : decode cX9_init 68 = .ok (.aload_n 0, 1) := by decide +kernel
theorem dX9_init_69 : decode cX9_init 69 = .ok (.bipush 72, 2) := by decide +kernel
theorem dX9_init_71 : decode cX9_init 71 = .ok (.newarray .boolean, 2) := by decide +kernel
theorem dX9_init_73 : decode cX9_init 73 = .ok (.putfield 35, 3) := by decide +kernel
theorem dX9_init_76 : decode cX9_init 76 = .ok (.aload_n 0, 1) := by decide +kernel
theorem dX9_init_77 : decode cX9_init 77 = .ok (.bipush 12, 2) := by decide +kernel
theorem dX9_init_79 : decode cX9_init 79 = .ok (.newarray .int, 2) := by decide +kernel
theorem dX9_init_81 : decode cX9_init 81 = .ok (.putfield 38, 3) := by decide +kernel
theorem dX9_init_84 : decode cX9_init 84 = .ok (.aload_n 0, 1) := by decide +kernel
theorem dX9_init_85 : decode cX9_init 85 = .ok (.bipush 48, 2) := by decide +kernel
theorem dX9_init_87 : decode cX9_init 87 = .ok (.newarray .int, 2) := by decide +kernel
theorem dX9_init_89 : decode cX9_init 89 = .ok (.putfield 41, 3) := by decide +kernel
theorem dX9_init_92 : decode cX9_init 92 = .ok (.aload_n 0, 1) := by decide +kernel
theorem dX9_init_93 : decode cX9_init 93 = .ok (.bipush 48, 2) := by decide +kernel
theorem dX9_init_95 : decode cX9_init 95 = .ok (.newarray .int, 2) := by decide +kernel
theorem dX9_init_97 : decode cX9_init 97 = .ok (.putfield 44, 3) := by decide +kernel
theorem dX9_init_100 : decode cX9_init 100 = .ok (.aload_n 0, 1) := by decide +kernel
theorem dX9_init_101 : decode cX9_init 101 = .ok (.bipush 48, 2) := by decide +kernel
theorem dX9_init_103 : decode cX9_init 103 = .ok (.newarray .int, 2) := by decide +kernel
theorem dX9_init_105 : decode cX9_init 105 = .ok (.putfield 47, 3) := by decide +kernel
theorem dX9_init_108 : decode cX9_init 108 = .ok (.aload_n 0, 1) := by decide +kernel
theorem dX9_init_109 : decode cX9_init 109 = .ok (.iconst 4, 1) := by decide +kernel
theorem dX9_init_110 : decode cX9_init 110 = .ok (.newarray .int, 2) := by decide +kernel
theorem dX9_init_112 : decode cX9_init 112 = .ok (.putfield 50, 3) := by decide +kernel
theorem dX9_init_115 : decode cX9_init 115 = .ok (.aload_n 0, 1) := by decide +kernel
theorem dX9_init_116 : decode cX9_init 116 = .ok (.bipush 40, 2) := by decide +kernel
theorem dX9_init_118 : decode cX9_init 118 = .ok (.newarray .int, 2) := by decide +kernel
theorem dX9_init_120 : decode cX9_init 120 = .ok (.putfield 53, 3) := by decide +kernel
theorem dX9_init_123 : decode cX9_init 123 = .ok (.aload_n 0, 1) := by decide +kernel
theorem dX9_init_124 : decode cX9_init 124 = .ok (.bipush 40, 2) := by decide +kernel
theorem dX9_init_126 : decode cX9_init 126 = .ok (.newarray .int, 2) := by decide +kernel
theorem dX9_init_128 : decode cX9_init 128 = .ok (.putfield 56, 3) := by decide +kernel
theorem dX9_init_131 : decode cX9_init 131 = .ok (.aload_n 0, 1) := by decide +kernel
theorem dX9_init_132 : decode cX9_init 132 = .ok (.bipush 40, 2) := by decide +kernel
theorem dX9_init_134 : decode cX9_init 134 = .ok (.newarray .int, 2) := by decide +kernel
theorem dX9_init_136 : decode cX9_init 136 = .ok (.putfield 59, 3) := by decide +kernel
theorem dX9_init_139 : decode cX9_init 139 = .ok (.aload_n 0, 1) := by decide +kernel
theorem dX9_init_140 : decode cX9_init 140 = .ok (.iconst 4, 1) := by decide +kernel
theorem dX9_init_141 : decode cX9_init 141 = .ok (.newarray .boolean, 2) := by decide +kernel
theorem dX9_init_143 : decode cX9_init 143 = .ok (.putfield 62, 3) := by decide +kernel
theorem dX9_init_146 : decode cX9_init 146 = .ok (.aload_n 0, 1) := by decide +kernel
theorem dX9_init_147 : decode cX9_init 147 = .ok (.bipush 120, 2) := by decide +kernel
theorem dX9_init_149 : decode cX9_init 149 = .ok (.newarray .int, 2) := by decide +kernel
theorem dX9_init_151 : decode cX9_init 151 = .ok (.putfield 65, 3) := by decide +kernel
theorem dX9_init_154 : decode cX9_init 154 = .ok (.aload_n 0, 1) := by decide +kernel
theorem dX9_init_155 : decode cX9_init 155 = .ok (.bipush 120, 2) := by decide +kernel
theorem dX9_init_157 : decode cX9_init 157 = .ok (.newarray .int, 2) := by decide +kernel
theorem dX9_init_159 : decode cX9_init 159 = .ok (.putfield 68, 3) := by decide +kernel
theorem dX9_init_162 : decode cX9_init 162 = .ok (.aload_n 0, 1) := by decide +kernel
theorem dX9_init_163 : decode cX9_init 163 = .ok (.bipush 120, 2) := by decide +kernel
theorem dX9_init_165 : decode cX9_init 165 = .ok (.newarray .int, 2) := by decide +kernel
theorem dX9_init_167 : decode cX9_init 167 = .ok (.putfield 71, 3) := by decide +kernel
theorem dX9_init_170 : decode cX9_init 170 = .ok (.aload_n 0, 1) := by decide +kernel
theorem dX9_init_171 : decode cX9_init 171 = .ok (.bipush 120, 2) := by decide +kernel
theorem dX9_init_173 : decode cX9_init 173 = .ok (.newarray .int, 2) := by decide +kernel
theorem dX9_init_175 : decode cX9_init 175 = .ok (.putfield 74, 3) := by decide +kernel
theorem dX9_init_178 : decode cX9_init 178 = .ok (.aload_n 0, 1) := by decide +kernel
theorem dX9_init_179 : decode cX9_init 179 = .ok (.bipush 7, 2) := by decide +kernel
theorem dX9_init_181 : decode cX9_init 181 = .ok (.newarray .boolean, 2) := by decide +kernel
theorem dX9_init_183 : decode cX9_init 183 = .ok (.putfield 77, 3) := by decide +kernel
theorem dX9_init_186 : decode cX9_init 186 = .ok (.aload_n 0, 1) := by decide +kernel
theorem dX9_init_187 : decode cX9_init 187 = .ok (.bipush 120, 2) := by decide +kernel
theorem dX9_init_189 : decode cX9_init 189 = .ok (.newarray .int, 2) := by decide +kernel
theorem dX9_init_191 : decode cX9_init 191 = .ok (.putfield 80, 3) := by decide +kernel
theorem dX9_init_194 : decode cX9_init 194 = .ok (.aload_n 0, 1) := by decide +kernel
theorem dX9_init_195 : decode cX9_init 195 = .ok (.bipush 120, 2) := by decide +kernel
theorem dX9_init_197 : decode cX9_init 197 = .ok (.newarray .int, 2) := by decide +kernel
theorem dX9_init_199 : decode cX9_init 199 = .ok (.putfield 83, 3) := by decide +kernel
theorem dX9_init_202 : decode cX9_init 202 = .ok (.aload_n 0, 1) := by decide +kernel
theorem dX9_init_203 : decode cX9_init 203 = .ok (.bipush 120, 2) := by decide +kernel
theorem dX9_init_205 : decode cX9_init 205 = .ok (.newarray .int, 2) := by decide +kernel
theorem dX9_init_207 : decode cX9_init 207 = .ok (.putfield 86, 3) := by decide +kernel
theorem dX9_init_210 : decode cX9_init 210 = .ok (.aload_n 0, 1) := by decide +kernel
theorem dX9_init_211 : decode cX9_init 211 = .ok (.bipush 120, 2) := by decide +kernel
theorem dX9_init_213 : decode cX9_init 213 = .ok (.newarray .int, 2) := by decide +kernel
theorem dX9_init_215 : decode cX9_init 215 = .ok (.putfield 89, 3) := by decide +kernel
theorem dX9_init_218 : decode cX9_init 218 = .ok (.aload_n 0, 1) := by decide +kernel
theorem dX9_init_219 : decode cX9_init 219 = .ok (.bipush 7, 2) := by decide +kernel
theorem dX9_init_221 : decode cX9_init 221 = .ok (.newarray .boolean, 2) := by decide +kernel
theorem dX9_init_223 : decode cX9_init 223 = .ok (.putfield 92, 3) := by decide +kernel
theorem dX9_init_226 : decode cX9_init 226 = .ok (.aload_n 0, 1) := by decide +kernel
theorem dX9_init_227 : decode cX9_init 227 = .ok (.sipush 240, 3) := by decide +kernel
theorem dX9_init_230 : decode cX9_init 230 = .ok (.newarray .int, 2) := by decide +kernel
theorem dX9_init_232 : decode cX9_init 232 = .ok (.putfield 95, 3) := by decide +kernel
theorem dX9_init_235 : decode cX9_init 235 = .ok (.aload_n 0, 1) := by decide +kernel
theorem dX9_init_236 : decode cX9_init 236 = .ok (.sipush 240, 3) := by decide +kernel
theorem dX9_init_239 : decode cX9_init 239 = .ok (.newarray .int, 2) := by decide +kernel
theorem dX9_init_241 : decode cX9_init 241 = .ok (.putfield 98, 3) := by decide +kernel
theorem dX9_init_244 : decode cX9_init 244 = .ok (.aload_n 0, 1) := by decide +kernel
theorem dX9_init_245 : decode cX9_init 245 = .ok (.sipush 240, 3) := by decide +kernel
theorem dX9_init_248 : decode cX9_init 248 = .ok (.newarray .int, 2) := by decide +kernel
theorem dX9_init_250 : decode cX9_init 250 = .ok (.putfield 101, 3) := by decide +kernel
theorem dX9_init_253 : decode cX9_init 253 = .ok (.aload_n 0, 1) := by decide +kernel
theorem dX9_init_254 : decode cX9_init 254 = .ok (.sipush 240, 3) := by decide +kernel
theorem dX9_init_257 : decode cX9_init 257 = .ok (.newarray .int, 2) := by decide +kernel
theorem dX9_init_259 : decode cX9_init 259 = .ok (.putfield 104, 3) := by decide +kernel
theorem dX9_init_262 : decode cX9_init 262 = .ok (.aload_n 0, 1) := by decide +kernel
theorem dX9_init_263 : decode cX9_init 263 = .ok (.sipush 240, 3) := by decide +kernel
theorem dX9_init_266 : decode cX9_init 266 = .ok (.newarray .boolean, 2) := by decide +kernel
theorem dX9_init_268 : decode cX9_init 268 = .ok (.putfield 107, 3) := by decide +kernel
theorem dX9_init_271 : decode cX9_init 271 = .ok (.aload_n 0, 1) := by decide +kernel
theorem dX9_init_272 : decode cX9_init 272 = .ok (.bipush 12, 2) := by decide +kernel
theorem dX9_init_274 : decode cX9_init 274 = .ok (.newarray .int, 2) := by decide +kernel
theorem dX9_init_276 : decode cX9_init 276 = .ok (.putfield 110, 3) := by decide +kernel
theorem dX9_init_279 : decode cX9_init 279 = .ok (.aload_n 0, 1) := by decide +kernel
theorem dX9_init_280 : decode cX9_init 280 = .ok (.iconst (-1), 1) := by decide +kernel
theorem dX9_init_281 : decode cX9_init 281 = .ok (.putfield 113, 3) := by decide +kernel
theorem dX9_init_284 : decode cX9_init 284 = .ok (.aload_n 0, 1) := by decide +kernel
theorem dX9_init_285 : decode cX9_init 285 = .ok (.sipush 20400, 3) := by decide +kernel
theorem dX9_init_288 : decode cX9_init 288 = .ok (.newarray .int, 2) := by decide +kernel
theorem dX9_init_290 : decode cX9_init 290 = .ok (.putfield 117, 3) := by decide +kernel
theorem dX9_init_293 : decode cX9_init 293 = .ok (.aload_n 0, 1) := by decide +kernel
theorem dX9_init_294 : decode cX9_init 294 = .ok (.sipush 20400, 3) := by decide +kernel
theorem dX9_init_297 : decode cX9_init 297 = .ok (.newarray .int, 2) := by decide +kernel
theorem dX9_init_299 : decode cX9_init 299 = .ok (.putfield 120, 3) := by decide +kernel
theorem dX9_init_302 : decode cX9_init 302 = .ok (.aload_n 0, 1) := by decide +kernel
theorem dX9_init_303 : decode cX9_init 303 = .ok (.bipush 120, 2) := by decide +kernel
theorem dX9_init_305 : decode cX9_init 305 = .ok (.newarray .int, 2) := by decide +kernel
theorem dX9_init_307 : decode cX9_init 307 = .ok (.putfield 123, 3) := by decide +kernel
theorem dX9_init_310 : decode cX9_init 310 = .ok (.aload_n 0, 1) := by decide +kernel
theorem dX9_init_311 : decode cX9_init 311 = .ok (.iconst 4, 1) := by decide +kernel
theorem dX9_init_312 : decode cX9_init 312 = .ok (.newarray .int, 2) := by decide +kernel
theorem dX9_init_314 : decode cX9_init 314 = .ok (.putfield 126, 3) := by decide +kernel
theorem dX9_init_317 : decode cX9_init 317 = .ok (.aload_n 0, 1) := by decide +kernel
theorem dX9_init_318 : decode cX9_init 318 = .ok (.getfield 77, 3) := by decide +kernel
theorem dX9_init_321 : decode cX9_init 321 = .ok (.iconst 0, 1) := by decide +kernel
theorem dX9_init_322 : decode cX9_init 322 = .ok (.iconst 1, 1) := by decide +kernel
theorem dX9_init_323 : decode cX9_init 323 = .ok (.bastore, 1) := by decide +kernel
theorem dX9_init_324 : decode cX9_init 324 = .ok (.iconst 0, 1) := by decide +kernel
theorem dX9_init_325 : decode cX9_init 325 = .ok (.istore_n 1, 1) := by decide +kernel
theorem dX9_init_326 : decode cX9_init 326 = .ok (.iload_n 1, 1) := by decide +kernel
theorem dX9_init_327 : decode cX9_init 327 = .ok (.bipush 12, 2) := by decide +kernel
theorem dX9_init_329 : decode cX9_init 329 = .ok (.if_icmp .ge 16, 3) := by decide +kernel
theorem dX9_init_332 : decode cX9_init 332 = .ok (.aload_n 0, 1) := by decide +kernel
theorem dX9_init_333 : decode cX9_init 333 = .ok (.getfield 110, 3) := by decide +kernel
theorem dX9_init_336 : decode cX9_init 336 = .ok (.iload_n 1, 1) := by decide +kernel
theorem dX9_init_337 : decode cX9_init 337 = .ok (.iconst (-1), 1) := by decide +kernel
theorem dX9_init_338 : decode cX9_init 338 = .ok (.iastore, 1) := by decide +kernel
theorem dX9_init_339 : decode cX9_init 339 = .ok (.iinc 1 1, 3) := by decide +kernel
theorem dX9_init_342 : decode cX9_init 342 = .ok (.goto (-16), 3) := by decide +kernel
theorem dX9_init_345 : decode cX9_init 345 = .ok (.return_, 1) := by decide +kernel
theorem dX9_thrown_0 : decode cX9_thrown 0 = .ok (.aload_n 0, 1) := by decide +kernel
theorem dX9_thrown_1 : decode cX9_thrown 1 = .ok (.getfield 129, 3) := by decide +kernel
theorem dX9_thrown_4 : decode cX9_thrown 4 = .ok (.ireturn, 1) := by decide +kernel
theorem dX9_isIn_0 : decode cX9_isIn 0 = .ok (.iload_n 0, 1) := by decide +kernel
theorem dX9_isIn_1 : decode cX9_isIn 1 = .ok (.iload_n 1, 1) := by decide +kernel
theorem dX9_isIn_2 : decode cX9_isIn 2 = .ok (.if_icmp .lt 12, 3) := by decide +kernel
theorem dX9_isIn_5 : decode cX9_isIn 5 = .ok (.iload_n 0, 1) := by decide +kernel
theorem dX9_isIn_6 : decode cX9_isIn 6 = .ok (.iload_n 2, 1) := by decide +kernel
theorem dX9_isIn_7 : decode cX9_isIn 7 = .ok (.if_icmp .gt 7, 3) := by decide +kernel
theorem dX9_isIn_10 : decode cX9_isIn 10 = .ok (.iconst 1, 1) := by decide +kernel
theorem dX9_isIn_11 : decode cX9_isIn 11 = .ok (.goto 4, 3) := by decide +kernel
theorem dX9_isIn_14 : decode cX9_isIn 14 = .ok (.iconst 0, 1) := by decide +kernel
theorem dX9_isIn_15 : decode cX9_isIn 15 = .ok (.ireturn, 1) := by decide +kernel
theorem dX9_isStep_0 : decode cX9_isStep 0 = .ok (.iload_n 1, 1) := by decide +kernel
theorem dX9_isStep_1 : decode cX9_isStep 1 = .ok (.ifCond .lt 15, 3) := by decide +kernel
theorem dX9_isStep_4 : decode cX9_isStep 4 = .ok (.iload_n 1, 1) := by decide +kernel
theorem dX9_isStep_5 : decode cX9_isStep 5 = .ok (.aload_n 0, 1) := by decide +kernel
theorem dX9_isStep_6 : decode cX9_isStep 6 = .ok (.getfield 132, 3) := by decide +kernel
theorem dX9_isStep_9 : decode cX9_isStep 9 = .ok (.if_icmp .ge 7, 3) := by decide +kernel
theorem dX9_isStep_12 : decode cX9_isStep 12 = .ok (.iconst 1, 1) := by decide +kernel
theorem dX9_isStep_13 : decode cX9_isStep 13 = .ok (.goto 4, 3) := by decide +kernel
theorem dX9_isStep_16 : decode cX9_isStep 16 = .ok (.iconst 0, 1) := by decide +kernel
theorem dX9_isStep_17 : decode cX9_isStep 17 = .ok (.ireturn, 1) := by decide +kernel
theorem dX9_isTo_0 : decode cX9_isTo 0 = .ok (.iload_n 0, 1) := by decide +kernel
theorem dX9_isTo_1 : decode cX9_isTo 1 = .ok (.iconst 3, 1) := by decide +kernel
theorem dX9_isTo_2 : decode cX9_isTo 2 = .ok (.if_icmp .eq 8, 3) := by decide +kernel
theorem dX9_isTo_5 : decode cX9_isTo 5 = .ok (.iload_n 0, 1) := by decide +kernel
theorem dX9_isTo_6 : decode cX9_isTo 6 = .ok (.iconst 5, 1) := by decide +kernel
theorem dX9_isTo_7 : decode cX9_isTo 7 = .ok (.if_icmp .ne 12, 3) := by decide +kernel
theorem dX9_isTo_10 : decode cX9_isTo 10 = .ok (.iload_n 1, 1) := by decide +kernel
theorem dX9_isTo_11 : decode cX9_isTo 11 = .ok (.bipush (-2), 2) := by decide +kernel
theorem dX9_isTo_13 : decode cX9_isTo 13 = .ok (.bipush 6, 2) := by decide +kernel
theorem dX9_isTo_15 : decode cX9_isTo 15 = .ok (.invokestatic 135, 3) := by decide +kernel
theorem dX9_isTo_18 : decode cX9_isTo 18 = .ok (.ireturn, 1) := by decide +kernel
theorem dX9_isTo_19 : decode cX9_isTo 19 = .ok (.iload_n 1, 1) := by decide +kernel
theorem dX9_isTo_20 : decode cX9_isTo 20 = .ok (.iload_n 0, 1) := by decide +kernel
theorem dX9_isTo_21 : decode cX9_isTo 21 = .ok (.iconst 4, 1) := by decide +kernel
theorem dX9_isTo_22 : decode cX9_isTo 22 = .ok (.if_icmp .ne 7, 3) := by decide +kernel
theorem dX9_isTo_25 : decode cX9_isTo 25 = .ok (.iconst 1, 1) := by decide +kernel
theorem dX9_isTo_26 : decode cX9_isTo 26 = .ok (.goto 4, 3) := by decide +kernel
theorem dX9_isTo_29 : decode cX9_isTo 29 = .ok (.iconst 0, 1) := by decide +kernel
theorem dX9_isTo_30 : decode cX9_isTo 30 = .ok (.bipush 6, 2) := by decide +kernel
theorem dX9_isTo_32 : decode cX9_isTo 32 = .ok (.invokestatic 135, 3) := by decide +kernel
theorem dX9_isTo_35 : decode cX9_isTo 35 = .ok (.ireturn, 1) := by decide +kernel
theorem dX9_step_0 : decode cX9_step 0 = .ok (.iload_n 1, 1) := by decide +kernel
theorem dX9_step_1 : decode cX9_step 1 = .ok (.iconst 2, 1) := by decide +kernel
theorem dX9_step_2 : decode cX9_step 2 = .ok (.if_icmp .eq 9, 3) := by decide +kernel
theorem dX9_step_5 : decode cX9_step 5 = .ok (.iload_n 1, 1) := by decide +kernel
theorem dX9_step_6 : decode cX9_step 6 = .ok (.bipush 6, 2) := by decide +kernel
theorem dX9_step_8 : decode cX9_step 8 = .ok (.if_icmp .lt 7, 3) := by decide +kernel
theorem dX9_step_11 : decode cX9_step 11 = .ok (.iconst 1, 1) := by decide +kernel
theorem dX9_step_12 : decode cX9_step 12 = .ok (.goto 4, 3) := by decide +kernel
theorem dX9_step_15 : decode cX9_step 15 = .ok (.iconst 0, 1) := by decide +kernel
theorem dX9_step_16 : decode cX9_step 16 = .ok (.istore 4, 2) := by decide +kernel
theorem dX9_step_18 : decode cX9_step 18 = .ok (.iload_n 1, 1) := by decide +kernel
theorem dX9_step_19 : decode cX9_step 19 = .ok (.iconst 0, 1) := by decide +kernel
theorem dX9_step_20 : decode cX9_step 20 = .ok (.bipush 9, 2) := by decide +kernel
theorem dX9_step_22 : decode cX9_step 22 = .ok (.invokestatic 135, 3) := by decide +kernel
theorem dX9_step_25 : decode cX9_step 25 = .ok (.ifCond .eq 40, 3) := by decide +kernel
theorem dX9_step_28 : decode cX9_step 28 = .ok (.iload 4, 2) := by decide +kernel
theorem dX9_step_30 : decode cX9_step 30 = .ok (.ifCond .eq 23, 3) := by decide +kernel
theorem dX9_step_33 : decode cX9_step 33 = .ok (.iload_n 2, 1) := by decide +kernel
theorem dX9_step_34 : decode cX9_step 34 = .ok (.iconst 0, 1) := by decide +kernel
theorem dX9_step_35 : decode cX9_step 35 = .ok (.iload_n 1, 1) := by decide +kernel
theorem dX9_step_36 : decode cX9_step 36 = .ok (.bipush 9, 2) := by decide +kernel
theorem dX9_step_38 : decode cX9_step 38 = .ok (.if_icmp .ne 7, 3) := by decide +kernel
theorem dX9_step_41 : decode cX9_step 41 = .ok (.iconst 3, 1) := by decide +kernel
theorem dX9_step_42 : decode cX9_step 42 = .ok (.goto 5, 3) := by decide +kernel
theorem dX9_step_45 : decode cX9_step 45 = .ok (.bipush 6, 2) := by decide +kernel
theorem dX9_step_47 : decode cX9_step 47 = .ok (.invokestatic 135, 3) := by decide +kernel
theorem dX9_step_50 : decode cX9_step 50 = .ok (.ifCond .eq 15, 3) := by decide +kernel
theorem dX9_step_53 : decode cX9_step 53 = .ok (.iload_n 1, 1) := by decide +kernel
theorem dX9_step_54 : decode cX9_step 54 = .ok (.iload_n 3, 1) := by decide +kernel
theorem dX9_step_55 : decode cX9_step 55 = .ok (.invokestatic 139, 3) := by decide +kernel
theorem dX9_step_58 : decode cX9_step 58 = .ok (.ifCond .eq 7, 3) := by decide +kernel
theorem dX9_step_61 : decode cX9_step 61 = .ok (.iconst 1, 1) := by decide +kernel
theorem dX9_step_62 : decode cX9_step 62 = .ok (.goto 4, 3) := by decide +kernel
theorem dX9_step_65 : decode cX9_step 65 = .ok (.iconst 0, 1) := by decide +kernel
theorem dX9_step_66 : decode cX9_step 66 = .ok (.istore 5, 2) := by decide +kernel
theorem dX9_step_68 : decode cX9_step 68 = .ok (.aload_n 0, 1) := by decide +kernel
theorem dX9_step_69 : decode cX9_step 69 = .ok (.iload 5, 2) := by decide +kernel
theorem dX9_step_71 : decode cX9_step 71 = .ok (.ifCond .ne 7, 3) := by decide +kernel
theorem dX9_step_74 : decode cX9_step 74 = .ok (.iconst 1, 1) := by decide +kernel
theorem dX9_step_75 : decode cX9_step 75 = .ok (.goto 17, 3) := by decide +kernel
theorem dX9_step_78 : decode cX9_step 78 = .ok (.aload_n 0, 1) := by decide +kernel
theorem dX9_step_79 : decode cX9_step 79 = .ok (.getfield 132, 3) := by decide +kernel
theorem dX9_step_82 : decode cX9_step 82 = .ok (.bipush 12, 2) := by decide +kernel
theorem dX9_step_84 : decode cX9_step 84 = .ok (.if_icmp .ne 7, 3) := by decide +kernel
theorem dX9_step_87 : decode cX9_step 87 = .ok (.iconst 2, 1) := by decide +kernel
theorem dX9_step_88 : decode cX9_step 88 = .ok (.goto 4, 3) := by decide +kernel
theorem dX9_step_91 : decode cX9_step 91 = .ok (.iconst 0, 1) := by decide +kernel
theorem dX9_step_92 : decode cX9_step 92 = .ok (.putfield 129, 3) := by decide +kernel
theorem dX9_step_95 : decode cX9_step 95 = .ok (.aload_n 0, 1) := by decide +kernel
theorem dX9_step_96 : decode cX9_step 96 = .ok (.getfield 129, 3) := by decide +kernel
theorem dX9_step_99 : decode cX9_step 99 = .ok (.ifCond .le 5, 3) := by decide +kernel
theorem dX9_step_102 : decode cX9_step 102 = .ok (.iconst 0, 1) := by decide +kernel
theorem dX9_step_103 : decode cX9_step 103 = .ok (.ireturn, 1) := by decide +kernel
theorem dX9_step_104 : decode cX9_step 104 = .ok (.aload_n 0, 1) := by decide +kernel
theorem dX9_step_105 : decode cX9_step 105 = .ok (.getfield 7, 3) := by decide +kernel
theorem dX9_step_108 : decode cX9_step 108 = .ok (.aload_n 0, 1) := by decide +kernel
theorem dX9_step_109 : decode cX9_step 109 = .ok (.getfield 132, 3) := by decide +kernel
theorem dX9_step_112 : decode cX9_step 112 = .ok (.iload_n 1, 1) := by decide +kernel
theorem dX9_step_113 : decode cX9_step 113 = .ok (.iastore, 1) := by decide +kernel
theorem dX9_step_114 : decode cX9_step 114 = .ok (.aload_n 0, 1) := by decide +kernel
theorem dX9_step_115 : decode cX9_step 115 = .ok (.getfield 13, 3) := by decide +kernel
theorem dX9_step_118 : decode cX9_step 118 = .ok (.aload_n 0, 1) := by decide +kernel
theorem dX9_step_119 : decode cX9_step 119 = .ok (.getfield 132, 3) := by decide +kernel
theorem dX9_step_122 : decode cX9_step 122 = .ok (.iload_n 2, 1) := by decide +kernel
theorem dX9_step_123 : decode cX9_step 123 = .ok (.iastore, 1) := by decide +kernel
theorem dX9_step_124 : decode cX9_step 124 = .ok (.aload_n 0, 1) := by decide +kernel
theorem dX9_step_125 : decode cX9_step 125 = .ok (.getfield 16, 3) := by decide +kernel
theorem dX9_step_128 : decode cX9_step 128 = .ok (.aload_n 0, 1) := by decide +kernel
theorem dX9_step_129 : decode cX9_step 129 = .ok (.getfield 132, 3) := by decide +kernel
theorem dX9_step_132 : decode cX9_step 132 = .ok (.iload_n 3, 1) := by decide +kernel
theorem dX9_step_133 : decode cX9_step 133 = .ok (.iastore, 1) := by decide +kernel
theorem dX9_step_134 : decode cX9_step 134 = .ok (.aload_n 0, 1) := by decide +kernel
theorem dX9_step_135 : decode cX9_step 135 = .ok (.getfield 19, 3) := by decide +kernel
theorem dX9_step_138 : decode cX9_step 138 = .ok (.aload_n 0, 1) := by decide +kernel
theorem dX9_step_139 : decode cX9_step 139 = .ok (.getfield 132, 3) := by decide +kernel
theorem dX9_step_142 : decode cX9_step 142 = .ok (.iconst 0, 1) := by decide +kernel
theorem dX9_step_143 : decode cX9_step 143 = .ok (.bastore, 1) := by decide +kernel
theorem dX9_step_144 : decode cX9_step 144 = .ok (.aload_n 0, 1) := by decide +kernel
theorem dX9_step_145 : decode cX9_step 145 = .ok (.getfield 23, 3) := by decide +kernel
theorem dX9_step_148 : decode cX9_step 148 = .ok (.aload_n 0, 1) := by decide +kernel
theorem dX9_step_149 : decode cX9_step 149 = .ok (.getfield 132, 3) := by decide +kernel
theorem dX9_step_152 : decode cX9_step 152 = .ok (.iconst 0, 1) := by decide +kernel
theorem dX9_step_153 : decode cX9_step 153 = .ok (.iastore, 1) := by decide +kernel
theorem dX9_step_154 : decode cX9_step 154 = .ok (.aload_n 0, 1) := by decide +kernel
theorem dX9_step_155 : decode cX9_step 155 = .ok (.getfield 38, 3) := by decide +kernel
theorem dX9_step_158 : decode cX9_step 158 = .ok (.aload_n 0, 1) := by decide +kernel
theorem dX9_step_159 : decode cX9_step 159 = .ok (.getfield 132, 3) := by decide +kernel
theorem dX9_step_162 : decode cX9_step 162 = .ok (.iconst 0, 1) := by decide +kernel
theorem dX9_step_163 : decode cX9_step 163 = .ok (.iastore, 1) := by decide +kernel
theorem dX9_step_164 : decode cX9_step 164 = .ok (.aload_n 0, 1) := by decide +kernel
theorem dX9_step_165 : decode cX9_step 165 = .ok (.dup, 1) := by decide +kernel
theorem dX9_step_166 : decode cX9_step 166 = .ok (.getfield 132, 3) := by decide +kernel
theorem dX9_step_169 : decode cX9_step 169 = .ok (.iconst 1, 1) := by decide +kernel
theorem dX9_step_170 : decode cX9_step 170 = .ok (.iadd, 1) := by decide +kernel
theorem dX9_step_171 : decode cX9_step 171 = .ok (.putfield 132, 3) := by decide +kernel
theorem dX9_step_174 : decode cX9_step 174 = .ok (.aload_n 0, 1) := by decide +kernel
theorem dX9_step_175 : decode cX9_step 175 = .ok (.getfield 132, 3) := by decide +kernel
theorem dX9_step_178 : decode cX9_step 178 = .ok (.iconst 1, 1) := by decide +kernel
theorem dX9_step_179 : decode cX9_step 179 = .ok (.isub, 1) := by decide +kernel
theorem dX9_step_180 : decode cX9_step 180 = .ok (.ireturn, 1) := by decide +kernel
theorem dX9_silent_0 : decode cX9_silent 0 = .ok (.aload_n 0, 1) := by decide +kernel
theorem dX9_silent_1 : decode cX9_silent 1 = .ok (.aload_n 0, 1) := by decide +kernel
theorem dX9_silent_2 : decode cX9_silent 2 = .ok (.iload_n 1, 1) := by decide +kernel
theorem dX9_silent_3 : decode cX9_silent 3 = .ok (.invokevirtual 143, 3) := by decide +kernel
theorem dX9_silent_6 : decode cX9_silent 6 = .ok (.ifCond .eq 7, 3) := by decide +kernel
theorem dX9_silent_9 : decode cX9_silent 9 = .ok (.iconst 0, 1) := by decide +kernel
theorem dX9_silent_10 : decode cX9_silent 10 = .ok (.goto 4, 3) := by decide +kernel
theorem dX9_silent_13 : decode cX9_silent 13 = .ok (.iconst 1, 1) := by decide +kernel
theorem dX9_silent_14 : decode cX9_silent 14 = .ok (.putfield 129, 3) := by decide +kernel
theorem dX9_silent_17 : decode cX9_silent 17 = .ok (.aload_n 0, 1) := by decide +kernel
theorem dX9_silent_18 : decode cX9_silent 18 = .ok (.getfield 129, 3) := by decide +kernel
theorem dX9_silent_21 : decode cX9_silent 21 = .ok (.ifCond .le 5, 3) := by decide +kernel
theorem dX9_silent_24 : decode cX9_silent 24 = .ok (.iconst 0, 1) := by decide +kernel
theorem dX9_silent_25 : decode cX9_silent 25 = .ok (.ireturn, 1) := by decide +kernel
theorem dX9_silent_26 : decode cX9_silent 26 = .ok (.aload_n 0, 1) := by decide +kernel
theorem dX9_silent_27 : decode cX9_silent 27 = .ok (.getfield 19, 3) := by decide +kernel
theorem dX9_silent_30 : decode cX9_silent 30 = .ok (.iload_n 1, 1) := by decide +kernel
theorem dX9_silent_31 : decode cX9_silent 31 = .ok (.baload, 1) := by decide +kernel
theorem dX9_silent_32 : decode cX9_silent 32 = .ok (.istore_n 3, 1) := by decide +kernel
theorem dX9_silent_33 : decode cX9_silent 33 = .ok (.aload_n 0, 1) := by decide +kernel
theorem dX9_silent_34 : decode cX9_silent 34 = .ok (.getfield 19, 3) := by decide +kernel
theorem dX9_silent_37 : decode cX9_silent 37 = .ok (.iload_n 1, 1) := by decide +kernel
theorem dX9_silent_38 : decode cX9_silent 38 = .ok (.iload_n 2, 1) := by decide +kernel
theorem dX9_silent_39 : decode cX9_silent 39 = .ok (.bastore, 1) := by decide +kernel
theorem dX9_silent_40 : decode cX9_silent 40 = .ok (.iload_n 3, 1) := by decide +kernel
theorem dX9_silent_41 : decode cX9_silent 41 = .ok (.ireturn, 1) := by decide +kernel
theorem dX9_isName_0 : decode cX9_isName 0 = .ok (.iload_n 0, 1) := by decide +kernel
theorem dX9_isName_1 : decode cX9_isName 1 = .ok (.iconst 0, 1) := by decide +kernel
theorem dX9_isName_2 : decode cX9_isName 2 = .ok (.bipush 99, 2) := by decide +kernel
theorem dX9_isName_4 : decode cX9_isName 4 = .ok (.invokestatic 135, 3) := by decide +kernel
theorem dX9_isName_7 : decode cX9_isName 7 = .ok (.ireturn, 1) := by decide +kernel
theorem dX9_isVariable_0 : decode cX9_isVariable 0 = .ok (.iload_n 0, 1) := by decide +kernel
theorem dX9_isVariable_1 : decode cX9_isVariable 1 = .ok (.bipush (-4), 2) := by decide +kernel
theorem dX9_isVariable_3 : decode cX9_isVariable 3 = .ok (.iconst (-1), 1) := by decide +kernel
theorem dX9_isVariable_4 : decode cX9_isVariable 4 = .ok (.invokestatic 135, 3) := by decide +kernel
theorem dX9_isVariable_7 : decode cX9_isVariable 7 = .ok (.ireturn, 1) := by decide +kernel
theorem dX9_isNew_0 : decode cX9_isNew 0 = .ok (.iload_n 0, 1) := by decide +kernel
theorem dX9_isNew_1 : decode cX9_isNew 1 = .ok (.bipush (-14), 2) := by decide +kernel
theorem dX9_isNew_3 : decode cX9_isNew 3 = .ok (.bipush (-11), 2) := by decide +kernel
theorem dX9_isNew_5 : decode cX9_isNew 5 = .ok (.invokestatic 135, 3) := by decide +kernel
theorem dX9_isNew_8 : decode cX9_isNew 8 = .ok (.ireturn, 1) := by decide +kernel
theorem dX9_mayStand_0 : decode cX9_mayStand 0 = .ok (.iload_n 0, 1) := by decide +kernel
theorem dX9_mayStand_1 : decode cX9_mayStand 1 = .ok (.invokestatic 147, 3) := by decide +kernel
theorem dX9_mayStand_4 : decode cX9_mayStand 4 = .ok (.ifCond .ne 26, 3) := by decide +kernel
theorem dX9_mayStand_7 : decode cX9_mayStand 7 = .ok (.iload_n 1, 1) := by decide +kernel
theorem dX9_mayStand_8 : decode cX9_mayStand 8 = .ok (.iconst 2, 1) := by decide +kernel
theorem dX9_mayStand_9 : decode cX9_mayStand 9 = .ok (.if_icmp .ne 10, 3) := by decide +kernel
theorem dX9_mayStand_12 : decode cX9_mayStand 12 = .ok (.iload_n 0, 1) := by decide +kernel
theorem dX9_mayStand_13 : decode cX9_mayStand 13 = .ok (.invokestatic 150, 3) := by decide +kernel
theorem dX9_mayStand_16 : decode cX9_mayStand 16 = .ok (.ifCond .ne 14, 3) := by decide +kernel
theorem dX9_mayStand_19 : decode cX9_mayStand 19 = .ok (.iload_n 2, 1) := by decide +kernel
theorem dX9_mayStand_20 : decode cX9_mayStand 20 = .ok (.ifCond .eq 14, 3) := by decide +kernel
theorem dX9_mayStand_23 : decode cX9_mayStand 23 = .ok (.iload_n 0, 1) := by decide +kernel
theorem dX9_mayStand_24 : decode cX9_mayStand 24 = .ok (.invokestatic 153, 3) := by decide +kernel
theorem dX9_mayStand_27 : decode cX9_mayStand 27 = .ok (.ifCond .eq 7, 3) := by decide +kernel
theorem dX9_mayStand_30 : decode cX9_mayStand 30 = .ok (.iconst 1, 1) := by decide +kernel
theorem dX9_mayStand_31 : decode cX9_mayStand 31 = .ok (.goto 4, 3) := by decide +kernel
theorem dX9_mayStand_34 : decode cX9_mayStand 34 = .ok (.iconst 0, 1) := by decide +kernel
theorem dX9_mayStand_35 : decode cX9_mayStand 35 = .ok (.ireturn, 1) := by decide +kernel
theorem dX9_template_0 : decode cX9_template 0 = .ok (.aload_n 0, 1) := by decide +kernel
theorem dX9_template_1 : decode cX9_template 1 = .ok (.aload_n 0, 1) := by decide +kernel
theorem dX9_template_2 : decode cX9_template 2 = .ok (.iload_n 1, 1) := by decide +kernel
theorem dX9_template_3 : decode cX9_template 3 = .ok (.invokevirtual 143, 3) := by decide +kernel
theorem dX9_template_6 : decode cX9_template 6 = .ok (.ifCond .eq 7, 3) := by decide +kernel
theorem dX9_template_9 : decode cX9_template 9 = .ok (.iconst 0, 1) := by decide +kernel
theorem dX9_template_10 : decode cX9_template 10 = .ok (.goto 4, 3) := by decide +kernel
theorem dX9_template_13 : decode cX9_template 13 = .ok (.iconst 1, 1) := by decide +kernel
theorem dX9_template_14 : decode cX9_template 14 = .ok (.putfield 129, 3) := by decide +kernel
theorem dX9_template_17 : decode cX9_template 17 = .ok (.aload_n 0, 1) := by decide +kernel
theorem dX9_template_18 : decode cX9_template 18 = .ok (.getfield 129, 3) := by decide +kernel
theorem dX9_template_21 : decode cX9_template 21 = .ok (.ifCond .le 5, 3) := by decide +kernel
theorem dX9_template_24 : decode cX9_template 24 = .ok (.iconst 0, 1) := by decide +kernel
theorem dX9_template_25 : decode cX9_template 25 = .ok (.ireturn, 1) := by decide +kernel
theorem dX9_template_26 : decode cX9_template 26 = .ok (.aload_n 0, 1) := by decide +kernel
theorem dX9_template_27 : decode cX9_template 27 = .ok (.getfield 7, 3) := by decide +kernel
theorem dX9_template_30 : decode cX9_template 30 = .ok (.iload_n 1, 1) := by decide +kernel
theorem dX9_template_31 : decode cX9_template 31 = .ok (.iaload, 1) := by decide +kernel
theorem dX9_template_32 : decode cX9_template 32 = .ok (.istore 6, 2) := by decide +kernel
theorem dX9_template_34 : decode cX9_template 34 = .ok (.iload 6, 2) := by decide +kernel
theorem dX9_template_36 : decode cX9_template 36 = .ok (.iconst 3, 1) := by decide +kernel
theorem dX9_template_37 : decode cX9_template 37 = .ok (.if_icmp .ge 61, 3) := by decide +kernel
theorem dX9_template_40 : decode cX9_template 40 = .ok (.iload 6, 2) := by decide +kernel
theorem dX9_template_42 : decode cX9_template 42 = .ok (.ifCond .ne 8, 3) := by decide +kernel
theorem dX9_template_45 : decode cX9_template 45 = .ok (.iload 5, 2) := by decide +kernel
theorem dX9_template_47 : decode cX9_template 47 = .ok (.ifCond .eq 51, 3) := by decide +kernel
theorem dX9_template_50 : decode cX9_template 50 = .ok (.iload 6, 2) := by decide +kernel
theorem dX9_template_52 : decode cX9_template 52 = .ok (.iconst 1, 1) := by decide +kernel
theorem dX9_template_53 : decode cX9_template 53 = .ok (.if_icmp .ne 8, 3) := by decide +kernel
theorem dX9_template_56 : decode cX9_template 56 = .ok (.iload 5, 2) := by decide +kernel
theorem dX9_template_58 : decode cX9_template 58 = .ok (.ifCond .ne 40, 3) := by decide +kernel
theorem dX9_template_61 : decode cX9_template 61 = .ok (.iload_n 2, 1) := by decide +kernel
theorem dX9_template_62 : decode cX9_template 62 = .ok (.iload 6, 2) := by decide +kernel
theorem dX9_template_64 : decode cX9_template 64 = .ok (.iload 5, 2) := by decide +kernel
theorem dX9_template_66 : decode cX9_template 66 = .ok (.invokestatic 156, 3) := by decide +kernel
theorem dX9_template_69 : decode cX9_template 69 = .ok (.ifCond .eq 29, 3) := by decide +kernel
theorem dX9_template_72 : decode cX9_template 72 = .ok (.iload_n 3, 1) := by decide +kernel
theorem dX9_template_73 : decode cX9_template 73 = .ok (.iload 6, 2) := by decide +kernel
theorem dX9_template_75 : decode cX9_template 75 = .ok (.iconst 0, 1) := by decide +kernel
theorem dX9_template_76 : decode cX9_template 76 = .ok (.invokestatic 156, 3) := by decide +kernel
theorem dX9_template_79 : decode cX9_template 79 = .ok (.ifCond .eq 19, 3) := by decide +kernel
theorem dX9_template_82 : decode cX9_template 82 = .ok (.iload 4, 2) := by decide +kernel
theorem dX9_template_84 : decode cX9_template 84 = .ok (.iload 6, 2) := by decide +kernel
theorem dX9_template_86 : decode cX9_template 86 = .ok (.iload 5, 2) := by decide +kernel
theorem dX9_template_88 : decode cX9_template 88 = .ok (.invokestatic 156, 3) := by decide +kernel
theorem dX9_template_91 : decode cX9_template 91 = .ok (.ifCond .eq 7, 3) := by decide +kernel
theorem dX9_template_94 : decode cX9_template 94 = .ok (.iconst 1, 1) := by decide +kernel
theorem dX9_template_95 : decode cX9_template 95 = .ok (.goto 4, 3) := by decide +kernel
theorem dX9_template_98 : decode cX9_template 98 = .ok (.iconst 0, 1) := by decide +kernel
theorem dX9_template_99 : decode cX9_template 99 = .ok (.istore 7, 2) := by decide +kernel
theorem dX9_template_101 : decode cX9_template 101 = .ok (.aload_n 0, 1) := by decide +kernel
theorem dX9_template_102 : decode cX9_template 102 = .ok (.iload 7, 2) := by decide +kernel
theorem dX9_template_104 : decode cX9_template 104 = .ok (.ifCond .ne 7, 3) := by decide +kernel
theorem dX9_template_107 : decode cX9_template 107 = .ok (.iconst 2, 1) := by decide +kernel
theorem dX9_template_108 : decode cX9_template 108 = .ok (.goto 19, 3) := by decide +kernel
theorem dX9_template_111 : decode cX9_template 111 = .ok (.aload_n 0, 1) := by decide +kernel
theorem dX9_template_112 : decode cX9_template 112 = .ok (.getfield 23, 3) := by decide +kernel
theorem dX9_template_115 : decode cX9_template 115 = .ok (.iload_n 1, 1) := by decide +kernel
theorem dX9_template_116 : decode cX9_template 116 = .ok (.iaload, 1) := by decide +kernel
theorem dX9_template_117 : decode cX9_template 117 = .ok (.bipush 6, 2) := by decide +kernel
theorem dX9_template_119 : decode cX9_template 119 = .ok (.if_icmp .ne 7, 3) := by decide +kernel
theorem dX9_template_122 : decode cX9_template 122 = .ok (.iconst 3, 1) := by decide +kernel
theorem dX9_template_123 : decode cX9_template 123 = .ok (.goto 4, 3) := by decide +kernel
theorem dX9_template_126 : decode cX9_template 126 = .ok (.iconst 0, 1) := by decide +kernel
theorem dX9_template_127 : decode cX9_template 127 = .ok (.putfield 129, 3) := by decide +kernel
theorem dX9_template_130 : decode cX9_template 130 = .ok (.aload_n 0, 1) := by decide +kernel
theorem dX9_template_131 : decode cX9_template 131 = .ok (.getfield 129, 3) := by decide +kernel
theorem dX9_template_134 : decode cX9_template 134 = .ok (.ifCond .le 5, 3) := by decide +kernel
theorem dX9_template_137 : decode cX9_template 137 = .ok (.iconst 0, 1) := by decide +kernel
theorem dX9_template_138 : decode cX9_template 138 = .ok (.ireturn, 1) := by decide +kernel
theorem dX9_template_139 : decode cX9_template 139 = .ok (.bipush 6, 2) := by decide +kernel
theorem dX9_template_141 : decode cX9_template 141 = .ok (.iload_n 1, 1) := by decide +kernel
theorem dX9_template_142 : decode cX9_template 142 = .ok (.imul, 1) := by decide +kernel
theorem dX9_template_143 : decode cX9_template 143 = .ok (.aload_n 0, 1) := by decide +kernel
theorem dX9_template_144 : decode cX9_template 144 = .ok (.getfield 23, 3) := by decide +kernel
theorem dX9_template_147 : decode cX9_template 147 = .ok (.iload_n 1, 1) := by decide +kernel
theorem dX9_template_148 : decode cX9_template 148 = .ok (.iaload, 1) := by decide +kernel
theorem dX9_template_149 : decode cX9_template 149 = .ok (.iadd, 1) := by decide +kernel
theorem dX9_template_150 : decode cX9_template 150 = .ok (.istore 8, 2) := by decide +kernel
theorem dX9_template_152 : decode cX9_template 152 = .ok (.aload_n 0, 1) := by decide +kernel
theorem dX9_template_153 : decode cX9_template 153 = .ok (.getfield 26, 3) := by decide +kernel
theorem dX9_template_156 : decode cX9_template 156 = .ok (.iload 8, 2) := by decide +kernel
theorem dX9_template_158 : decode cX9_template 158 = .ok (.iload_n 2, 1) := by decide +kernel
theorem dX9_template_159 : decode cX9_template 159 = .ok (.iastore, 1) := by decide +kernel
theorem dX9_template_160 : decode cX9_template 160 = .ok (.aload_n 0, 1) := by decide +kernel
theorem dX9_template_161 : decode cX9_template 161 = .ok (.getfield 29, 3) := by decide +kernel
theorem dX9_template_164 : decode cX9_template 164 = .ok (.iload 8, 2) := by decide +kernel
theorem dX9_template_166 : decode cX9_template 166 = .ok (.iload_n 3, 1) := by decide +kernel
theorem dX9_template_167 : decode cX9_template 167 = .ok (.iastore, 1) := by decide +kernel
theorem dX9_template_168 : decode cX9_template 168 = .ok (.aload_n 0, 1) := by decide +kernel
theorem dX9_template_169 : decode cX9_template 169 = .ok (.getfield 32, 3) := by decide +kernel
theorem dX9_template_172 : decode cX9_template 172 = .ok (.iload 8, 2) := by decide +kernel
theorem dX9_template_174 : decode cX9_template 174 = .ok (.iload 4, 2) := by decide +kernel
theorem dX9_template_176 : decode cX9_template 176 = .ok (.iastore, 1) := by decide +kernel
theorem dX9_template_177 : decode cX9_template 177 = .ok (.aload_n 0, 1) := by decide +kernel
theorem dX9_template_178 : decode cX9_template 178 = .ok (.getfield 35, 3) := by decide +kernel
theorem dX9_template_181 : decode cX9_template 181 = .ok (.iload 8, 2) := by decide +kernel
theorem dX9_template_183 : decode cX9_template 183 = .ok (.iload 5, 2) := by decide +kernel
theorem dX9_template_185 : decode cX9_template 185 = .ok (.bastore, 1) := by decide +kernel
theorem dX9_template_186 : decode cX9_template 186 = .ok (.aload_n 0, 1) := by decide +kernel
theorem dX9_template_187 : decode cX9_template 187 = .ok (.getfield 23, 3) := by decide +kernel
theorem dX9_template_190 : decode cX9_template 190 = .ok (.iload_n 1, 1) := by decide +kernel
theorem dX9_template_191 : decode cX9_template 191 = .ok (.dup2, 1) := by decide +kernel
theorem dX9_template_192 : decode cX9_template 192 = .ok (.iaload, 1) := by decide +kernel
theorem dX9_template_193 : decode cX9_template 193 = .ok (.iconst 1, 1) := by decide +kernel
theorem dX9_template_194 : decode cX9_template 194 = .ok (.iadd, 1) := by decide +kernel
theorem dX9_template_195 : decode cX9_template 195 = .ok (.iastore, 1) := by decide +kernel
theorem dX9_template_196 : decode cX9_template 196 = .ok (.aload_n 0, 1) := by decide +kernel
theorem dX9_template_197 : decode cX9_template 197 = .ok (.getfield 23, 3) := by decide +kernel
theorem dX9_template_200 : decode cX9_template 200 = .ok (.iload_n 1, 1) := by decide +kernel
theorem dX9_template_201 : decode cX9_template 201 = .ok (.iaload, 1) := by decide +kernel
theorem dX9_template_202 : decode cX9_template 202 = .ok (.ireturn, 1) := by decide +kernel
theorem dX9_pattern_0 : decode cX9_pattern 0 = .ok (.aload_n 0, 1) := by decide +kernel
theorem dX9_pattern_1 : decode cX9_pattern 1 = .ok (.aload_n 0, 1) := by decide +kernel
theorem dX9_pattern_2 : decode cX9_pattern 2 = .ok (.iload_n 1, 1) := by decide +kernel
theorem dX9_pattern_3 : decode cX9_pattern 3 = .ok (.invokevirtual 143, 3) := by decide +kernel
theorem dX9_pattern_6 : decode cX9_pattern 6 = .ok (.ifCond .eq 7, 3) := by decide +kernel
theorem dX9_pattern_9 : decode cX9_pattern 9 = .ok (.iconst 0, 1) := by decide +kernel
theorem dX9_pattern_10 : decode cX9_pattern 10 = .ok (.goto 4, 3) := by decide +kernel
theorem dX9_pattern_13 : decode cX9_pattern 13 = .ok (.iconst 1, 1) := by decide +kernel
theorem dX9_pattern_14 : decode cX9_pattern 14 = .ok (.putfield 129, 3) := by decide +kernel
theorem dX9_pattern_17 : decode cX9_pattern 17 = .ok (.aload_n 0, 1) := by decide +kernel
theorem dX9_pattern_18 : decode cX9_pattern 18 = .ok (.getfield 129, 3) := by decide +kernel
theorem dX9_pattern_21 : decode cX9_pattern 21 = .ok (.ifCond .le 5, 3) := by decide +kernel
theorem dX9_pattern_24 : decode cX9_pattern 24 = .ok (.iconst 0, 1) := by decide +kernel
theorem dX9_pattern_25 : decode cX9_pattern 25 = .ok (.ireturn, 1) := by decide +kernel
theorem dX9_pattern_26 : decode cX9_pattern 26 = .ok (.aload_n 0, 1) := by decide +kernel
theorem dX9_pattern_27 : decode cX9_pattern 27 = .ok (.getfield 7, 3) := by decide +kernel
theorem dX9_pattern_30 : decode cX9_pattern 30 = .ok (.iload_n 1, 1) := by decide +kernel
theorem dX9_pattern_31 : decode cX9_pattern 31 = .ok (.iaload, 1) := by decide +kernel
theorem dX9_pattern_32 : decode cX9_pattern 32 = .ok (.iconst 2, 1) := by decide +kernel
theorem dX9_pattern_33 : decode cX9_pattern 33 = .ok (.if_icmp .ne 35, 3) := by decide +kernel
theorem dX9_pattern_36 : decode cX9_pattern 36 = .ok (.iload_n 2, 1) := by decide +kernel
theorem dX9_pattern_37 : decode cX9_pattern 37 = .ok (.iconst 2, 1) := by decide +kernel
theorem dX9_pattern_38 : decode cX9_pattern 38 = .ok (.iconst 0, 1) := by decide +kernel
theorem dX9_pattern_39 : decode cX9_pattern 39 = .ok (.invokestatic 156, 3) := by decide +kernel
theorem dX9_pattern_42 : decode cX9_pattern 42 = .ok (.ifCond .eq 26, 3) := by decide +kernel
theorem dX9_pattern_45 : decode cX9_pattern 45 = .ok (.iload_n 3, 1) := by decide +kernel
theorem dX9_pattern_46 : decode cX9_pattern 46 = .ok (.iconst 2, 1) := by decide +kernel
theorem dX9_pattern_47 : decode cX9_pattern 47 = .ok (.iconst 0, 1) := by decide +kernel
theorem dX9_pattern_48 : decode cX9_pattern 48 = .ok (.invokestatic 156, 3) := by decide +kernel
theorem dX9_pattern_51 : decode cX9_pattern 51 = .ok (.ifCond .eq 17, 3) := by decide +kernel
theorem dX9_pattern_54 : decode cX9_pattern 54 = .ok (.iload 4, 2) := by decide +kernel
theorem dX9_pattern_56 : decode cX9_pattern 56 = .ok (.iconst 2, 1) := by decide +kernel
theorem dX9_pattern_57 : decode cX9_pattern 57 = .ok (.iconst 0, 1) := by decide +kernel
theorem dX9_pattern_58 : decode cX9_pattern 58 = .ok (.invokestatic 156, 3) := by decide +kernel
theorem dX9_pattern_61 : decode cX9_pattern 61 = .ok (.ifCond .eq 7, 3) := by decide +kernel
theorem dX9_pattern_64 : decode cX9_pattern 64 = .ok (.iconst 1, 1) := by decide +kernel
theorem dX9_pattern_65 : decode cX9_pattern 65 = .ok (.goto 4, 3) := by decide +kernel
theorem dX9_pattern_68 : decode cX9_pattern 68 = .ok (.iconst 0, 1) := by decide +kernel
theorem dX9_pattern_69 : decode cX9_pattern 69 = .ok (.istore 5, 2) := by decide +kernel
theorem dX9_pattern_71 : decode cX9_pattern 71 = .ok (.aload_n 0, 1) := by decide +kernel
theorem dX9_pattern_72 : decode cX9_pattern 72 = .ok (.iload 5, 2) := by decide +kernel
theorem dX9_pattern_74 : decode cX9_pattern 74 = .ok (.ifCond .ne 7, 3) := by decide +kernel
theorem dX9_pattern_77 : decode cX9_pattern 77 = .ok (.iconst 2, 1) := by decide +kernel
theorem dX9_pattern_78 : decode cX9_pattern 78 = .ok (.goto 18, 3) := by decide +kernel
theorem dX9_pattern_81 : decode cX9_pattern 81 = .ok (.aload_n 0, 1) := by decide +kernel
theorem dX9_pattern_82 : decode cX9_pattern 82 = .ok (.getfield 38, 3) := by decide +kernel
theorem dX9_pattern_85 : decode cX9_pattern 85 = .ok (.iload_n 1, 1) := by decide +kernel
theorem dX9_pattern_86 : decode cX9_pattern 86 = .ok (.iaload, 1) := by decide +kernel
theorem dX9_pattern_87 : decode cX9_pattern 87 = .ok (.iconst 4, 1) := by decide +kernel
theorem dX9_pattern_88 : decode cX9_pattern 88 = .ok (.if_icmp .ne 7, 3) := by decide +kernel
theorem dX9_pattern_91 : decode cX9_pattern 91 = .ok (.iconst 3, 1) := by decide +kernel
theorem dX9_pattern_92 : decode cX9_pattern 92 = .ok (.goto 4, 3) := by decide +kernel
theorem dX9_pattern_95 : decode cX9_pattern 95 = .ok (.iconst 0, 1) := by decide +kernel
theorem dX9_pattern_96 : decode cX9_pattern 96 = .ok (.putfield 129, 3) := by decide +kernel
theorem dX9_pattern_99 : decode cX9_pattern 99 = .ok (.aload_n 0, 1) := by decide +kernel
theorem dX9_pattern_100 : decode cX9_pattern 100 = .ok (.getfield 129, 3) := by decide +kernel
theorem dX9_pattern_103 : decode cX9_pattern 103 = .ok (.ifCond .le 5, 3) := by decide +kernel
theorem dX9_pattern_106 : decode cX9_pattern 106 = .ok (.iconst 0, 1) := by decide +kernel
theorem dX9_pattern_107 : decode cX9_pattern 107 = .ok (.ireturn, 1) := by decide +kernel
theorem dX9_pattern_108 : decode cX9_pattern 108 = .ok (.iconst 4, 1) := by decide +kernel
theorem dX9_pattern_109 : decode cX9_pattern 109 = .ok (.iload_n 1, 1) := by decide +kernel
theorem dX9_pattern_110 : decode cX9_pattern 110 = .ok (.imul, 1) := by decide +kernel
theorem dX9_pattern_111 : decode cX9_pattern 111 = .ok (.aload_n 0, 1) := by decide +kernel
theorem dX9_pattern_112 : decode cX9_pattern 112 = .ok (.getfield 38, 3) := by decide +kernel
theorem dX9_pattern_115 : decode cX9_pattern 115 = .ok (.iload_n 1, 1) := by decide +kernel
theorem dX9_pattern_116 : decode cX9_pattern 116 = .ok (.iaload, 1) := by decide +kernel
theorem dX9_pattern_117 : decode cX9_pattern 117 = .ok (.iadd, 1) := by decide +kernel
theorem dX9_pattern_118 : decode cX9_pattern 118 = .ok (.istore 6, 2) := by decide +kernel
theorem dX9_pattern_120 : decode cX9_pattern 120 = .ok (.aload_n 0, 1) := by decide +kernel
theorem dX9_pattern_121 : decode cX9_pattern 121 = .ok (.getfield 41, 3) := by decide +kernel
theorem dX9_pattern_124 : decode cX9_pattern 124 = .ok (.iload 6, 2) := by decide +kernel
theorem dX9_pattern_126 : decode cX9_pattern 126 = .ok (.iload_n 2, 1) := by decide +kernel
theorem dX9_pattern_127 : decode cX9_pattern 127 = .ok (.iastore, 1) := by decide +kernel
theorem dX9_pattern_128 : decode cX9_pattern 128 = .ok (.aload_n 0, 1) := by decide +kernel
theorem dX9_pattern_129 : decode cX9_pattern 129 = .ok (.getfield 44, 3) := by decide +kernel
theorem dX9_pattern_132 : decode cX9_pattern 132 = .ok (.iload 6, 2) := by decide +kernel
theorem dX9_pattern_134 : decode cX9_pattern 134 = .ok (.iload_n 3, 1) := by decide +kernel
theorem dX9_pattern_135 : decode cX9_pattern 135 = .ok (.iastore, 1) := by decide +kernel
theorem dX9_pattern_136 : decode cX9_pattern 136 = .ok (.aload_n 0, 1) := by decide +kernel
theorem dX9_pattern_137 : decode cX9_pattern 137 = .ok (.getfield 47, 3) := by decide +kernel
theorem dX9_pattern_140 : decode cX9_pattern 140 = .ok (.iload 6, 2) := by decide +kernel
theorem dX9_pattern_142 : decode cX9_pattern 142 = .ok (.iload 4, 2) := by decide +kernel
theorem dX9_pattern_144 : decode cX9_pattern 144 = .ok (.iastore, 1) := by decide +kernel
theorem dX9_pattern_145 : decode cX9_pattern 145 = .ok (.aload_n 0, 1) := by decide +kernel
theorem dX9_pattern_146 : decode cX9_pattern 146 = .ok (.getfield 38, 3) := by decide +kernel
theorem dX9_pattern_149 : decode cX9_pattern 149 = .ok (.iload_n 1, 1) := by decide +kernel
theorem dX9_pattern_150 : decode cX9_pattern 150 = .ok (.dup2, 1) := by decide +kernel
theorem dX9_pattern_151 : decode cX9_pattern 151 = .ok (.iaload, 1) := by decide +kernel
theorem dX9_pattern_152 : decode cX9_pattern 152 = .ok (.iconst 1, 1) := by decide +kernel
theorem dX9_pattern_153 : decode cX9_pattern 153 = .ok (.iadd, 1) := by decide +kernel
theorem dX9_pattern_154 : decode cX9_pattern 154 = .ok (.iastore, 1) := by decide +kernel
theorem dX9_pattern_155 : decode cX9_pattern 155 = .ok (.aload_n 0, 1) := by decide +kernel
theorem dX9_pattern_156 : decode cX9_pattern 156 = .ok (.getfield 38, 3) := by decide +kernel
theorem dX9_pattern_159 : decode cX9_pattern 159 = .ok (.iload_n 1, 1) := by decide +kernel
theorem dX9_pattern_160 : decode cX9_pattern 160 = .ok (.iaload, 1) := by decide +kernel
theorem dX9_pattern_161 : decode cX9_pattern 161 = .ok (.ireturn, 1) := by decide +kernel
theorem dX9_file_0 : decode cX9_file 0 = .ok (.aload_n 0, 1) := by decide +kernel
theorem dX9_file_1 : decode cX9_file 1 = .ok (.iload_n 1, 1) := by decide +kernel
theorem dX9_file_2 : decode cX9_file 2 = .ok (.iconst 0, 1) := by decide +kernel
theorem dX9_file_3 : decode cX9_file 3 = .ok (.iconst 3, 1) := by decide +kernel
theorem dX9_file_4 : decode cX9_file 4 = .ok (.invokestatic 135, 3) := by decide +kernel
theorem dX9_file_7 : decode cX9_file 7 = .ok (.ifCond .ne 7, 3) := by decide +kernel
theorem dX9_file_10 : decode cX9_file 10 = .ok (.iconst 1, 1) := by decide +kernel
theorem dX9_file_11 : decode cX9_file 11 = .ok (.goto 45, 3) := by decide +kernel
theorem dX9_file_14 : decode cX9_file 14 = .ok (.iload_n 2, 1) := by decide +kernel
theorem dX9_file_15 : decode cX9_file 15 = .ok (.invokestatic 147, 3) := by decide +kernel
theorem dX9_file_18 : decode cX9_file 18 = .ok (.ifCond .eq 18, 3) := by decide +kernel
theorem dX9_file_21 : decode cX9_file 21 = .ok (.iload_n 3, 1) := by decide +kernel
theorem dX9_file_22 : decode cX9_file 22 = .ok (.invokestatic 147, 3) := by decide +kernel
theorem dX9_file_25 : decode cX9_file 25 = .ok (.ifCond .eq 11, 3) := by decide +kernel
theorem dX9_file_28 : decode cX9_file 28 = .ok (.iload 4, 2) := by decide +kernel
theorem dX9_file_30 : decode cX9_file 30 = .ok (.invokestatic 147, 3) := by decide +kernel
theorem dX9_file_33 : decode cX9_file 33 = .ok (.ifCond .ne 7, 3) := by decide +kernel
theorem dX9_file_36 : decode cX9_file 36 = .ok (.iconst 2, 1) := by decide +kernel
theorem dX9_file_37 : decode cX9_file 37 = .ok (.goto 19, 3) := by decide +kernel
theorem dX9_file_40 : decode cX9_file 40 = .ok (.aload_n 0, 1) := by decide +kernel
theorem dX9_file_41 : decode cX9_file 41 = .ok (.getfield 50, 3) := by decide +kernel
theorem dX9_file_44 : decode cX9_file 44 = .ok (.iload_n 1, 1) := by decide +kernel
theorem dX9_file_45 : decode cX9_file 45 = .ok (.iaload, 1) := by decide +kernel
theorem dX9_file_46 : decode cX9_file 46 = .ok (.bipush 10, 2) := by decide +kernel
theorem dX9_file_48 : decode cX9_file 48 = .ok (.if_icmp .ne 7, 3) := by decide +kernel
theorem dX9_file_51 : decode cX9_file 51 = .ok (.iconst 3, 1) := by decide +kernel
theorem dX9_file_52 : decode cX9_file 52 = .ok (.goto 4, 3) := by decide +kernel
theorem dX9_file_55 : decode cX9_file 55 = .ok (.iconst 0, 1) := by decide +kernel
theorem dX9_file_56 : decode cX9_file 56 = .ok (.putfield 129, 3) := by decide +kernel
theorem dX9_file_59 : decode cX9_file 59 = .ok (.aload_n 0, 1) := by decide +kernel
theorem dX9_file_60 : decode cX9_file 60 = .ok (.getfield 129, 3) := by decide +kernel
theorem dX9_file_63 : decode cX9_file 63 = .ok (.ifCond .le 5, 3) := by decide +kernel
theorem dX9_file_66 : decode cX9_file 66 = .ok (.iconst 0, 1) := by decide +kernel
theorem dX9_file_67 : decode cX9_file 67 = .ok (.ireturn, 1) := by decide +kernel
theorem dX9_file_68 : decode cX9_file 68 = .ok (.bipush 10, 2) := by decide +kernel
theorem dX9_file_70 : decode cX9_file 70 = .ok (.iload_n 1, 1) := by decide +kernel
theorem dX9_file_71 : decode cX9_file 71 = .ok (.imul, 1) := by decide +kernel
theorem dX9_file_72 : decode cX9_file 72 = .ok (.aload_n 0, 1) := by decide +kernel
theorem dX9_file_73 : decode cX9_file 73 = .ok (.getfield 50, 3) := by decide +kernel
theorem dX9_file_76 : decode cX9_file 76 = .ok (.iload_n 1, 1) := by decide +kernel
theorem dX9_file_77 : decode cX9_file 77 = .ok (.iaload, 1) := by decide +kernel
theorem dX9_file_78 : decode cX9_file 78 = .ok (.iadd, 1) := by decide +kernel
theorem dX9_file_79 : decode cX9_file 79 = .ok (.istore 5, 2) := by decide +kernel
theorem dX9_file_81 : decode cX9_file 81 = .ok (.aload_n 0, 1) := by decide +kernel
end

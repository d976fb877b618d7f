theorem d_Si_init_0 : decode b_Si_init 0 = .ok (.aload_n 0, 1) := by decide +kernel
theorem d_Si_init_1 : decode b_Si_init 1 = .ok (.invokespecial 3, 3) := by decide +kernel
theorem d_Si_init_4 : decode b_Si_init 4 = .ok (.aload_n 0, 1) := by decide +kernel
theorem d_Si_init_5 : decode b_Si_init 5 = .ok (.bipush 32, 2) := by decide +kernel
theorem d_Si_init_7 : decode b_Si_init 7 = .ok (.newarray .int, 2) := by decide +kernel
theorem d_Si_init_9 : decode b_Si_init 9 = .ok (.putfield 9, 3) := by decide +kernel
theorem d_Si_init_12 : decode b_Si_init 12 = .ok (.aload_n 0, 1) := by decide +kernel
theorem d_Si_init_13 : decode b_Si_init 13 = .ok (.bipush 32, 2) := by decide +kernel
theorem d_Si_init_15 : decode b_Si_init 15 = .ok (.newarray .int, 2) := by decide +kernel
theorem d_Si_init_17 : decode b_Si_init 17 = .ok (.putfield 15, 3) := by decide +kernel
theorem d_Si_init_20 : decode b_Si_init 20 = .ok (.aload_n 0, 1) := by decide +kernel
theorem d_Si_init_21 : decode b_Si_init 21 = .ok (.bipush 32, 2) := by decide +kernel
theorem d_Si_init_23 : decode b_Si_init 23 = .ok (.newarray .int, 2) := by decide +kernel
theorem d_Si_init_25 : decode b_Si_init 25 = .ok (.putfield 18, 3) := by decide +kernel
theorem d_Si_init_28 : decode b_Si_init 28 = .ok (.aload_n 0, 1) := by decide +kernel
theorem d_Si_init_29 : decode b_Si_init 29 = .ok (.bipush 32, 2) := by decide +kernel
theorem d_Si_init_31 : decode b_Si_init 31 = .ok (.newarray .int, 2) := by decide +kernel
theorem d_Si_init_33 : decode b_Si_init 33 = .ok (.putfield 21, 3) := by decide +kernel
theorem d_Si_init_36 : decode b_Si_init 36 = .ok (.aload_n 0, 1) := by decide +kernel
theorem d_Si_init_37 : decode b_Si_init 37 = .ok (.bipush 32, 2) := by decide +kernel
theorem d_Si_init_39 : decode b_Si_init 39 = .ok (.newarray .int, 2) := by decide +kernel
theorem d_Si_init_41 : decode b_Si_init 41 = .ok (.putfield 24, 3) := by decide +kernel
theorem d_Si_init_44 : decode b_Si_init 44 = .ok (.aload_n 0, 1) := by decide +kernel
theorem d_Si_init_45 : decode b_Si_init 45 = .ok (.bipush 32, 2) := by decide +kernel
theorem d_Si_init_47 : decode b_Si_init 47 = .ok (.newarray .int, 2) := by decide +kernel
theorem d_Si_init_49 : decode b_Si_init 49 = .ok (.putfield 27, 3) := by decide +kernel
theorem d_Si_init_52 : decode b_Si_init 52 = .ok (.aload_n 0, 1) := by decide +kernel
theorem d_Si_init_53 : decode b_Si_init 53 = .ok (.bipush 32, 2) := by decide +kernel
theorem d_Si_init_55 : decode b_Si_init 55 = .ok (.newarray .int, 2) := by decide +kernel
theorem d_Si_init_57 : decode b_Si_init 57 = .ok (.putfield 30, 3) := by decide +kernel
theorem d_Si_init_60 : decode b_Si_init 60 = .ok (.aload_n 0, 1) := by decide +kernel
theorem d_Si_init_61 : decode b_Si_init 61 = .ok (.bipush 32, 2) := by decide +kernel
theorem d_Si_init_63 : decode b_Si_init 63 = .ok (.newarray .int, 2) := by decide +kernel
theorem d_Si_init_65 : decode b_Si_init 65 = .ok (.putfield 33, 3) := by decide +kernel
theorem d_Si_init_68 : decode b_Si_init 68 = .ok (.aload_n 0, 1) := by decide +kernel
theorem d_Si_init_69 : decode b_Si_init 69 = .ok (.bipush 32, 2) := by decide +kernel
theorem d_Si_init_71 : decode b_Si_init 71 = .ok (.newarray .boolean, 2) := by decide +kernel
theorem d_Si_init_73 : decode b_Si_init 73 = .ok (.putfield 36, 3) := by decide +kernel
theorem d_Si_init_76 : decode b_Si_init 76 = .ok (.aload_n 0, 1) := by decide +kernel
theorem d_Si_init_77 : decode b_Si_init 77 = .ok (.bipush 32, 2) := by decide +kernel
theorem d_Si_init_79 : decode b_Si_init 79 = .ok (.newarray .boolean, 2) := by decide +kernel
theorem d_Si_init_81 : decode b_Si_init 81 = .ok (.putfield 40, 3) := by decide +kernel
theorem d_Si_init_84 : decode b_Si_init 84 = .ok (.aload_n 0, 1) := by decide +kernel
theorem d_Si_init_85 : decode b_Si_init 85 = .ok (.iconst 0, 1) := by decide +kernel
theorem d_Si_init_86 : decode b_Si_init 86 = .ok (.putfield 43, 3) := by decide +kernel
theorem d_Si_init_89 : decode b_Si_init 89 = .ok (.aload_n 0, 1) := by decide +kernel
theorem d_Si_init_90 : decode b_Si_init 90 = .ok (.iconst 0, 1) := by decide +kernel
theorem d_Si_init_91 : decode b_Si_init 91 = .ok (.putfield 47, 3) := by decide +kernel
theorem d_Si_init_94 : decode b_Si_init 94 = .ok (.aload_n 0, 1) := by decide +kernel
theorem d_Si_init_95 : decode b_Si_init 95 = .ok (.sipush 1000, 3) := by decide +kernel
theorem d_Si_init_98 : decode b_Si_init 98 = .ok (.putfield 50, 3) := by decide +kernel
theorem d_Si_init_101 : decode b_Si_init 101 = .ok (.aload_n 0, 1) := by decide +kernel
theorem d_Si_init_102 : decode b_Si_init 102 = .ok (.iconst 0, 1) := by decide +kernel
theorem d_Si_init_103 : decode b_Si_init 103 = .ok (.putfield 53, 3) := by decide +kernel
theorem d_Si_init_106 : decode b_Si_init 106 = .ok (.aload_n 0, 1) := by decide +kernel
theorem d_Si_init_107 : decode b_Si_init 107 = .ok (.aload_n 1, 1) := by decide +kernel
theorem d_Si_init_108 : decode b_Si_init 108 = .ok (.putfield 56, 3) := by decide +kernel
theorem d_Si_init_111 : decode b_Si_init 111 = .ok (.return_, 1) := by decide +kernel
theorem d_Si_useTimes_0 : decode b_Si_useTimes 0 = .ok (.aload_n 0, 1) := by decide +kernel
theorem d_Si_useTimes_1 : decode b_Si_useTimes 1 = .ok (.iload_n 1, 1) := by decide +kernel
theorem d_Si_useTimes_2 : decode b_Si_useTimes 2 = .ok (.putfield 47, 3) := by decide +kernel
theorem d_Si_useTimes_5 : decode b_Si_useTimes 5 = .ok (.aload_n 0, 1) := by decide +kernel
theorem d_Si_useTimes_6 : decode b_Si_useTimes 6 = .ok (.iload_n 2, 1) := by decide +kernel
theorem d_Si_useTimes_7 : decode b_Si_useTimes 7 = .ok (.putfield 50, 3) := by decide +kernel
theorem d_Si_useTimes_10 : decode b_Si_useTimes 10 = .ok (.return_, 1) := by decide +kernel
theorem d_Si_passTime_0 : decode b_Si_passTime 0 = .ok (.aload_n 0, 1) := by decide +kernel
theorem d_Si_passTime_1 : decode b_Si_passTime 1 = .ok (.dup, 1) := by decide +kernel
theorem d_Si_passTime_2 : decode b_Si_passTime 2 = .ok (.getfield 53, 3) := by decide +kernel
theorem d_Si_passTime_5 : decode b_Si_passTime 5 = .ok (.iload_n 1, 1) := by decide +kernel
theorem d_Si_passTime_6 : decode b_Si_passTime 6 = .ok (.iadd, 1) := by decide +kernel
theorem d_Si_passTime_7 : decode b_Si_passTime 7 = .ok (.putfield 53, 3) := by decide +kernel
theorem d_Si_passTime_10 : decode b_Si_passTime 10 = .ok (.aload_n 0, 1) := by decide +kernel
theorem d_Si_passTime_11 : decode b_Si_passTime 11 = .ok (.getfield 53, 3) := by decide +kernel
theorem d_Si_passTime_14 : decode b_Si_passTime 14 = .ok (.ireturn, 1) := by decide +kernel
theorem d_Si_make_0 : decode b_Si_make 0 = .ok (.aload_n 0, 1) := by decide +kernel
theorem d_Si_make_1 : decode b_Si_make 1 = .ok (.getfield 43, 3) := by decide +kernel
theorem d_Si_make_4 : decode b_Si_make 4 = .ok (.bipush 32, 2) := by decide +kernel
theorem d_Si_make_6 : decode b_Si_make 6 = .ok (.if_icmp .lt 6, 3) := by decide +kernel
theorem d_Si_make_9 : decode b_Si_make 9 = .ok (.bipush (-2), 2) := by decide +kernel
theorem d_Si_make_11 : decode b_Si_make 11 = .ok (.ireturn, 1) := by decide +kernel
theorem d_Si_make_12 : decode b_Si_make 12 = .ok (.aload_n 0, 1) := by decide +kernel
theorem d_Si_make_13 : decode b_Si_make 13 = .ok (.getfield 43, 3) := by decide +kernel
theorem d_Si_make_16 : decode b_Si_make 16 = .ok (.istore 5, 2) := by decide +kernel
theorem d_Si_make_18 : decode b_Si_make 18 = .ok (.aload_n 0, 1) := by decide +kernel
theorem d_Si_make_19 : decode b_Si_make 19 = .ok (.dup, 1) := by decide +kernel
theorem d_Si_make_20 : decode b_Si_make 20 = .ok (.getfield 43, 3) := by decide +kernel
theorem d_Si_make_23 : decode b_Si_make 23 = .ok (.iconst 1, 1) := by decide +kernel
theorem d_Si_make_24 : decode b_Si_make 24 = .ok (.iadd, 1) := by decide +kernel
theorem d_Si_make_25 : decode b_Si_make 25 = .ok (.putfield 43, 3) := by decide +kernel
theorem d_Si_make_28 : decode b_Si_make 28 = .ok (.aload_n 0, 1) := by decide +kernel
theorem d_Si_make_29 : decode b_Si_make 29 = .ok (.getfield 9, 3) := by decide +kernel
theorem d_Si_make_32 : decode b_Si_make 32 = .ok (.iload 5, 2) := by decide +kernel
theorem d_Si_make_34 : decode b_Si_make 34 = .ok (.iload_n 1, 1) := by decide +kernel
theorem d_Si_make_35 : decode b_Si_make 35 = .ok (.iastore, 1) := by decide +kernel
theorem d_Si_make_36 : decode b_Si_make 36 = .ok (.aload_n 0, 1) := by decide +kernel
theorem d_Si_make_37 : decode b_Si_make 37 = .ok (.getfield 15, 3) := by decide +kernel
theorem d_Si_make_40 : decode b_Si_make 40 = .ok (.iload 5, 2) := by decide +kernel
theorem d_Si_make_42 : decode b_Si_make 42 = .ok (.iload_n 2, 1) := by decide +kernel
theorem d_Si_make_43 : decode b_Si_make 43 = .ok (.iastore, 1) := by decide +kernel
theorem d_Si_make_44 : decode b_Si_make 44 = .ok (.aload_n 0, 1) := by decide +kernel
theorem d_Si_make_45 : decode b_Si_make 45 = .ok (.getfield 18, 3) := by decide +kernel
theorem d_Si_make_48 : decode b_Si_make 48 = .ok (.iload 5, 2) := by decide +kernel
theorem d_Si_make_50 : decode b_Si_make 50 = .ok (.iload_n 3, 1) := by decide +kernel
theorem d_Si_make_51 : decode b_Si_make 51 = .ok (.iastore, 1) := by decide +kernel
theorem d_Si_make_52 : decode b_Si_make 52 = .ok (.aload_n 0, 1) := by decide +kernel
theorem d_Si_make_53 : decode b_Si_make 53 = .ok (.getfield 21, 3) := by decide +kernel
theorem d_Si_make_56 : decode b_Si_make 56 = .ok (.iload 5, 2) := by decide +kernel
theorem d_Si_make_58 : decode b_Si_make 58 = .ok (.iload 4, 2) := by decide +kernel
theorem d_Si_make_60 : decode b_Si_make 60 = .ok (.iastore, 1) := by decide +kernel
theorem d_Si_make_61 : decode b_Si_make 61 = .ok (.aload_n 0, 1) := by decide +kernel
theorem d_Si_make_62 : decode b_Si_make 62 = .ok (.getfield 24, 3) := by decide +kernel
theorem d_Si_make_65 : decode b_Si_make 65 = .ok (.iload 5, 2) := by decide +kernel
theorem d_Si_make_67 : decode b_Si_make 67 = .ok (.aload_n 0, 1) := by decide +kernel
theorem d_Si_make_68 : decode b_Si_make 68 = .ok (.getfield 47, 3) := by decide +kernel
theorem d_Si_make_71 : decode b_Si_make 71 = .ok (.iastore, 1) := by decide +kernel
theorem d_Si_make_72 : decode b_Si_make 72 = .ok (.aload_n 0, 1) := by decide +kernel
theorem d_Si_make_73 : decode b_Si_make 73 = .ok (.getfield 27, 3) := by decide +kernel
theorem d_Si_make_76 : decode b_Si_make 76 = .ok (.iload 5, 2) := by decide +kernel
theorem d_Si_make_78 : decode b_Si_make 78 = .ok (.aload_n 0, 1) := by decide +kernel
theorem d_Si_make_79 : decode b_Si_make 79 = .ok (.getfield 50, 3) := by decide +kernel
theorem d_Si_make_82 : decode b_Si_make 82 = .ok (.iastore, 1) := by decide +kernel
theorem d_Si_make_83 : decode b_Si_make 83 = .ok (.aload_n 0, 1) := by decide +kernel
theorem d_Si_make_84 : decode b_Si_make 84 = .ok (.getfield 30, 3) := by decide +kernel
theorem d_Si_make_87 : decode b_Si_make 87 = .ok (.iload 5, 2) := by decide +kernel
theorem d_Si_make_89 : decode b_Si_make 89 = .ok (.iload_n 1, 1) := by decide +kernel
theorem d_Si_make_90 : decode b_Si_make 90 = .ok (.invokestatic 60, 3) := by decide +kernel
theorem d_Si_make_93 : decode b_Si_make 93 = .ok (.iload 4, 2) := by decide +kernel
theorem d_Si_make_95 : decode b_Si_make 95 = .ok (.invokestatic 66, 3) := by decide +kernel
theorem d_Si_make_98 : decode b_Si_make 98 = .ok (.iastore, 1) := by decide +kernel
theorem d_Si_make_99 : decode b_Si_make 99 = .ok (.aload_n 0, 1) := by decide +kernel
theorem d_Si_make_100 : decode b_Si_make 100 = .ok (.getfield 33, 3) := by decide +kernel
theorem d_Si_make_103 : decode b_Si_make 103 = .ok (.iload 5, 2) := by decide +kernel
theorem d_Si_make_105 : decode b_Si_make 105 = .ok (.aload_n 0, 1) := by decide +kernel
theorem d_Si_make_106 : decode b_Si_make 106 = .ok (.iload 5, 2) := by decide +kernel
theorem d_Si_make_108 : decode b_Si_make 108 = .ok (.invokevirtual 70, 3) := by decide +kernel
theorem d_Si_make_111 : decode b_Si_make 111 = .ok (.iastore, 1) := by decide +kernel
theorem d_Si_make_112 : decode b_Si_make 112 = .ok (.iload 5, 2) := by decide +kernel
theorem d_Si_make_114 : decode b_Si_make 114 = .ok (.ireturn, 1) := by decide +kernel
theorem d_Si_shiftMark_0 : decode b_Si_shiftMark 0 = .ok (.iload_n 1, 1) := by decide +kernel
theorem d_Si_shiftMark_1 : decode b_Si_shiftMark 1 = .ok (.ifCond .lt 11, 3) := by decide +kernel
theorem d_Si_shiftMark_4 : decode b_Si_shiftMark 4 = .ok (.iload_n 1, 1) := by decide +kernel
theorem d_Si_shiftMark_5 : decode b_Si_shiftMark 5 = .ok (.aload_n 0, 1) := by decide +kernel
theorem d_Si_shiftMark_6 : decode b_Si_shiftMark 6 = .ok (.getfield 43, 3) := by decide +kernel
theorem d_Si_shiftMark_9 : decode b_Si_shiftMark 9 = .ok (.if_icmp .lt 5, 3) := by decide +kernel
theorem d_Si_shiftMark_12 : decode b_Si_shiftMark 12 = .ok (.iconst 0, 1) := by decide +kernel
theorem d_Si_shiftMark_13 : decode b_Si_shiftMark 13 = .ok (.ireturn, 1) := by decide +kernel
theorem d_Si_shiftMark_14 : decode b_Si_shiftMark 14 = .ok (.aload_n 0, 1) := by decide +kernel
theorem d_Si_shiftMark_15 : decode b_Si_shiftMark 15 = .ok (.getfield 33, 3) := by decide +kernel
theorem d_Si_shiftMark_18 : decode b_Si_shiftMark 18 = .ok (.iload_n 1, 1) := by decide +kernel
theorem d_Si_shiftMark_19 : decode b_Si_shiftMark 19 = .ok (.dup2, 1) := by decide +kernel
theorem d_Si_shiftMark_20 : decode b_Si_shiftMark 20 = .ok (.iaload, 1) := by decide +kernel
theorem d_Si_shiftMark_21 : decode b_Si_shiftMark 21 = .ok (.iload_n 2, 1) := by decide +kernel
theorem d_Si_shiftMark_22 : decode b_Si_shiftMark 22 = .ok (.iadd, 1) := by decide +kernel
theorem d_Si_shiftMark_23 : decode b_Si_shiftMark 23 = .ok (.iastore, 1) := by decide +kernel
theorem d_Si_shiftMark_24 : decode b_Si_shiftMark 24 = .ok (.iconst 1, 1) := by decide +kernel
theorem d_Si_shiftMark_25 : decode b_Si_shiftMark 25 = .ok (.ireturn, 1) := by decide +kernel
theorem d_Si_judge_0 : decode b_Si_judge 0 = .ok (.iconst 0, 1) := by decide +kernel
theorem d_Si_judge_1 : decode b_Si_judge 1 = .ok (.istore_n 3, 1) := by decide +kernel
theorem d_Si_judge_2 : decode b_Si_judge 2 = .ok (.iload_n 3, 1) := by decide +kernel
theorem d_Si_judge_3 : decode b_Si_judge 3 = .ok (.aload_n 0, 1) := by decide +kernel
theorem d_Si_judge_4 : decode b_Si_judge 4 = .ok (.getfield 43, 3) := by decide +kernel
theorem d_Si_judge_7 : decode b_Si_judge 7 = .ok (.if_icmp .ge 63, 3) := by decide +kernel
theorem d_Si_judge_10 : decode b_Si_judge 10 = .ok (.aload_n 0, 1) := by decide +kernel
theorem d_Si_judge_11 : decode b_Si_judge 11 = .ok (.getfield 36, 3) := by decide +kernel
theorem d_Si_judge_14 : decode b_Si_judge 14 = .ok (.iload_n 3, 1) := by decide +kernel
theorem d_Si_judge_15 : decode b_Si_judge 15 = .ok (.aload_n 0, 1) := by decide +kernel
theorem d_Si_judge_16 : decode b_Si_judge 16 = .ok (.iload_n 3, 1) := by decide +kernel
theorem d_Si_judge_17 : decode b_Si_judge 17 = .ok (.iload_n 1, 1) := by decide +kernel
theorem d_Si_judge_18 : decode b_Si_judge 18 = .ok (.aload_n 2, 1) := by decide +kernel
theorem d_Si_judge_19 : decode b_Si_judge 19 = .ok (.invokevirtual 73, 3) := by decide +kernel
theorem d_Si_judge_22 : decode b_Si_judge 22 = .ok (.bastore, 1) := by decide +kernel
theorem d_Si_judge_23 : decode b_Si_judge 23 = .ok (.aload_n 0, 1) := by decide +kernel
theorem d_Si_judge_24 : decode b_Si_judge 24 = .ok (.getfield 40, 3) := by decide +kernel
theorem d_Si_judge_27 : decode b_Si_judge 27 = .ok (.iload_n 3, 1) := by decide +kernel
theorem d_Si_judge_28 : decode b_Si_judge 28 = .ok (.aload_n 0, 1) := by decide +kernel
theorem d_Si_judge_29 : decode b_Si_judge 29 = .ok (.getfield 36, 3) := by decide +kernel
theorem d_Si_judge_32 : decode b_Si_judge 32 = .ok (.iload_n 3, 1) := by decide +kernel
theorem d_Si_judge_33 : decode b_Si_judge 33 = .ok (.baload, 1) := by decide +kernel
theorem d_Si_judge_34 : decode b_Si_judge 34 = .ok (.ifCond .eq 28, 3) := by decide +kernel
theorem d_Si_judge_37 : decode b_Si_judge 37 = .ok (.aload_n 0, 1) := by decide +kernel
theorem d_Si_judge_38 : decode b_Si_judge 38 = .ok (.getfield 21, 3) := by decide +kernel
theorem d_Si_judge_41 : decode b_Si_judge 41 = .ok (.iload_n 3, 1) := by decide +kernel
theorem d_Si_judge_42 : decode b_Si_judge 42 = .ok (.iaload, 1) := by decide +kernel
theorem d_Si_judge_43 : decode b_Si_judge 43 = .ok (.aload_n 0, 1) := by decide +kernel
theorem d_Si_judge_44 : decode b_Si_judge 44 = .ok (.getfield 9, 3) := by decide +kernel
theorem d_Si_judge_47 : decode b_Si_judge 47 = .ok (.iload_n 3, 1) := by decide +kernel
theorem d_Si_judge_48 : decode b_Si_judge 48 = .ok (.iaload, 1) := by decide +kernel
theorem d_Si_judge_49 : decode b_Si_judge 49 = .ok (.invokestatic 60, 3) := by decide +kernel
theorem d_Si_judge_52 : decode b_Si_judge 52 = .ok (.invokestatic 77, 3) := by decide +kernel
theorem d_Si_judge_55 : decode b_Si_judge 55 = .ok (.if_icmp .ne 7, 3) := by decide +kernel
theorem d_Si_judge_58 : decode b_Si_judge 58 = .ok (.iconst 1, 1) := by decide +kernel
theorem d_Si_judge_59 : decode b_Si_judge 59 = .ok (.goto 4, 3) := by decide +kernel
theorem d_Si_judge_62 : decode b_Si_judge 62 = .ok (.iconst 0, 1) := by decide +kernel
theorem d_Si_judge_63 : decode b_Si_judge 63 = .ok (.bastore, 1) := by decide +kernel
theorem d_Si_judge_64 : decode b_Si_judge 64 = .ok (.iinc 3 1, 3) := by decide +kernel
theorem d_Si_judge_67 : decode b_Si_judge 67 = .ok (.goto (-65), 3) := by decide +kernel
theorem d_Si_judge_70 : decode b_Si_judge 70 = .ok (.return_, 1) := by decide +kernel
theorem d_Si_isPlain_0 : decode b_Si_isPlain 0 = .ok (.iconst 0, 1) := by decide +kernel
theorem d_Si_isPlain_1 : decode b_Si_isPlain 1 = .ok (.istore_n 2, 1) := by decide +kernel
theorem d_Si_isPlain_2 : decode b_Si_isPlain 2 = .ok (.iload_n 2, 1) := by decide +kernel
theorem d_Si_isPlain_3 : decode b_Si_isPlain 3 = .ok (.aload_n 0, 1) := by decide +kernel
theorem d_Si_isPlain_4 : decode b_Si_isPlain 4 = .ok (.getfield 43, 3) := by decide +kernel
theorem d_Si_isPlain_7 : decode b_Si_isPlain 7 = .ok (.if_icmp .ge 30, 3) := by decide +kernel
theorem d_Si_isPlain_10 : decode b_Si_isPlain 10 = .ok (.aload_n 0, 1) := by decide +kernel
theorem d_Si_isPlain_11 : decode b_Si_isPlain 11 = .ok (.getfield 40, 3) := by decide +kernel
theorem d_Si_isPlain_14 : decode b_Si_isPlain 14 = .ok (.iload_n 2, 1) := by decide +kernel
theorem d_Si_isPlain_15 : decode b_Si_isPlain 15 = .ok (.baload, 1) := by decide +kernel
theorem d_Si_isPlain_16 : decode b_Si_isPlain 16 = .ok (.ifCond .eq 15, 3) := by decide +kernel
theorem d_Si_isPlain_19 : decode b_Si_isPlain 19 = .ok (.aload_n 0, 1) := by decide +kernel
theorem d_Si_isPlain_20 : decode b_Si_isPlain 20 = .ok (.getfield 9, 3) := by decide +kernel
theorem d_Si_isPlain_23 : decode b_Si_isPlain 23 = .ok (.iload_n 2, 1) := by decide +kernel
theorem d_Si_isPlain_24 : decode b_Si_isPlain 24 = .ok (.iaload, 1) := by decide +kernel
theorem d_Si_isPlain_25 : decode b_Si_isPlain 25 = .ok (.iload_n 1, 1) := by decide +kernel
theorem d_Si_isPlain_26 : decode b_Si_isPlain 26 = .ok (.if_icmp .ne 5, 3) := by decide +kernel
theorem d_Si_isPlain_29 : decode b_Si_isPlain 29 = .ok (.iconst 1, 1) := by decide +kernel
theorem d_Si_isPlain_30 : decode b_Si_isPlain 30 = .ok (.ireturn, 1) := by decide +kernel
theorem d_Si_isPlain_31 : decode b_Si_isPlain 31 = .ok (.iinc 2 1, 3) := by decide +kernel
theorem d_Si_isPlain_34 : decode b_Si_isPlain 34 = .ok (.goto (-32), 3) := by decide +kernel
theorem d_Si_isPlain_37 : decode b_Si_isPlain 37 = .ok (.iconst 0, 1) := by decide +kernel
theorem d_Si_isPlain_38 : decode b_Si_isPlain 38 = .ok (.ireturn, 1) := by decide +kernel
theorem d_Si_labelsOfFirstGood_0 : decode b_Si_labelsOfFirstGood 0 = .ok (.iconst 0, 1) := by decide +kernel
theorem d_Si_labelsOfFirstGood_1 : decode b_Si_labelsOfFirstGood 1 = .ok (.istore_n 2, 1) := by decide +kernel
theorem d_Si_labelsOfFirstGood_2 : decode b_Si_labelsOfFirstGood 2 = .ok (.iload_n 2, 1) := by decide +kernel
theorem d_Si_labelsOfFirstGood_3 : decode b_Si_labelsOfFirstGood 3 = .ok (.aload_n 0, 1) := by decide +kernel
theorem d_Si_labelsOfFirstGood_4 : decode b_Si_labelsOfFirstGood 4 = .ok (.getfield 43, 3) := by decide +kernel
theorem d_Si_labelsOfFirstGood_7 : decode b_Si_labelsOfFirstGood 7 = .ok (.if_icmp .ge 35, 3) := by decide +kernel
theorem d_Si_labelsOfFirstGood_10 : decode b_Si_labelsOfFirstGood 10 = .ok (.aload_n 0, 1) := by decide +kernel
theorem d_Si_labelsOfFirstGood_11 : decode b_Si_labelsOfFirstGood 11 = .ok (.getfield 36, 3) := by decide +kernel
theorem d_Si_labelsOfFirstGood_14 : decode b_Si_labelsOfFirstGood 14 = .ok (.iload_n 2, 1) := by decide +kernel
theorem d_Si_labelsOfFirstGood_15 : decode b_Si_labelsOfFirstGood 15 = .ok (.baload, 1) := by decide +kernel
theorem d_Si_labelsOfFirstGood_16 : decode b_Si_labelsOfFirstGood 16 = .ok (.ifCond .eq 20, 3) := by decide +kernel
theorem d_Si_labelsOfFirstGood_19 : decode b_Si_labelsOfFirstGood 19 = .ok (.aload_n 0, 1) := by decide +kernel
theorem d_Si_labelsOfFirstGood_20 : decode b_Si_labelsOfFirstGood 20 = .ok (.getfield 9, 3) := by decide +kernel
theorem d_Si_labelsOfFirstGood_23 : decode b_Si_labelsOfFirstGood 23 = .ok (.iload_n 2, 1) := by decide +kernel
theorem d_Si_labelsOfFirstGood_24 : decode b_Si_labelsOfFirstGood 24 = .ok (.iaload, 1) := by decide +kernel
theorem d_Si_labelsOfFirstGood_25 : decode b_Si_labelsOfFirstGood 25 = .ok (.iload_n 1, 1) := by decide +kernel
theorem d_Si_labelsOfFirstGood_26 : decode b_Si_labelsOfFirstGood 26 = .ok (.if_icmp .ne 10, 3) := by decide +kernel
theorem d_Si_labelsOfFirstGood_29 : decode b_Si_labelsOfFirstGood 29 = .ok (.aload_n 0, 1) := by decide +kernel
theorem d_Si_labelsOfFirstGood_30 : decode b_Si_labelsOfFirstGood 30 = .ok (.getfield 21, 3) := by decide +kernel
theorem d_Si_labelsOfFirstGood_33 : decode b_Si_labelsOfFirstGood 33 = .ok (.iload_n 2, 1) := by decide +kernel
theorem d_Si_labelsOfFirstGood_34 : decode b_Si_labelsOfFirstGood 34 = .ok (.iaload, 1) := by decide +kernel
theorem d_Si_labelsOfFirstGood_35 : decode b_Si_labelsOfFirstGood 35 = .ok (.ireturn, 1) := by decide +kernel
theorem d_Si_labelsOfFirstGood_36 : decode b_Si_labelsOfFirstGood 36 = .ok (.iinc 2 1, 3) := by decide +kernel
theorem d_Si_labelsOfFirstGood_39 : decode b_Si_labelsOfFirstGood 39 = .ok (.goto (-37), 3) := by decide +kernel
theorem d_Si_labelsOfFirstGood_42 : decode b_Si_labelsOfFirstGood 42 = .ok (.iconst (-1), 1) := by decide +kernel
theorem d_Si_labelsOfFirstGood_43 : decode b_Si_labelsOfFirstGood 43 = .ok (.ireturn, 1) := by decide +kernel
theorem d_Si_isGood_0 : decode b_Si_isGood 0 = .ok (.aload_n 0, 1) := by decide +kernel
theorem d_Si_isGood_1 : decode b_Si_isGood 1 = .ok (.getfield 15, 3) := by decide +kernel
theorem d_Si_isGood_4 : decode b_Si_isGood 4 = .ok (.iload_n 1, 1) := by decide +kernel
theorem d_Si_isGood_5 : decode b_Si_isGood 5 = .ok (.iaload, 1) := by decide +kernel
theorem d_Si_isGood_6 : decode b_Si_isGood 6 = .ok (.iload_n 2, 1) := by decide +kernel
theorem d_Si_isGood_7 : decode b_Si_isGood 7 = .ok (.if_icmp .ne 92, 3) := by decide +kernel
theorem d_Si_isGood_10 : decode b_Si_isGood 10 = .ok (.iload_n 2, 1) := by decide +kernel
theorem d_Si_isGood_11 : decode b_Si_isGood 11 = .ok (.aload_n 0, 1) := by decide +kernel
theorem d_Si_isGood_12 : decode b_Si_isGood 12 = .ok (.getfield 9, 3) := by decide +kernel
theorem d_Si_isGood_15 : decode b_Si_isGood 15 = .ok (.iload_n 1, 1) := by decide +kernel
theorem d_Si_isGood_16 : decode b_Si_isGood 16 = .ok (.iaload, 1) := by decide +kernel
theorem d_Si_isGood_17 : decode b_Si_isGood 17 = .ok (.invokestatic 60, 3) := by decide +kernel
theorem d_Si_isGood_20 : decode b_Si_isGood 20 = .ok (.invokestatic 80, 3) := by decide +kernel
theorem d_Si_isGood_23 : decode b_Si_isGood 23 = .ok (.ifCond .eq 76, 3) := by decide +kernel
theorem d_Si_isGood_26 : decode b_Si_isGood 26 = .ok (.aload_n 3, 1) := by decide +kernel
theorem d_Si_isGood_27 : decode b_Si_isGood 27 = .ok (.aload_n 0, 1) := by decide +kernel
theorem d_Si_isGood_28 : decode b_Si_isGood 28 = .ok (.getfield 18, 3) := by decide +kernel
theorem d_Si_isGood_31 : decode b_Si_isGood 31 = .ok (.iload_n 1, 1) := by decide +kernel
theorem d_Si_isGood_32 : decode b_Si_isGood 32 = .ok (.iaload, 1) := by decide +kernel
theorem d_Si_isGood_33 : decode b_Si_isGood 33 = .ok (.invokevirtual 84, 3) := by decide +kernel
theorem d_Si_isGood_36 : decode b_Si_isGood 36 = .ok (.ifCond .eq 63, 3) := by decide +kernel
theorem d_Si_isGood_39 : decode b_Si_isGood 39 = .ok (.aload_n 0, 1) := by decide +kernel
theorem d_Si_isGood_40 : decode b_Si_isGood 40 = .ok (.getfield 53, 3) := by decide +kernel
theorem d_Si_isGood_43 : decode b_Si_isGood 43 = .ok (.aload_n 0, 1) := by decide +kernel
theorem d_Si_isGood_44 : decode b_Si_isGood 44 = .ok (.getfield 24, 3) := by decide +kernel
theorem d_Si_isGood_47 : decode b_Si_isGood 47 = .ok (.iload_n 1, 1) := by decide +kernel
theorem d_Si_isGood_48 : decode b_Si_isGood 48 = .ok (.iaload, 1) := by decide +kernel
theorem d_Si_isGood_49 : decode b_Si_isGood 49 = .ok (.if_icmp .lt 50, 3) := by decide +kernel
theorem d_Si_isGood_52 : decode b_Si_isGood 52 = .ok (.aload_n 0, 1) := by decide +kernel
theorem d_Si_isGood_53 : decode b_Si_isGood 53 = .ok (.getfield 53, 3) := by decide +kernel
theorem d_Si_isGood_56 : decode b_Si_isGood 56 = .ok (.aload_n 0, 1) := by decide +kernel
theorem d_Si_isGood_57 : decode b_Si_isGood 57 = .ok (.getfield 27, 3) := by decide +kernel
theorem d_Si_isGood_60 : decode b_Si_isGood 60 = .ok (.iload_n 1, 1) := by decide +kernel
theorem d_Si_isGood_61 : decode b_Si_isGood 61 = .ok (.iaload, 1) := by decide +kernel
theorem d_Si_isGood_62 : decode b_Si_isGood 62 = .ok (.if_icmp .gt 37, 3) := by decide +kernel
theorem d_Si_isGood_65 : decode b_Si_isGood 65 = .ok (.aload_n 0, 1) := by decide +kernel
theorem d_Si_isGood_66 : decode b_Si_isGood 66 = .ok (.getfield 56, 3) := by decide +kernel
theorem d_Si_isGood_69 : decode b_Si_isGood 69 = .ok (.aload_n 0, 1) := by decide +kernel
theorem d_Si_isGood_70 : decode b_Si_isGood 70 = .ok (.getfield 9, 3) := by decide +kernel
theorem d_Si_isGood_73 : decode b_Si_isGood 73 = .ok (.iload_n 1, 1) := by decide +kernel
theorem d_Si_isGood_74 : decode b_Si_isGood 74 = .ok (.iaload, 1) := by decide +kernel
theorem d_Si_isGood_75 : decode b_Si_isGood 75 = .ok (.invokevirtual 90, 3) := by decide +kernel
theorem d_Si_isGood_78 : decode b_Si_isGood 78 = .ok (.ifCond .le 21, 3) := by decide +kernel
theorem d_Si_isGood_81 : decode b_Si_isGood 81 = .ok (.aload_n 0, 1) := by decide +kernel
theorem d_Si_isGood_82 : decode b_Si_isGood 82 = .ok (.getfield 33, 3) := by decide +kernel
theorem d_Si_isGood_85 : decode b_Si_isGood 85 = .ok (.iload_n 1, 1) := by decide +kernel
theorem d_Si_isGood_86 : decode b_Si_isGood 86 = .ok (.iaload, 1) := by decide +kernel
theorem d_Si_isGood_87 : decode b_Si_isGood 87 = .ok (.aload_n 0, 1) := by decide +kernel
theorem d_Si_isGood_88 : decode b_Si_isGood 88 = .ok (.iload_n 1, 1) := by decide +kernel
theorem d_Si_isGood_89 : decode b_Si_isGood 89 = .ok (.invokevirtual 70, 3) := by decide +kernel
theorem d_Si_isGood_92 : decode b_Si_isGood 92 = .ok (.if_icmp .ne 7, 3) := by decide +kernel
theorem d_Si_isGood_95 : decode b_Si_isGood 95 = .ok (.iconst 1, 1) := by decide +kernel
theorem d_Si_isGood_96 : decode b_Si_isGood 96 = .ok (.goto 4, 3) := by decide +kernel
theorem d_Si_isGood_99 : decode b_Si_isGood 99 = .ok (.iconst 0, 1) := by decide +kernel
theorem d_Si_isGood_100 : decode b_Si_isGood 100 = .ok (.ireturn, 1) := by decide +kernel
theorem d_Si_markNow_0 : decode b_Si_markNow 0 = .ok (.lconst 0, 1) := by decide +kernel
theorem d_Si_markNow_1 : decode b_Si_markNow 1 = .ok (.aload_n 0, 1) := by decide +kernel
theorem d_Si_markNow_2 : decode b_Si_markNow 2 = .ok (.getfield 18, 3) := by decide +kernel
theorem d_Si_markNow_5 : decode b_Si_markNow 5 = .ok (.iload_n 1, 1) := by decide +kernel
theorem d_Si_markNow_6 : decode b_Si_markNow 6 = .ok (.iaload, 1) := by decide +kernel
theorem d_Si_markNow_7 : decode b_Si_markNow 7 = .ok (.invokestatic 95, 3) := by decide +kernel
theorem d_Si_markNow_10 : decode b_Si_markNow 10 = .ok (.lstore_n 2, 1) := by decide +kernel
theorem d_Si_markNow_11 : decode b_Si_markNow 11 = .ok (.lload_n 2, 1) := by decide +kernel
theorem d_Si_markNow_12 : decode b_Si_markNow 12 = .ok (.aload_n 0, 1) := by decide +kernel
theorem d_Si_markNow_13 : decode b_Si_markNow 13 = .ok (.getfield 15, 3) := by decide +kernel
theorem d_Si_markNow_16 : decode b_Si_markNow 16 = .ok (.iload_n 1, 1) := by decide +kernel
theorem d_Si_markNow_17 : decode b_Si_markNow 17 = .ok (.iaload, 1) := by decide +kernel
theorem d_Si_markNow_18 : decode b_Si_markNow 18 = .ok (.invokestatic 95, 3) := by decide +kernel
theorem d_Si_markNow_21 : decode b_Si_markNow 21 = .ok (.lstore_n 2, 1) := by decide +kernel
theorem d_Si_markNow_22 : decode b_Si_markNow 22 = .ok (.lload_n 2, 1) := by decide +kernel
theorem d_Si_markNow_23 : decode b_Si_markNow 23 = .ok (.aload_n 0, 1) := by decide +kernel
theorem d_Si_markNow_24 : decode b_Si_markNow 24 = .ok (.getfield 9, 3) := by decide +kernel
theorem d_Si_markNow_27 : decode b_Si_markNow 27 = .ok (.iload_n 1, 1) := by decide +kernel
theorem d_Si_markNow_28 : decode b_Si_markNow 28 = .ok (.iaload, 1) := by decide +kernel
theorem d_Si_markNow_29 : decode b_Si_markNow 29 = .ok (.invokestatic 101, 3) := by decide +kernel
theorem d_Si_markNow_32 : decode b_Si_markNow 32 = .ok (.invokestatic 95, 3) := by decide +kernel
theorem d_Si_markNow_35 : decode b_Si_markNow 35 = .ok (.lstore_n 2, 1) := by decide +kernel
theorem d_Si_markNow_36 : decode b_Si_markNow 36 = .ok (.lload_n 2, 1) := by decide +kernel
theorem d_Si_markNow_37 : decode b_Si_markNow 37 = .ok (.aload_n 0, 1) := by decide +kernel
theorem d_Si_markNow_38 : decode b_Si_markNow 38 = .ok (.getfield 21, 3) := by decide +kernel
theorem d_Si_markNow_41 : decode b_Si_markNow 41 = .ok (.iload_n 1, 1) := by decide +kernel
theorem d_Si_markNow_42 : decode b_Si_markNow 42 = .ok (.iaload, 1) := by decide +kernel
theorem d_Si_markNow_43 : decode b_Si_markNow 43 = .ok (.invokestatic 95, 3) := by decide +kernel
theorem d_Si_markNow_46 : decode b_Si_markNow 46 = .ok (.lstore_n 2, 1) := by decide +kernel
theorem d_Si_markNow_47 : decode b_Si_markNow 47 = .ok (.lload_n 2, 1) := by decide +kernel
theorem d_Si_markNow_48 : decode b_Si_markNow 48 = .ok (.aload_n 0, 1) := by decide +kernel
theorem d_Si_markNow_49 : decode b_Si_markNow 49 = .ok (.getfield 24, 3) := by decide +kernel
theorem d_Si_markNow_52 : decode b_Si_markNow 52 = .ok (.iload_n 1, 1) := by decide +kernel
theorem d_Si_markNow_53 : decode b_Si_markNow 53 = .ok (.iaload, 1) := by decide +kernel
theorem d_Si_markNow_54 : decode b_Si_markNow 54 = .ok (.invokestatic 95, 3) := by decide +kernel
theorem d_Si_markNow_57 : decode b_Si_markNow 57 = .ok (.lstore_n 2, 1) := by decide +kernel
theorem d_Si_markNow_58 : decode b_Si_markNow 58 = .ok (.lload_n 2, 1) := by decide +kernel
theorem d_Si_markNow_59 : decode b_Si_markNow 59 = .ok (.aload_n 0, 1) := by decide +kernel
theorem d_Si_markNow_60 : decode b_Si_markNow 60 = .ok (.getfield 27, 3) := by decide +kernel
theorem d_Si_markNow_63 : decode b_Si_markNow 63 = .ok (.iload_n 1, 1) := by decide +kernel
theorem d_Si_markNow_64 : decode b_Si_markNow 64 = .ok (.iaload, 1) := by decide +kernel
theorem d_Si_markNow_65 : decode b_Si_markNow 65 = .ok (.invokestatic 95, 3) := by decide +kernel
theorem d_Si_markNow_68 : decode b_Si_markNow 68 = .ok (.lstore_n 2, 1) := by decide +kernel
theorem d_Si_markNow_69 : decode b_Si_markNow 69 = .ok (.lload_n 2, 1) := by decide +kernel
theorem d_Si_markNow_70 : decode b_Si_markNow 70 = .ok (.aload_n 0, 1) := by decide +kernel
theorem d_Si_markNow_71 : decode b_Si_markNow 71 = .ok (.getfield 30, 3) := by decide +kernel
theorem d_Si_markNow_74 : decode b_Si_markNow 74 = .ok (.iload_n 1, 1) := by decide +kernel
theorem d_Si_markNow_75 : decode b_Si_markNow 75 = .ok (.iaload, 1) := by decide +kernel
theorem d_Si_markNow_76 : decode b_Si_markNow 76 = .ok (.invokestatic 95, 3) := by decide +kernel
theorem d_Si_markNow_79 : decode b_Si_markNow 79 = .ok (.lstore_n 2, 1) := by decide +kernel
theorem d_Si_markNow_80 : decode b_Si_markNow 80 = .ok (.aload_n 0, 1) := by decide +kernel
theorem d_Si_markNow_81 : decode b_Si_markNow 81 = .ok (.getfield 56, 3) := by decide +kernel
theorem d_Si_markNow_84 : decode b_Si_markNow 84 = .ok (.aload_n 0, 1) := by decide +kernel
theorem d_Si_markNow_85 : decode b_Si_markNow 85 = .ok (.getfield 9, 3) := by decide +kernel
theorem d_Si_markNow_88 : decode b_Si_markNow 88 = .ok (.iload_n 1, 1) := by decide +kernel
theorem d_Si_markNow_89 : decode b_Si_markNow 89 = .ok (.iaload, 1) := by decide +kernel
theorem d_Si_markNow_90 : decode b_Si_markNow 90 = .ok (.invokevirtual 104, 3) := by decide +kernel
theorem d_Si_markNow_93 : decode b_Si_markNow 93 = .ok (.istore 4, 2) := by decide +kernel
theorem d_Si_markNow_95 : decode b_Si_markNow 95 = .ok (.aload_n 0, 1) := by decide +kernel
theorem d_Si_markNow_96 : decode b_Si_markNow 96 = .ok (.getfield 56, 3) := by decide +kernel
theorem d_Si_markNow_99 : decode b_Si_markNow 99 = .ok (.aload_n 0, 1) := by decide +kernel
theorem d_Si_markNow_100 : decode b_Si_markNow 100 = .ok (.getfield 9, 3) := by decide +kernel
theorem d_Si_markNow_103 : decode b_Si_markNow 103 = .ok (.iload_n 1, 1) := by decide +kernel
theorem d_Si_markNow_104 : decode b_Si_markNow 104 = .ok (.iaload, 1) := by decide +kernel
theorem d_Si_markNow_105 : decode b_Si_markNow 105 = .ok (.invokevirtual 90, 3) := by decide +kernel
theorem d_Si_markNow_108 : decode b_Si_markNow 108 = .ok (.istore 5, 2) := by decide +kernel
theorem d_Si_markNow_110 : decode b_Si_markNow 110 = .ok (.iconst 0, 1) := by decide +kernel
theorem d_Si_markNow_111 : decode b_Si_markNow 111 = .ok (.istore 6, 2) := by decide +kernel
theorem d_Si_markNow_113 : decode b_Si_markNow 113 = .ok (.iload 6, 2) := by decide +kernel
theorem d_Si_markNow_115 : decode b_Si_markNow 115 = .ok (.iload 5, 2) := by decide +kernel
theorem d_Si_markNow_117 : decode b_Si_markNow 117 = .ok (.if_icmp .ge 26, 3) := by decide +kernel
theorem d_Si_markNow_120 : decode b_Si_markNow 120 = .ok (.lload_n 2, 1) := by decide +kernel
theorem d_Si_markNow_121 : decode b_Si_markNow 121 = .ok (.aload_n 0, 1) := by decide +kernel
theorem d_Si_markNow_122 : decode b_Si_markNow 122 = .ok (.getfield 56, 3) := by decide +kernel
theorem d_Si_markNow_125 : decode b_Si_markNow 125 = .ok (.iload 4, 2) := by decide +kernel
theorem d_Si_markNow_127 : decode b_Si_markNow 127 = .ok (.iload 6, 2) := by decide +kernel
theorem d_Si_markNow_129 : decode b_Si_markNow 129 = .ok (.iadd, 1) := by decide +kernel
theorem d_Si_markNow_130 : decode b_Si_markNow 130 = .ok (.invokevirtual 107, 3) := by decide +kernel
theorem d_Si_markNow_133 : decode b_Si_markNow 133 = .ok (.invokestatic 95, 3) := by decide +kernel
theorem d_Si_markNow_136 : decode b_Si_markNow 136 = .ok (.lstore_n 2, 1) := by decide +kernel
theorem d_Si_markNow_137 : decode b_Si_markNow 137 = .ok (.iinc 6 1, 3) := by decide +kernel
theorem d_Si_markNow_140 : decode b_Si_markNow 140 = .ok (.goto (-27), 3) := by decide +kernel
theorem d_Si_markNow_143 : decode b_Si_markNow 143 = .ok (.lload_n 2, 1) := by decide +kernel
theorem d_Si_markNow_144 : decode b_Si_markNow 144 = .ok (.invokestatic 110, 3) := by decide +kernel
theorem d_Si_markNow_147 : decode b_Si_markNow 147 = .ok (.ireturn, 1) := by decide +kernel
theorem d_Si_signedName_0 : decode b_Si_signedName 0 = .ok (.iload_n 1, 1) := by decide +kernel
theorem d_Si_signedName_1 : decode b_Si_signedName 1 = .ok (.iload_n 0, 1) := by decide +kernel
theorem d_Si_signedName_2 : decode b_Si_signedName 2 = .ok (.invokestatic 77, 3) := by decide +kernel
theorem d_Si_signedName_5 : decode b_Si_signedName 5 = .ok (.if_icmp .lt 5, 3) := by decide +kernel
theorem d_Si_signedName_8 : decode b_Si_signedName 8 = .ok (.iload_n 0, 1) := by decide +kernel
theorem d_Si_signedName_9 : decode b_Si_signedName 9 = .ok (.ireturn, 1) := by decide +kernel
theorem d_Si_signedName_10 : decode b_Si_signedName 10 = .ok (.iload_n 0, 1) := by decide +kernel
theorem d_Si_signedName_11 : decode b_Si_signedName 11 = .ok (.iload_n 1, 1) := by decide +kernel
theorem d_Si_signedName_12 : decode b_Si_signedName 12 = .ok (.invokestatic 114, 3) := by decide +kernel
theorem d_Si_signedName_15 : decode b_Si_signedName 15 = .ok (.invokestatic 117, 3) := by decide +kernel
theorem d_Si_signedName_18 : decode b_Si_signedName 18 = .ok (.ireturn, 1) := by decide +kernel
theorem d_Qu_init_0 : decode b_Qu_init 0 = .ok (.aload_n 0, 1) := by decide +kernel
theorem d_Qu_init_1 : decode b_Qu_init 1 = .ok (.invokespecial 3, 3) := by decide +kernel
theorem d_Qu_init_4 : decode b_Qu_init 4 = .ok (.aload_n 0, 1) := by decide +kernel
theorem d_Qu_init_5 : decode b_Qu_init 5 = .ok (.new 9, 3) := by decide +kernel
theorem d_Qu_init_8 : decode b_Qu_init 8 = .ok (.dup, 1) := by decide +kernel
theorem d_Qu_init_9 : decode b_Qu_init 9 = .ok (.invokespecial 11, 3) := by decide +kernel
theorem d_Qu_init_12 : decode b_Qu_init 12 = .ok (.putfield 12, 3) := by decide +kernel
theorem d_Qu_init_15 : decode b_Qu_init 15 = .ok (.aload_n 0, 1) := by decide +kernel
theorem d_Qu_init_16 : decode b_Qu_init 16 = .ok (.new 9, 3) := by decide +kernel
theorem d_Qu_init_19 : decode b_Qu_init 19 = .ok (.dup, 1) := by decide +kernel
theorem d_Qu_init_20 : decode b_Qu_init 20 = .ok (.invokespecial 11, 3) := by decide +kernel
theorem d_Qu_init_23 : decode b_Qu_init 23 = .ok (.putfield 18, 3) := by decide +kernel
theorem d_Qu_init_26 : decode b_Qu_init 26 = .ok (.aload_n 0, 1) := by decide +kernel
theorem d_Qu_init_27 : decode b_Qu_init 27 = .ok (.iconst 5, 1) := by decide +kernel
theorem d_Qu_init_28 : decode b_Qu_init 28 = .ok (.newarray .int, 2) := by decide +kernel
theorem d_Qu_init_30 : decode b_Qu_init 30 = .ok (.putfield 23, 3) := by decide +kernel
theorem d_Qu_init_33 : decode b_Qu_init 33 = .ok (.aload_n 0, 1) := by decide +kernel
theorem d_Qu_init_34 : decode b_Qu_init 34 = .ok (.iconst 0, 1) := by decide +kernel
theorem d_Qu_init_35 : decode b_Qu_init 35 = .ok (.putfield 27, 3) := by decide +kernel
theorem d_Qu_init_38 : decode b_Qu_init 38 = .ok (.aload_n 0, 1) := by decide +kernel
theorem d_Qu_init_39 : decode b_Qu_init 39 = .ok (.iconst 0, 1) := by decide +kernel
theorem d_Qu_init_40 : decode b_Qu_init 40 = .ok (.putfield 31, 3) := by decide +kernel
theorem d_Qu_init_43 : decode b_Qu_init 43 = .ok (.aload_n 0, 1) := by decide +kernel
theorem d_Qu_init_44 : decode b_Qu_init 44 = .ok (.iconst 0, 1) := by decide +kernel
theorem d_Qu_init_45 : decode b_Qu_init 45 = .ok (.putfield 34, 3) := by decide +kernel
theorem d_Qu_init_48 : decode b_Qu_init 48 = .ok (.aload_n 0, 1) := by decide +kernel
theorem d_Qu_init_49 : decode b_Qu_init 49 = .ok (.iconst 1, 1) := by decide +kernel
theorem d_Qu_init_50 : decode b_Qu_init 50 = .ok (.putfield 37, 3) := by decide +kernel
theorem d_Qu_init_53 : decode b_Qu_init 53 = .ok (.aload_n 0, 1) := by decide +kernel
theorem d_Qu_init_54 : decode b_Qu_init 54 = .ok (.iconst 0, 1) := by decide +kernel
theorem d_Qu_init_55 : decode b_Qu_init 55 = .ok (.putfield 40, 3) := by decide +kernel
theorem d_Qu_init_58 : decode b_Qu_init 58 = .ok (.aload_n 0, 1) := by decide +kernel
theorem d_Qu_init_59 : decode b_Qu_init 59 = .ok (.iconst 0, 1) := by decide +kernel
theorem d_Qu_init_60 : decode b_Qu_init 60 = .ok (.putfield 43, 3) := by decide +kernel
theorem d_Qu_init_63 : decode b_Qu_init 63 = .ok (.aload_n 0, 1) := by decide +kernel
theorem d_Qu_init_64 : decode b_Qu_init 64 = .ok (.aload_n 1, 1) := by decide +kernel
theorem d_Qu_init_65 : decode b_Qu_init 65 = .ok (.putfield 46, 3) := by decide +kernel
theorem d_Qu_init_68 : decode b_Qu_init 68 = .ok (.aload_n 0, 1) := by decide +kernel
theorem d_Qu_init_69 : decode b_Qu_init 69 = .ok (.aload_n 2, 1) := by decide +kernel
theorem d_Qu_init_70 : decode b_Qu_init 70 = .ok (.putfield 50, 3) := by decide +kernel
theorem d_Qu_init_73 : decode b_Qu_init 73 = .ok (.aload_n 0, 1) := by decide +kernel
theorem d_Qu_init_74 : decode b_Qu_init 74 = .ok (.aload_n 3, 1) := by decide +kernel
theorem d_Qu_init_75 : decode b_Qu_init 75 = .ok (.putfield 54, 3) := by decide +kernel
theorem d_Qu_init_78 : decode b_Qu_init 78 = .ok (.return_, 1) := by decide +kernel
theorem d_Qu_pose_0 : decode b_Qu_pose 0 = .ok (.aload_n 0, 1) := by decide +kernel
theorem d_Qu_pose_1 : decode b_Qu_pose 1 = .ok (.iload_n 1, 1) := by decide +kernel
theorem d_Qu_pose_2 : decode b_Qu_pose 2 = .ok (.putfield 34, 3) := by decide +kernel
theorem d_Qu_pose_5 : decode b_Qu_pose 5 = .ok (.aload_n 0, 1) := by decide +kernel
theorem d_Qu_pose_6 : decode b_Qu_pose 6 = .ok (.iload_n 2, 1) := by decide +kernel
theorem d_Qu_pose_7 : decode b_Qu_pose 7 = .ok (.putfield 37, 3) := by decide +kernel
theorem d_Qu_pose_10 : decode b_Qu_pose 10 = .ok (.aload_n 0, 1) := by decide +kernel
theorem d_Qu_pose_11 : decode b_Qu_pose 11 = .ok (.iconst 0, 1) := by decide +kernel
theorem d_Qu_pose_12 : decode b_Qu_pose 12 = .ok (.putfield 27, 3) := by decide +kernel
theorem d_Qu_pose_15 : decode b_Qu_pose 15 = .ok (.aload_n 0, 1) := by decide +kernel
theorem d_Qu_pose_16 : decode b_Qu_pose 16 = .ok (.iconst 0, 1) := by decide +kernel
theorem d_Qu_pose_17 : decode b_Qu_pose 17 = .ok (.putfield 40, 3) := by decide +kernel
theorem d_Qu_pose_20 : decode b_Qu_pose 20 = .ok (.aload_n 0, 1) := by decide +kernel
theorem d_Qu_pose_21 : decode b_Qu_pose 21 = .ok (.getfield 54, 3) := by decide +kernel
theorem d_Qu_pose_24 : decode b_Qu_pose 24 = .ok (.aload_n 0, 1) := by decide +kernel
theorem d_Qu_pose_25 : decode b_Qu_pose 25 = .ok (.getfield 34, 3) := by decide +kernel
theorem d_Qu_pose_28 : decode b_Qu_pose 28 = .ok (.invokevirtual 58, 3) := by decide +kernel
theorem d_Qu_pose_31 : decode b_Qu_pose 31 = .ok (.istore_n 3, 1) := by decide +kernel
theorem d_Qu_pose_32 : decode b_Qu_pose 32 = .ok (.iload_n 3, 1) := by decide +kernel
theorem d_Qu_pose_33 : decode b_Qu_pose 33 = .ok (.iconst (-1), 1) := by decide +kernel
theorem d_Qu_pose_34 : decode b_Qu_pose 34 = .ok (.if_icmp .ne 9, 3) := by decide +kernel
theorem d_Qu_pose_37 : decode b_Qu_pose 37 = .ok (.aload_n 0, 1) := by decide +kernel
theorem d_Qu_pose_38 : decode b_Qu_pose 38 = .ok (.iconst 1, 1) := by decide +kernel
theorem d_Qu_pose_39 : decode b_Qu_pose 39 = .ok (.putfield 43, 3) := by decide +kernel
theorem d_Qu_pose_42 : decode b_Qu_pose 42 = .ok (.return_, 1) := by decide +kernel
theorem d_Qu_pose_43 : decode b_Qu_pose 43 = .ok (.aload_n 0, 1) := by decide +kernel
theorem d_Qu_pose_44 : decode b_Qu_pose 44 = .ok (.getfield 12, 3) := by decide +kernel
theorem d_Qu_pose_47 : decode b_Qu_pose 47 = .ok (.invokevirtual 64, 3) := by decide +kernel
theorem d_Qu_pose_50 : decode b_Qu_pose 50 = .ok (.aload_n 0, 1) := by decide +kernel
theorem d_Qu_pose_51 : decode b_Qu_pose 51 = .ok (.getfield 12, 3) := by decide +kernel
theorem d_Qu_pose_54 : decode b_Qu_pose 54 = .ok (.aload_n 0, 1) := by decide +kernel
theorem d_Qu_pose_55 : decode b_Qu_pose 55 = .ok (.getfield 54, 3) := by decide +kernel
theorem d_Qu_pose_58 : decode b_Qu_pose 58 = .ok (.iload_n 3, 1) := by decide +kernel
theorem d_Qu_pose_59 : decode b_Qu_pose 59 = .ok (.invokevirtual 67, 3) := by decide +kernel
theorem d_Qu_pose_62 : decode b_Qu_pose 62 = .ok (.invokevirtual 70, 3) := by decide +kernel
theorem d_Qu_pose_65 : decode b_Qu_pose 65 = .ok (.aload_n 0, 1) := by decide +kernel
theorem d_Qu_pose_66 : decode b_Qu_pose 66 = .ok (.iload_n 3, 1) := by decide +kernel
theorem d_Qu_pose_67 : decode b_Qu_pose 67 = .ok (.invokevirtual 74, 3) := by decide +kernel
theorem d_Qu_pose_70 : decode b_Qu_pose 70 = .ok (.aload_n 0, 1) := by decide +kernel
theorem d_Qu_pose_71 : decode b_Qu_pose 71 = .ok (.getfield 34, 3) := by decide +kernel
theorem d_Qu_pose_74 : decode b_Qu_pose 74 = .ok (.aload_n 0, 1) := by decide +kernel
theorem d_Qu_pose_75 : decode b_Qu_pose 75 = .ok (.getfield 37, 3) := by decide +kernel
theorem d_Qu_pose_78 : decode b_Qu_pose 78 = .ok (.invokestatic 77, 3) := by decide +kernel
theorem d_Qu_pose_81 : decode b_Qu_pose 81 = .ok (.istore 4, 2) := by decide +kernel
theorem d_Qu_pose_83 : decode b_Qu_pose 83 = .ok (.aload_n 0, 1) := by decide +kernel
theorem d_Qu_pose_84 : decode b_Qu_pose 84 = .ok (.iconst 0, 1) := by decide +kernel
theorem d_Qu_pose_85 : decode b_Qu_pose 85 = .ok (.putfield 43, 3) := by decide +kernel
theorem d_Qu_pose_88 : decode b_Qu_pose 88 = .ok (.iconst 0, 1) := by decide +kernel
theorem d_Qu_pose_89 : decode b_Qu_pose 89 = .ok (.istore 5, 2) := by decide +kernel
theorem d_Qu_pose_91 : decode b_Qu_pose 91 = .ok (.iload 5, 2) := by decide +kernel
theorem d_Qu_pose_93 : decode b_Qu_pose 93 = .ok (.iconst 4, 1) := by decide +kernel
theorem d_Qu_pose_94 : decode b_Qu_pose 94 = .ok (.if_icmp .gt 85, 3) := by decide +kernel
theorem d_Qu_pose_97 : decode b_Qu_pose 97 = .ok (.aload_n 0, 1) := by decide +kernel
theorem d_Qu_pose_98 : decode b_Qu_pose 98 = .ok (.getfield 43, 3) := by decide +kernel
theorem d_Qu_pose_101 : decode b_Qu_pose 101 = .ok (.ifCond .ne 78, 3) := by decide +kernel
theorem d_Qu_pose_104 : decode b_Qu_pose 104 = .ok (.aload_n 0, 1) := by decide +kernel
theorem d_Qu_pose_105 : decode b_Qu_pose 105 = .ok (.aload_n 0, 1) := by decide +kernel
theorem d_Qu_pose_106 : decode b_Qu_pose 106 = .ok (.invokevirtual 81, 3) := by decide +kernel
theorem d_Qu_pose_109 : decode b_Qu_pose 109 = .ok (.putfield 43, 3) := by decide +kernel
theorem d_Qu_pose_112 : decode b_Qu_pose 112 = .ok (.aload_n 0, 1) := by decide +kernel
theorem d_Qu_pose_113 : decode b_Qu_pose 113 = .ok (.getfield 43, 3) := by decide +kernel
theorem d_Qu_pose_116 : decode b_Qu_pose 116 = .ok (.ifCond .ne 57, 3) := by decide +kernel
theorem d_Qu_pose_119 : decode b_Qu_pose 119 = .ok (.aload_n 0, 1) := by decide +kernel
theorem d_Qu_pose_120 : decode b_Qu_pose 120 = .ok (.invokevirtual 85, 3) := by decide +kernel
theorem d_Qu_pose_123 : decode b_Qu_pose 123 = .ok (.istore 6, 2) := by decide +kernel
theorem d_Qu_pose_125 : decode b_Qu_pose 125 = .ok (.iload 6, 2) := by decide +kernel
theorem d_Qu_pose_127 : decode b_Qu_pose 127 = .ok (.iconst (-1), 1) := by decide +kernel
theorem d_Qu_pose_128 : decode b_Qu_pose 128 = .ok (.if_icmp .eq 16, 3) := by decide +kernel
theorem d_Qu_pose_131 : decode b_Qu_pose 131 = .ok (.aload_n 0, 1) := by decide +kernel
theorem d_Qu_pose_132 : decode b_Qu_pose 132 = .ok (.aload_n 0, 1) := by decide +kernel
theorem d_Qu_pose_133 : decode b_Qu_pose 133 = .ok (.iload 6, 2) := by decide +kernel
theorem d_Qu_pose_135 : decode b_Qu_pose 135 = .ok (.invokevirtual 88, 3) := by decide +kernel
theorem d_Qu_pose_138 : decode b_Qu_pose 138 = .ok (.putfield 43, 3) := by decide +kernel
theorem d_Qu_pose_141 : decode b_Qu_pose 141 = .ok (.goto 32, 3) := by decide +kernel
theorem d_Qu_pose_144 : decode b_Qu_pose 144 = .ok (.aload_n 0, 1) := by decide +kernel
theorem d_Qu_pose_145 : decode b_Qu_pose 145 = .ok (.aload_n 0, 1) := by decide +kernel
theorem d_Qu_pose_146 : decode b_Qu_pose 146 = .ok (.getfield 46, 3) := by decide +kernel
theorem d_Qu_pose_149 : decode b_Qu_pose 149 = .ok (.iload 4, 2) := by decide +kernel
theorem d_Qu_pose_151 : decode b_Qu_pose 151 = .ok (.invokevirtual 91, 3) := by decide +kernel
theorem d_Qu_pose_154 : decode b_Qu_pose 154 = .ok (.ifCond .le 12, 3) := by decide +kernel
theorem d_Qu_pose_157 : decode b_Qu_pose 157 = .ok (.aload_n 0, 1) := by decide +kernel
theorem d_Qu_pose_158 : decode b_Qu_pose 158 = .ok (.iload 4, 2) := by decide +kernel
theorem d_Qu_pose_160 : decode b_Qu_pose 160 = .ok (.invokevirtual 96, 3) := by decide +kernel
theorem d_Qu_pose_163 : decode b_Qu_pose 163 = .ok (.goto 7, 3) := by decide +kernel
theorem d_Qu_pose_166 : decode b_Qu_pose 166 = .ok (.aload_n 0, 1) := by decide +kernel
theorem d_Qu_pose_167 : decode b_Qu_pose 167 = .ok (.invokevirtual 99, 3) := by decide +kernel
theorem d_Qu_pose_170 : decode b_Qu_pose 170 = .ok (.putfield 43, 3) := by decide +kernel
theorem d_Qu_pose_173 : decode b_Qu_pose 173 = .ok (.iinc 5 1, 3) := by decide +kernel
theorem d_Qu_pose_176 : decode b_Qu_pose 176 = .ok (.goto (-85), 3) := by decide +kernel
theorem d_Qu_pose_179 : decode b_Qu_pose 179 = .ok (.return_, 1) := by decide +kernel
theorem d_Qu_zoneAt_0 : decode b_Qu_zoneAt 0 = .ok (.iload_n 1, 1) := by decide +kernel
theorem d_Qu_zoneAt_1 : decode b_Qu_zoneAt 1 = .ok (.ifCond .lt 20, 3) := by decide +kernel
theorem d_Qu_zoneAt_4 : decode b_Qu_zoneAt 4 = .ok (.iload_n 1, 1) := by decide +kernel
theorem d_Qu_zoneAt_5 : decode b_Qu_zoneAt 5 = .ok (.aload_n 0, 1) := by decide +kernel
theorem d_Qu_zoneAt_6 : decode b_Qu_zoneAt 6 = .ok (.getfield 27, 3) := by decide +kernel
theorem d_Qu_zoneAt_9 : decode b_Qu_zoneAt 9 = .ok (.if_icmp .ge 12, 3) := by decide +kernel
theorem d_Qu_zoneAt_12 : decode b_Qu_zoneAt 12 = .ok (.aload_n 0, 1) := by decide +kernel
theorem d_Qu_zoneAt_13 : decode b_Qu_zoneAt 13 = .ok (.getfield 23, 3) := by decide +kernel
theorem d_Qu_zoneAt_16 : decode b_Qu_zoneAt 16 = .ok (.iload_n 1, 1) := by decide +kernel
theorem d_Qu_zoneAt_17 : decode b_Qu_zoneAt 17 = .ok (.iaload, 1) := by decide +kernel
theorem d_Qu_zoneAt_18 : decode b_Qu_zoneAt 18 = .ok (.goto 4, 3) := by decide +kernel
theorem d_Qu_zoneAt_21 : decode b_Qu_zoneAt 21 = .ok (.iconst (-1), 1) := by decide +kernel
theorem d_Qu_zoneAt_22 : decode b_Qu_zoneAt 22 = .ok (.ireturn, 1) := by decide +kernel
theorem d_Qu_dataNow_0 : decode b_Qu_dataNow 0 = .ok (.aload_n 0, 1) := by decide +kernel
theorem d_Qu_dataNow_1 : decode b_Qu_dataNow 1 = .ok (.getfield 34, 3) := by decide +kernel
theorem d_Qu_dataNow_4 : decode b_Qu_dataNow 4 = .ok (.aload_n 0, 1) := by decide +kernel
theorem d_Qu_dataNow_5 : decode b_Qu_dataNow 5 = .ok (.getfield 37, 3) := by decide +kernel
theorem d_Qu_dataNow_8 : decode b_Qu_dataNow 8 = .ok (.invokestatic 77, 3) := by decide +kernel
theorem d_Qu_dataNow_11 : decode b_Qu_dataNow 11 = .ok (.istore_n 2, 1) := by decide +kernel
theorem d_Qu_dataNow_12 : decode b_Qu_dataNow 12 = .ok (.aload_n 0, 1) := by decide +kernel
theorem d_Qu_dataNow_13 : decode b_Qu_dataNow 13 = .ok (.getfield 43, 3) := by decide +kernel
theorem d_Qu_dataNow_16 : decode b_Qu_dataNow 16 = .ok (.bipush 8, 2) := by decide +kernel
theorem d_Qu_dataNow_18 : decode b_Qu_dataNow 18 = .ok (.if_icmp .eq 14, 3) := by decide +kernel
theorem d_Qu_dataNow_21 : decode b_Qu_dataNow 21 = .ok (.aload_n 0, 1) := by decide +kernel
theorem d_Qu_dataNow_22 : decode b_Qu_dataNow 22 = .ok (.getfield 43, 3) := by decide +kernel
theorem d_Qu_dataNow_25 : decode b_Qu_dataNow 25 = .ok (.bipush 9, 2) := by decide +kernel
theorem d_Qu_dataNow_27 : decode b_Qu_dataNow 27 = .ok (.if_icmp .eq 5, 3) := by decide +kernel
theorem d_Qu_dataNow_30 : decode b_Qu_dataNow 30 = .ok (.iconst 0, 1) := by decide +kernel
theorem d_Qu_dataNow_31 : decode b_Qu_dataNow 31 = .ok (.ireturn, 1) := by decide +kernel
theorem d_Qu_dataNow_32 : decode b_Qu_dataNow 32 = .ok (.iload_n 1, 1) := by decide +kernel
theorem d_Qu_dataNow_33 : decode b_Qu_dataNow 33 = .ok (.ifCond .lt 35, 3) := by decide +kernel
theorem d_Qu_dataNow_36 : decode b_Qu_dataNow 36 = .ok (.iload_n 1, 1) := by decide +kernel
theorem d_Qu_dataNow_37 : decode b_Qu_dataNow 37 = .ok (.aload_n 0, 1) := by decide +kernel
theorem d_Qu_dataNow_38 : decode b_Qu_dataNow 38 = .ok (.getfield 46, 3) := by decide +kernel
theorem d_Qu_dataNow_41 : decode b_Qu_dataNow 41 = .ok (.iload_n 2, 1) := by decide +kernel
theorem d_Qu_dataNow_42 : decode b_Qu_dataNow 42 = .ok (.invokevirtual 91, 3) := by decide +kernel
theorem d_Qu_dataNow_45 : decode b_Qu_dataNow 45 = .ok (.if_icmp .ge 23, 3) := by decide +kernel
theorem d_Qu_dataNow_48 : decode b_Qu_dataNow 48 = .ok (.aload_n 0, 1) := by decide +kernel
theorem d_Qu_dataNow_49 : decode b_Qu_dataNow 49 = .ok (.getfield 46, 3) := by decide +kernel
theorem d_Qu_dataNow_52 : decode b_Qu_dataNow 52 = .ok (.aload_n 0, 1) := by decide +kernel
theorem d_Qu_dataNow_53 : decode b_Qu_dataNow 53 = .ok (.getfield 46, 3) := by decide +kernel
theorem d_Qu_dataNow_56 : decode b_Qu_dataNow 56 = .ok (.iload_n 2, 1) := by decide +kernel
theorem d_Qu_dataNow_57 : decode b_Qu_dataNow 57 = .ok (.invokevirtual 102, 3) := by decide +kernel
theorem d_Qu_dataNow_60 : decode b_Qu_dataNow 60 = .ok (.iload_n 1, 1) := by decide +kernel
theorem d_Qu_dataNow_61 : decode b_Qu_dataNow 61 = .ok (.iadd, 1) := by decide +kernel
theorem d_Qu_dataNow_62 : decode b_Qu_dataNow 62 = .ok (.invokevirtual 105, 3) := by decide +kernel
theorem d_Qu_dataNow_65 : decode b_Qu_dataNow 65 = .ok (.goto 4, 3) := by decide +kernel
theorem d_Qu_dataNow_68 : decode b_Qu_dataNow 68 = .ok (.iconst 0, 1) := by decide +kernel
theorem d_Qu_dataNow_69 : decode b_Qu_dataNow 69 = .ok (.ireturn, 1) := by decide +kernel
theorem d_Qu_enter_0 : decode b_Qu_enter 0 = .ok (.aload_n 0, 1) := by decide +kernel
theorem d_Qu_enter_1 : decode b_Qu_enter 1 = .ok (.iload_n 1, 1) := by decide +kernel
theorem d_Qu_enter_2 : decode b_Qu_enter 2 = .ok (.putfield 31, 3) := by decide +kernel
theorem d_Qu_enter_5 : decode b_Qu_enter 5 = .ok (.aload_n 0, 1) := by decide +kernel
theorem d_Qu_enter_6 : decode b_Qu_enter 6 = .ok (.iconst 0, 1) := by decide +kernel
theorem d_Qu_enter_7 : decode b_Qu_enter 7 = .ok (.putfield 40, 3) := by decide +kernel
theorem d_Qu_enter_10 : decode b_Qu_enter 10 = .ok (.aload_n 0, 1) := by decide +kernel
theorem d_Qu_enter_11 : decode b_Qu_enter 11 = .ok (.getfield 27, 3) := by decide +kernel
theorem d_Qu_enter_14 : decode b_Qu_enter 14 = .ok (.aload_n 0, 1) := by decide +kernel
theorem d_Qu_enter_15 : decode b_Qu_enter 15 = .ok (.getfield 23, 3) := by decide +kernel
theorem d_Qu_enter_18 : decode b_Qu_enter 18 = .ok (.arraylength, 1) := by decide +kernel
theorem d_Qu_enter_19 : decode b_Qu_enter 19 = .ok (.if_icmp .ge 23, 3) := by decide +kernel
theorem d_Qu_enter_22 : decode b_Qu_enter 22 = .ok (.aload_n 0, 1) := by decide +kernel
theorem d_Qu_enter_23 : decode b_Qu_enter 23 = .ok (.getfield 23, 3) := by decide +kernel
theorem d_Qu_enter_26 : decode b_Qu_enter 26 = .ok (.aload_n 0, 1) := by decide +kernel
theorem d_Qu_enter_27 : decode b_Qu_enter 27 = .ok (.getfield 27, 3) := by decide +kernel
theorem d_Qu_enter_30 : decode b_Qu_enter 30 = .ok (.iload_n 1, 1) := by decide +kernel
theorem d_Qu_enter_31 : decode b_Qu_enter 31 = .ok (.iastore, 1) := by decide +kernel
theorem d_Qu_enter_32 : decode b_Qu_enter 32 = .ok (.aload_n 0, 1) := by decide +kernel
theorem d_Qu_enter_33 : decode b_Qu_enter 33 = .ok (.dup, 1) := by decide +kernel
theorem d_Qu_enter_34 : decode b_Qu_enter 34 = .ok (.getfield 27, 3) := by decide +kernel
theorem d_Qu_enter_37 : decode b_Qu_enter 37 = .ok (.iconst 1, 1) := by decide +kernel
theorem d_Qu_enter_38 : decode b_Qu_enter 38 = .ok (.iadd, 1) := by decide +kernel
theorem d_Qu_enter_39 : decode b_Qu_enter 39 = .ok (.putfield 27, 3) := by decide +kernel
theorem d_Qu_enter_42 : decode b_Qu_enter 42 = .ok (.return_, 1) := by decide +kernel
theorem d_Qu_whyNoKeys_0 : decode b_Qu_whyNoKeys 0 = .ok (.aload_n 0, 1) := by decide +kernel
theorem d_Qu_whyNoKeys_1 : decode b_Qu_whyNoKeys 1 = .ok (.getfield 31, 3) := by decide +kernel
theorem d_Qu_whyNoKeys_4 : decode b_Qu_whyNoKeys 4 = .ok (.iconst 4, 1) := by decide +kernel
theorem d_Qu_whyNoKeys_5 : decode b_Qu_whyNoKeys 5 = .ok (.invokestatic 77, 3) := by decide +kernel
theorem d_Qu_whyNoKeys_8 : decode b_Qu_whyNoKeys 8 = .ok (.istore_n 1, 1) := by decide +kernel
theorem d_Qu_whyNoKeys_9 : decode b_Qu_whyNoKeys 9 = .ok (.aload_n 0, 1) := by decide +kernel
theorem d_Qu_whyNoKeys_10 : decode b_Qu_whyNoKeys 10 = .ok (.getfield 46, 3) := by decide +kernel
theorem d_Qu_whyNoKeys_13 : decode b_Qu_whyNoKeys 13 = .ok (.iload_n 1, 1) := by decide +kernel
theorem d_Qu_whyNoKeys_14 : decode b_Qu_whyNoKeys 14 = .ok (.invokevirtual 91, 3) := by decide +kernel
theorem d_Qu_whyNoKeys_17 : decode b_Qu_whyNoKeys 17 = .ok (.ifCond .ne 5, 3) := by decide +kernel
theorem d_Qu_whyNoKeys_20 : decode b_Qu_whyNoKeys 20 = .ok (.iconst 2, 1) := by decide +kernel
theorem d_Qu_whyNoKeys_21 : decode b_Qu_whyNoKeys 21 = .ok (.ireturn, 1) := by decide +kernel
theorem d_Qu_whyNoKeys_22 : decode b_Qu_whyNoKeys 22 = .ok (.aload_n 0, 1) := by decide +kernel
theorem d_Qu_whyNoKeys_23 : decode b_Qu_whyNoKeys 23 = .ok (.iload_n 1, 1) := by decide +kernel
theorem d_Qu_whyNoKeys_24 : decode b_Qu_whyNoKeys 24 = .ok (.invokevirtual 108, 3) := by decide +kernel
theorem d_Qu_whyNoKeys_27 : decode b_Qu_whyNoKeys 27 = .ok (.aload_n 0, 1) := by decide +kernel
theorem d_Qu_whyNoKeys_28 : decode b_Qu_whyNoKeys 28 = .ok (.getfield 18, 3) := by decide +kernel
theorem d_Qu_whyNoKeys_31 : decode b_Qu_whyNoKeys 31 = .ok (.getfield 111, 3) := by decide +kernel
theorem d_Qu_whyNoKeys_34 : decode b_Qu_whyNoKeys 34 = .ok (.ifCond .ne 5, 3) := by decide +kernel
theorem d_Qu_whyNoKeys_37 : decode b_Qu_whyNoKeys 37 = .ok (.iconst 3, 1) := by decide +kernel
theorem d_Qu_whyNoKeys_38 : decode b_Qu_whyNoKeys 38 = .ok (.ireturn, 1) := by decide +kernel
theorem d_Qu_whyNoKeys_39 : decode b_Qu_whyNoKeys 39 = .ok (.aload_n 0, 1) := by decide +kernel
theorem d_Qu_whyNoKeys_40 : decode b_Qu_whyNoKeys 40 = .ok (.getfield 50, 3) := by decide +kernel
theorem d_Qu_whyNoKeys_43 : decode b_Qu_whyNoKeys 43 = .ok (.aload_n 0, 1) := by decide +kernel
theorem d_Qu_whyNoKeys_44 : decode b_Qu_whyNoKeys 44 = .ok (.getfield 31, 3) := by decide +kernel
theorem d_Qu_whyNoKeys_47 : decode b_Qu_whyNoKeys 47 = .ok (.aload_n 0, 1) := by decide +kernel
theorem d_Qu_whyNoKeys_48 : decode b_Qu_whyNoKeys 48 = .ok (.getfield 18, 3) := by decide +kernel
theorem d_Qu_whyNoKeys_51 : decode b_Qu_whyNoKeys 51 = .ok (.invokevirtual 114, 3) := by decide +kernel
theorem d_Qu_whyNoKeys_54 : decode b_Qu_whyNoKeys 54 = .ok (.aload_n 0, 1) := by decide +kernel
theorem d_Qu_whyNoKeys_55 : decode b_Qu_whyNoKeys 55 = .ok (.getfield 50, 3) := by decide +kernel
theorem d_Qu_whyNoKeys_58 : decode b_Qu_whyNoKeys 58 = .ok (.iload_n 1, 1) := by decide +kernel
theorem d_Qu_whyNoKeys_59 : decode b_Qu_whyNoKeys 59 = .ok (.invokevirtual 120, 3) := by decide +kernel
theorem d_Qu_whyNoKeys_62 : decode b_Qu_whyNoKeys 62 = .ok (.ifCond .ne 5, 3) := by decide +kernel
theorem d_Qu_whyNoKeys_65 : decode b_Qu_whyNoKeys 65 = .ok (.iconst 4, 1) := by decide +kernel
theorem d_Qu_whyNoKeys_66 : decode b_Qu_whyNoKeys 66 = .ok (.ireturn, 1) := by decide +kernel
theorem d_Qu_whyNoKeys_67 : decode b_Qu_whyNoKeys 67 = .ok (.aload_n 0, 1) := by decide +kernel
theorem d_Qu_whyNoKeys_68 : decode b_Qu_whyNoKeys 68 = .ok (.aload_n 0, 1) := by decide +kernel
theorem d_Qu_whyNoKeys_69 : decode b_Qu_whyNoKeys 69 = .ok (.getfield 18, 3) := by decide +kernel
theorem d_Qu_whyNoKeys_72 : decode b_Qu_whyNoKeys 72 = .ok (.iload_n 1, 1) := by decide +kernel
theorem d_Qu_whyNoKeys_73 : decode b_Qu_whyNoKeys 73 = .ok (.invokevirtual 124, 3) := by decide +kernel
theorem d_Qu_whyNoKeys_76 : decode b_Qu_whyNoKeys 76 = .ok (.aload_n 0, 1) := by decide +kernel
theorem d_Qu_whyNoKeys_77 : decode b_Qu_whyNoKeys 77 = .ok (.aload_n 0, 1) := by decide +kernel
theorem d_Qu_whyNoKeys_78 : decode b_Qu_whyNoKeys 78 = .ok (.getfield 18, 3) := by decide +kernel
theorem d_Qu_whyNoKeys_81 : decode b_Qu_whyNoKeys 81 = .ok (.getfield 111, 3) := by decide +kernel
theorem d_Qu_whyNoKeys_84 : decode b_Qu_whyNoKeys 84 = .ok (.putfield 40, 3) := by decide +kernel
theorem d_Qu_whyNoKeys_87 : decode b_Qu_whyNoKeys 87 = .ok (.aload_n 0, 1) := by decide +kernel
theorem d_Qu_whyNoKeys_88 : decode b_Qu_whyNoKeys 88 = .ok (.getfield 50, 3) := by decide +kernel
theorem d_Qu_whyNoKeys_91 : decode b_Qu_whyNoKeys 91 = .ok (.aload_n 0, 1) := by decide +kernel
theorem d_Qu_whyNoKeys_92 : decode b_Qu_whyNoKeys 92 = .ok (.getfield 31, 3) := by decide +kernel
theorem d_Qu_whyNoKeys_95 : decode b_Qu_whyNoKeys 95 = .ok (.aload_n 0, 1) := by decide +kernel
theorem d_Qu_whyNoKeys_96 : decode b_Qu_whyNoKeys 96 = .ok (.getfield 18, 3) := by decide +kernel
theorem d_Qu_whyNoKeys_99 : decode b_Qu_whyNoKeys 99 = .ok (.invokevirtual 114, 3) := by decide +kernel
theorem d_Qu_whyNoKeys_102 : decode b_Qu_whyNoKeys 102 = .ok (.iconst 0, 1) := by decide +kernel
theorem d_Qu_whyNoKeys_103 : decode b_Qu_whyNoKeys 103 = .ok (.ireturn, 1) := by decide +kernel
theorem d_Qu_takeSealedKeys_0 : decode b_Qu_takeSealedKeys 0 = .ok (.aload_n 0, 1) := by decide +kernel
theorem d_Qu_takeSealedKeys_1 : decode b_Qu_takeSealedKeys 1 = .ok (.getfield 46, 3) := by decide +kernel
theorem d_Qu_takeSealedKeys_4 : decode b_Qu_takeSealedKeys 4 = .ok (.iload_n 1, 1) := by decide +kernel
theorem d_Qu_takeSealedKeys_5 : decode b_Qu_takeSealedKeys 5 = .ok (.invokevirtual 102, 3) := by decide +kernel
theorem d_Qu_takeSealedKeys_8 : decode b_Qu_takeSealedKeys 8 = .ok (.istore_n 2, 1) := by decide +kernel
theorem d_Qu_takeSealedKeys_9 : decode b_Qu_takeSealedKeys 9 = .ok (.aload_n 0, 1) := by decide +kernel
theorem d_Qu_takeSealedKeys_10 : decode b_Qu_takeSealedKeys 10 = .ok (.getfield 46, 3) := by decide +kernel
theorem d_Qu_takeSealedKeys_13 : decode b_Qu_takeSealedKeys 13 = .ok (.iload_n 1, 1) := by decide +kernel
theorem d_Qu_takeSealedKeys_14 : decode b_Qu_takeSealedKeys 14 = .ok (.invokevirtual 91, 3) := by decide +kernel
theorem d_Qu_takeSealedKeys_17 : decode b_Qu_takeSealedKeys 17 = .ok (.istore_n 3, 1) := by decide +kernel
theorem d_Qu_takeSealedKeys_18 : decode b_Qu_takeSealedKeys 18 = .ok (.aload_n 0, 1) := by decide +kernel
theorem d_Qu_takeSealedKeys_19 : decode b_Qu_takeSealedKeys 19 = .ok (.getfield 18, 3) := by decide +kernel
theorem d_Qu_takeSealedKeys_22 : decode b_Qu_takeSealedKeys 22 = .ok (.invokevirtual 64, 3) := by decide +kernel
theorem d_Qu_takeSealedKeys_25 : decode b_Qu_takeSealedKeys 25 = .ok (.iconst 0, 1) := by decide +kernel
theorem d_Qu_takeSealedKeys_26 : decode b_Qu_takeSealedKeys 26 = .ok (.istore 4, 2) := by decide +kernel
theorem d_Qu_takeSealedKeys_28 : decode b_Qu_takeSealedKeys 28 = .ok (.iload 4, 2) := by decide +kernel
theorem d_Qu_takeSealedKeys_30 : decode b_Qu_takeSealedKeys 30 = .ok (.iload_n 3, 1) := by decide +kernel
theorem d_Qu_takeSealedKeys_31 : decode b_Qu_takeSealedKeys 31 = .ok (.if_icmp .ge 50, 3) := by decide +kernel
theorem d_Qu_takeSealedKeys_34 : decode b_Qu_takeSealedKeys 34 = .ok (.aload_n 0, 1) := by decide +kernel
theorem d_Qu_takeSealedKeys_35 : decode b_Qu_takeSealedKeys 35 = .ok (.getfield 46, 3) := by decide +kernel
theorem d_Qu_takeSealedKeys_38 : decode b_Qu_takeSealedKeys 38 = .ok (.iload_n 2, 1) := by decide +kernel
theorem d_Qu_takeSealedKeys_39 : decode b_Qu_takeSealedKeys 39 = .ok (.iload 4, 2) := by decide +kernel
theorem d_Qu_takeSealedKeys_41 : decode b_Qu_takeSealedKeys 41 = .ok (.iadd, 1) := by decide +kernel
theorem d_Qu_takeSealedKeys_42 : decode b_Qu_takeSealedKeys 42 = .ok (.invokevirtual 105, 3) := by decide +kernel
theorem d_Qu_takeSealedKeys_45 : decode b_Qu_takeSealedKeys 45 = .ok (.istore 5, 2) := by decide +kernel
theorem d_Qu_takeSealedKeys_47 : decode b_Qu_takeSealedKeys 47 = .ok (.aload_n 0, 1) := by decide +kernel
theorem d_Qu_takeSealedKeys_48 : decode b_Qu_takeSealedKeys 48 = .ok (.getfield 12, 3) := by decide +kernel
theorem d_Qu_takeSealedKeys_51 : decode b_Qu_takeSealedKeys 51 = .ok (.aload_n 0, 1) := by decide +kernel
theorem d_Qu_takeSealedKeys_52 : decode b_Qu_takeSealedKeys 52 = .ok (.getfield 31, 3) := by decide +kernel
theorem d_Qu_takeSealedKeys_55 : decode b_Qu_takeSealedKeys 55 = .ok (.iload 5, 2) := by decide +kernel
theorem d_Qu_takeSealedKeys_57 : decode b_Qu_takeSealedKeys 57 = .ok (.invokestatic 128, 3) := by decide +kernel
theorem d_Qu_takeSealedKeys_60 : decode b_Qu_takeSealedKeys 60 = .ok (.invokevirtual 133, 3) := by decide +kernel
theorem d_Qu_takeSealedKeys_63 : decode b_Qu_takeSealedKeys 63 = .ok (.ifCond .eq 12, 3) := by decide +kernel
theorem d_Qu_takeSealedKeys_66 : decode b_Qu_takeSealedKeys 66 = .ok (.aload_n 0, 1) := by decide +kernel
theorem d_Qu_takeSealedKeys_67 : decode b_Qu_takeSealedKeys 67 = .ok (.getfield 18, 3) := by decide +kernel
theorem d_Qu_takeSealedKeys_70 : decode b_Qu_takeSealedKeys 70 = .ok (.iload 5, 2) := by decide +kernel
theorem d_Qu_takeSealedKeys_72 : decode b_Qu_takeSealedKeys 72 = .ok (.invokevirtual 70, 3) := by decide +kernel
theorem d_Qu_takeSealedKeys_75 : decode b_Qu_takeSealedKeys 75 = .ok (.iinc 4 1, 3) := by decide +kernel
theorem d_Qu_takeSealedKeys_78 : decode b_Qu_takeSealedKeys 78 = .ok (.goto (-50), 3) := by decide +kernel
theorem d_Qu_takeSealedKeys_81 : decode b_Qu_takeSealedKeys 81 = .ok (.return_, 1) := by decide +kernel
theorem d_Qu_takeSet_0 : decode b_Qu_takeSet 0 = .ok (.aload_n 0, 1) := by decide +kernel
theorem d_Qu_takeSet_1 : decode b_Qu_takeSet 1 = .ok (.getfield 46, 3) := by decide +kernel
theorem d_Qu_takeSet_4 : decode b_Qu_takeSet 4 = .ok (.iload_n 2, 1) := by decide +kernel
theorem d_Qu_takeSet_5 : decode b_Qu_takeSet 5 = .ok (.invokevirtual 102, 3) := by decide +kernel
theorem d_Qu_takeSet_8 : decode b_Qu_takeSet 8 = .ok (.istore_n 3, 1) := by decide +kernel
theorem d_Qu_takeSet_9 : decode b_Qu_takeSet 9 = .ok (.aload_n 0, 1) := by decide +kernel
theorem d_Qu_takeSet_10 : decode b_Qu_takeSet 10 = .ok (.getfield 46, 3) := by decide +kernel
theorem d_Qu_takeSet_13 : decode b_Qu_takeSet 13 = .ok (.iload_n 2, 1) := by decide +kernel
theorem d_Qu_takeSet_14 : decode b_Qu_takeSet 14 = .ok (.invokevirtual 91, 3) := by decide +kernel
theorem d_Qu_takeSet_17 : decode b_Qu_takeSet 17 = .ok (.istore 4, 2) := by decide +kernel
theorem d_Qu_takeSet_19 : decode b_Qu_takeSet 19 = .ok (.aload_n 1, 1) := by decide +kernel
theorem d_Qu_takeSet_20 : decode b_Qu_takeSet 20 = .ok (.invokevirtual 64, 3) := by decide +kernel
theorem d_Qu_takeSet_23 : decode b_Qu_takeSet 23 = .ok (.iconst 0, 1) := by decide +kernel
theorem d_Qu_takeSet_24 : decode b_Qu_takeSet 24 = .ok (.istore 5, 2) := by decide +kernel
theorem d_Qu_takeSet_26 : decode b_Qu_takeSet 26 = .ok (.iload 5, 2) := by decide +kernel
theorem d_Qu_takeSet_28 : decode b_Qu_takeSet 28 = .ok (.iload 4, 2) := by decide +kernel
theorem d_Qu_takeSet_30 : decode b_Qu_takeSet 30 = .ok (.if_icmp .ge 24, 3) := by decide +kernel
theorem d_Qu_takeSet_33 : decode b_Qu_takeSet 33 = .ok (.aload_n 1, 1) := by decide +kernel
theorem d_Qu_takeSet_34 : decode b_Qu_takeSet 34 = .ok (.aload_n 0, 1) := by decide +kernel
theorem d_Qu_takeSet_35 : decode b_Qu_takeSet 35 = .ok (.getfield 46, 3) := by decide +kernel
theorem d_Qu_takeSet_38 : decode b_Qu_takeSet 38 = .ok (.iload_n 3, 1) := by decide +kernel
theorem d_Qu_takeSet_39 : decode b_Qu_takeSet 39 = .ok (.iload 5, 2) := by decide +kernel
theorem d_Qu_takeSet_41 : decode b_Qu_takeSet 41 = .ok (.iadd, 1) := by decide +kernel
theorem d_Qu_takeSet_42 : decode b_Qu_takeSet 42 = .ok (.invokevirtual 105, 3) := by decide +kernel
theorem d_Qu_takeSet_45 : decode b_Qu_takeSet 45 = .ok (.invokevirtual 70, 3) := by decide +kernel
theorem d_Qu_takeSet_48 : decode b_Qu_takeSet 48 = .ok (.iinc 5 1, 3) := by decide +kernel
theorem d_Qu_takeSet_51 : decode b_Qu_takeSet 51 = .ok (.goto (-25), 3) := by decide +kernel
theorem d_Qu_takeSet_54 : decode b_Qu_takeSet 54 = .ok (.return_, 1) := by decide +kernel
theorem d_Qu_nextCut_0 : decode b_Qu_nextCut 0 = .ok (.aload_n 0, 1) := by decide +kernel
theorem d_Qu_nextCut_1 : decode b_Qu_nextCut 1 = .ok (.getfield 34, 3) := by decide +kernel
theorem d_Qu_nextCut_4 : decode b_Qu_nextCut 4 = .ok (.invokestatic 136, 3) := by decide +kernel
theorem d_Qu_nextCut_7 : decode b_Qu_nextCut 7 = .ok (.aload_n 0, 1) := by decide +kernel
theorem d_Qu_nextCut_8 : decode b_Qu_nextCut 8 = .ok (.getfield 37, 3) := by decide +kernel
theorem d_Qu_nextCut_11 : decode b_Qu_nextCut 11 = .ok (.iconst 3, 1) := by decide +kernel
theorem d_Qu_nextCut_12 : decode b_Qu_nextCut 12 = .ok (.if_icmp .ne 7, 3) := by decide +kernel
theorem d_Qu_nextCut_15 : decode b_Qu_nextCut 15 = .ok (.iconst 1, 1) := by decide +kernel
theorem d_Qu_nextCut_16 : decode b_Qu_nextCut 16 = .ok (.goto 4, 3) := by decide +kernel
theorem d_Qu_nextCut_19 : decode b_Qu_nextCut 19 = .ok (.iconst 0, 1) := by decide +kernel
theorem d_Qu_nextCut_20 : decode b_Qu_nextCut 20 = .ok (.isub, 1) := by decide +kernel
theorem d_Qu_nextCut_21 : decode b_Qu_nextCut 21 = .ok (.istore_n 1, 1) := by decide +kernel
theorem d_Qu_nextCut_22 : decode b_Qu_nextCut 22 = .ok (.aload_n 0, 1) := by decide +kernel
theorem d_Qu_nextCut_23 : decode b_Qu_nextCut 23 = .ok (.getfield 31, 3) := by decide +kernel
theorem d_Qu_nextCut_26 : decode b_Qu_nextCut 26 = .ok (.invokestatic 136, 3) := by decide +kernel
theorem d_Qu_nextCut_29 : decode b_Qu_nextCut 29 = .ok (.iconst 1, 1) := by decide +kernel
theorem d_Qu_nextCut_30 : decode b_Qu_nextCut 30 = .ok (.iadd, 1) := by decide +kernel
theorem d_Qu_nextCut_31 : decode b_Qu_nextCut 31 = .ok (.istore_n 2, 1) := by decide +kernel
theorem d_Qu_nextCut_32 : decode b_Qu_nextCut 32 = .ok (.iload_n 2, 1) := by decide +kernel
theorem d_Qu_nextCut_33 : decode b_Qu_nextCut 33 = .ok (.iload_n 1, 1) := by decide +kernel
theorem d_Qu_nextCut_34 : decode b_Qu_nextCut 34 = .ok (.if_icmp .gt 35, 3) := by decide +kernel
theorem d_Qu_nextCut_37 : decode b_Qu_nextCut 37 = .ok (.aload_n 0, 1) := by decide +kernel
theorem d_Qu_nextCut_38 : decode b_Qu_nextCut 38 = .ok (.getfield 34, 3) := by decide +kernel
theorem d_Qu_nextCut_41 : decode b_Qu_nextCut 41 = .ok (.iload_n 2, 1) := by decide +kernel
theorem d_Qu_nextCut_42 : decode b_Qu_nextCut 42 = .ok (.invokestatic 139, 3) := by decide +kernel
theorem d_Qu_nextCut_45 : decode b_Qu_nextCut 45 = .ok (.istore_n 3, 1) := by decide +kernel
theorem d_Qu_nextCut_46 : decode b_Qu_nextCut 46 = .ok (.aload_n 0, 1) := by decide +kernel
theorem d_Qu_nextCut_47 : decode b_Qu_nextCut 47 = .ok (.getfield 46, 3) := by decide +kernel
theorem d_Qu_nextCut_50 : decode b_Qu_nextCut 50 = .ok (.iload_n 3, 1) := by decide +kernel
theorem d_Qu_nextCut_51 : decode b_Qu_nextCut 51 = .ok (.iconst 2, 1) := by decide +kernel
theorem d_Qu_nextCut_52 : decode b_Qu_nextCut 52 = .ok (.invokestatic 77, 3) := by decide +kernel
theorem d_Qu_nextCut_55 : decode b_Qu_nextCut 55 = .ok (.invokevirtual 91, 3) := by decide +kernel
theorem d_Qu_nextCut_58 : decode b_Qu_nextCut 58 = .ok (.ifCond .le 5, 3) := by decide +kernel
theorem d_Qu_nextCut_61 : decode b_Qu_nextCut 61 = .ok (.iload_n 3, 1) := by decide +kernel
theorem d_Qu_nextCut_62 : decode b_Qu_nextCut 62 = .ok (.ireturn, 1) := by decide +kernel
theorem d_Qu_nextCut_63 : decode b_Qu_nextCut 63 = .ok (.iinc 2 1, 3) := by decide +kernel
theorem d_Qu_nextCut_66 : decode b_Qu_nextCut 66 = .ok (.goto (-34), 3) := by decide +kernel
theorem d_Qu_nextCut_69 : decode b_Qu_nextCut 69 = .ok (.iconst (-1), 1) := by decide +kernel
theorem d_Qu_nextCut_70 : decode b_Qu_nextCut 70 = .ok (.ireturn, 1) := by decide +kernel
theorem d_Qu_whyNotOver_0 : decode b_Qu_whyNotOver 0 = .ok (.iload_n 1, 1) := by decide +kernel
theorem d_Qu_whyNotOver_1 : decode b_Qu_whyNotOver 1 = .ok (.iconst 3, 1) := by decide +kernel
theorem d_Qu_whyNotOver_2 : decode b_Qu_whyNotOver 2 = .ok (.invokestatic 77, 3) := by decide +kernel
theorem d_Qu_whyNotOver_5 : decode b_Qu_whyNotOver 5 = .ok (.istore_n 2, 1) := by decide +kernel
theorem d_Qu_whyNotOver_6 : decode b_Qu_whyNotOver 6 = .ok (.aload_n 0, 1) := by decide +kernel
theorem d_Qu_whyNotOver_7 : decode b_Qu_whyNotOver 7 = .ok (.getfield 46, 3) := by decide +kernel
theorem d_Qu_whyNotOver_10 : decode b_Qu_whyNotOver 10 = .ok (.iload_n 2, 1) := by decide +kernel
theorem d_Qu_whyNotOver_11 : decode b_Qu_whyNotOver 11 = .ok (.invokevirtual 91, 3) := by decide +kernel
theorem d_Qu_whyNotOver_14 : decode b_Qu_whyNotOver 14 = .ok (.ifCond .le 32, 3) := by decide +kernel
theorem d_Qu_whyNotOver_17 : decode b_Qu_whyNotOver 17 = .ok (.aload_n 0, 1) := by decide +kernel
theorem d_Qu_whyNotOver_18 : decode b_Qu_whyNotOver 18 = .ok (.getfield 50, 3) := by decide +kernel
theorem d_Qu_whyNotOver_21 : decode b_Qu_whyNotOver 21 = .ok (.iload_n 2, 1) := by decide +kernel
theorem d_Qu_whyNotOver_22 : decode b_Qu_whyNotOver 22 = .ok (.invokevirtual 120, 3) := by decide +kernel
theorem d_Qu_whyNotOver_25 : decode b_Qu_whyNotOver 25 = .ok (.ifCond .ne 5, 3) := by decide +kernel
theorem d_Qu_whyNotOver_28 : decode b_Qu_whyNotOver 28 = .ok (.iconst 5, 1) := by decide +kernel
theorem d_Qu_whyNotOver_29 : decode b_Qu_whyNotOver 29 = .ok (.ireturn, 1) := by decide +kernel
theorem d_Qu_whyNotOver_30 : decode b_Qu_whyNotOver 30 = .ok (.aload_n 0, 1) := by decide +kernel
theorem d_Qu_whyNotOver_31 : decode b_Qu_whyNotOver 31 = .ok (.aload_n 0, 1) := by decide +kernel
theorem d_Qu_whyNotOver_32 : decode b_Qu_whyNotOver 32 = .ok (.getfield 12, 3) := by decide +kernel
theorem d_Qu_whyNotOver_35 : decode b_Qu_whyNotOver 35 = .ok (.iload_n 2, 1) := by decide +kernel
theorem d_Qu_whyNotOver_36 : decode b_Qu_whyNotOver 36 = .ok (.invokevirtual 124, 3) := by decide +kernel
theorem d_Qu_whyNotOver_39 : decode b_Qu_whyNotOver 39 = .ok (.aload_n 0, 1) := by decide +kernel
theorem d_Qu_whyNotOver_40 : decode b_Qu_whyNotOver 40 = .ok (.iload_n 1, 1) := by decide +kernel
theorem d_Qu_whyNotOver_41 : decode b_Qu_whyNotOver 41 = .ok (.invokevirtual 74, 3) := by decide +kernel
theorem d_Qu_whyNotOver_44 : decode b_Qu_whyNotOver 44 = .ok (.iconst 0, 1) := by decide +kernel
theorem d_Qu_whyNotOver_45 : decode b_Qu_whyNotOver 45 = .ok (.ireturn, 1) := by decide +kernel
theorem d_Qu_whyNotOver_46 : decode b_Qu_whyNotOver 46 = .ok (.iload_n 1, 1) := by decide +kernel
theorem d_Qu_whyNotOver_47 : decode b_Qu_whyNotOver 47 = .ok (.iconst 5, 1) := by decide +kernel
theorem d_Qu_whyNotOver_48 : decode b_Qu_whyNotOver 48 = .ok (.invokestatic 77, 3) := by decide +kernel
theorem d_Qu_whyNotOver_51 : decode b_Qu_whyNotOver 51 = .ok (.istore_n 3, 1) := by decide +kernel
theorem d_Qu_whyNotOver_52 : decode b_Qu_whyNotOver 52 = .ok (.aload_n 0, 1) := by decide +kernel
theorem d_Qu_whyNotOver_53 : decode b_Qu_whyNotOver 53 = .ok (.getfield 50, 3) := by decide +kernel
theorem d_Qu_whyNotOver_56 : decode b_Qu_whyNotOver 56 = .ok (.iload_n 3, 1) := by decide +kernel
theorem d_Qu_whyNotOver_57 : decode b_Qu_whyNotOver 57 = .ok (.invokevirtual 120, 3) := by decide +kernel
theorem d_Qu_whyNotOver_60 : decode b_Qu_whyNotOver 60 = .ok (.ifCond .eq 25, 3) := by decide +kernel
theorem d_Qu_whyNotOver_63 : decode b_Qu_whyNotOver 63 = .ok (.aload_n 0, 1) := by decide +kernel
theorem d_Qu_whyNotOver_64 : decode b_Qu_whyNotOver 64 = .ok (.iload_n 3, 1) := by decide +kernel
theorem d_Qu_whyNotOver_65 : decode b_Qu_whyNotOver 65 = .ok (.iconst 2, 1) := by decide +kernel
theorem d_Qu_whyNotOver_66 : decode b_Qu_whyNotOver 66 = .ok (.invokevirtual 142, 3) := by decide +kernel
theorem d_Qu_whyNotOver_69 : decode b_Qu_whyNotOver 69 = .ok (.ifCond .eq 16, 3) := by decide +kernel
theorem d_Qu_whyNotOver_72 : decode b_Qu_whyNotOver 72 = .ok (.aload_n 0, 1) := by decide +kernel
theorem d_Qu_whyNotOver_73 : decode b_Qu_whyNotOver 73 = .ok (.iload_n 3, 1) := by decide +kernel
theorem d_Qu_whyNotOver_74 : decode b_Qu_whyNotOver 74 = .ok (.iconst 3, 1) := by decide +kernel
theorem d_Qu_whyNotOver_75 : decode b_Qu_whyNotOver 75 = .ok (.invokevirtual 142, 3) := by decide +kernel
theorem d_Qu_whyNotOver_78 : decode b_Qu_whyNotOver 78 = .ok (.ifCond .ne 7, 3) := by decide +kernel
theorem d_Qu_whyNotOver_81 : decode b_Qu_whyNotOver 81 = .ok (.iconst 1, 1) := by decide +kernel
theorem d_Qu_whyNotOver_82 : decode b_Qu_whyNotOver 82 = .ok (.goto 4, 3) := by decide +kernel
theorem d_Qu_whyNotOver_85 : decode b_Qu_whyNotOver 85 = .ok (.iconst 0, 1) := by decide +kernel
theorem d_Qu_whyNotOver_86 : decode b_Qu_whyNotOver 86 = .ok (.istore 4, 2) := by decide +kernel
theorem d_Qu_whyNotOver_88 : decode b_Qu_whyNotOver 88 = .ok (.iload 4, 2) := by decide +kernel
theorem d_Qu_whyNotOver_90 : decode b_Qu_whyNotOver 90 = .ok (.ifCond .eq 8, 3) := by decide +kernel
theorem d_Qu_whyNotOver_93 : decode b_Qu_whyNotOver 93 = .ok (.bipush 6, 2) := by decide +kernel
theorem d_Qu_whyNotOver_95 : decode b_Qu_whyNotOver 95 = .ok (.goto 5, 3) := by decide +kernel
theorem d_Qu_whyNotOver_98 : decode b_Qu_whyNotOver 98 = .ok (.bipush 7, 2) := by decide +kernel
theorem d_Qu_whyNotOver_100 : decode b_Qu_whyNotOver 100 = .ok (.ireturn, 1) := by decide +kernel
theorem d_Qu_whyThere_0 : decode b_Qu_whyThere 0 = .ok (.aload_n 0, 1) := by decide +kernel
theorem d_Qu_whyThere_1 : decode b_Qu_whyThere 1 = .ok (.getfield 50, 3) := by decide +kernel
theorem d_Qu_whyThere_4 : decode b_Qu_whyThere 4 = .ok (.iload_n 1, 1) := by decide +kernel
theorem d_Qu_whyThere_5 : decode b_Qu_whyThere 5 = .ok (.invokevirtual 120, 3) := by decide +kernel
theorem d_Qu_whyThere_8 : decode b_Qu_whyThere 8 = .ok (.ifCond .eq 6, 3) := by decide +kernel
theorem d_Qu_whyThere_11 : decode b_Qu_whyThere 11 = .ok (.bipush 8, 2) := by decide +kernel
theorem d_Qu_whyThere_13 : decode b_Qu_whyThere 13 = .ok (.ireturn, 1) := by decide +kernel
theorem d_Qu_whyThere_14 : decode b_Qu_whyThere 14 = .ok (.aload_n 0, 1) := by decide +kernel
theorem d_Qu_whyThere_15 : decode b_Qu_whyThere 15 = .ok (.getfield 50, 3) := by decide +kernel
theorem d_Qu_whyThere_18 : decode b_Qu_whyThere 18 = .ok (.iload_n 1, 1) := by decide +kernel
theorem d_Qu_whyThere_19 : decode b_Qu_whyThere 19 = .ok (.invokevirtual 146, 3) := by decide +kernel
theorem d_Qu_whyThere_22 : decode b_Qu_whyThere 22 = .ok (.istore_n 2, 1) := by decide +kernel
theorem d_Qu_whyThere_23 : decode b_Qu_whyThere 23 = .ok (.iload_n 2, 1) := by decide +kernel
theorem d_Qu_whyThere_24 : decode b_Qu_whyThere 24 = .ok (.iconst (-1), 1) := by decide +kernel
theorem d_Qu_whyThere_25 : decode b_Qu_whyThere 25 = .ok (.if_icmp .ne 6, 3) := by decide +kernel
theorem d_Qu_whyThere_28 : decode b_Qu_whyThere 28 = .ok (.bipush 11, 2) := by decide +kernel
theorem d_Qu_whyThere_30 : decode b_Qu_whyThere 30 = .ok (.ireturn, 1) := by decide +kernel
theorem d_Qu_whyThere_31 : decode b_Qu_whyThere 31 = .ok (.aload_n 0, 1) := by decide +kernel
theorem d_Qu_whyThere_32 : decode b_Qu_whyThere 32 = .ok (.aload_n 0, 1) := by decide +kernel
theorem d_Qu_whyThere_33 : decode b_Qu_whyThere 33 = .ok (.getfield 34, 3) := by decide +kernel
theorem d_Qu_whyThere_36 : decode b_Qu_whyThere 36 = .ok (.iload_n 2, 1) := by decide +kernel
theorem d_Qu_whyThere_37 : decode b_Qu_whyThere 37 = .ok (.iconst 1, 1) := by decide +kernel
theorem d_Qu_whyThere_38 : decode b_Qu_whyThere 38 = .ok (.iadd, 1) := by decide +kernel
theorem d_Qu_whyThere_39 : decode b_Qu_whyThere 39 = .ok (.invokestatic 139, 3) := by decide +kernel
theorem d_Qu_whyThere_42 : decode b_Qu_whyThere 42 = .ok (.invokevirtual 149, 3) := by decide +kernel
theorem d_Qu_whyThere_45 : decode b_Qu_whyThere 45 = .ok (.ifCond .eq 8, 3) := by decide +kernel
theorem d_Qu_whyThere_48 : decode b_Qu_whyThere 48 = .ok (.bipush 9, 2) := by decide +kernel
theorem d_Qu_whyThere_50 : decode b_Qu_whyThere 50 = .ok (.goto 5, 3) := by decide +kernel
theorem d_Qu_whyThere_53 : decode b_Qu_whyThere 53 = .ok (.bipush 10, 2) := by decide +kernel
theorem d_Qu_whyThere_55 : decode b_Qu_whyThere 55 = .ok (.ireturn, 1) := by decide +kernel
theorem d_Qu_whyAbsent_0 : decode b_Qu_whyAbsent 0 = .ok (.aload_n 0, 1) := by decide +kernel
theorem d_Qu_whyAbsent_1 : decode b_Qu_whyAbsent 1 = .ok (.getfield 34, 3) := by decide +kernel
theorem d_Qu_whyAbsent_4 : decode b_Qu_whyAbsent 4 = .ok (.iconst 5, 1) := by decide +kernel
theorem d_Qu_whyAbsent_5 : decode b_Qu_whyAbsent 5 = .ok (.invokestatic 77, 3) := by decide +kernel
theorem d_Qu_whyAbsent_8 : decode b_Qu_whyAbsent 8 = .ok (.istore_n 1, 1) := by decide +kernel
theorem d_Qu_whyAbsent_9 : decode b_Qu_whyAbsent 9 = .ok (.aload_n 0, 1) := by decide +kernel
theorem d_Qu_whyAbsent_10 : decode b_Qu_whyAbsent 10 = .ok (.getfield 50, 3) := by decide +kernel
theorem d_Qu_whyAbsent_13 : decode b_Qu_whyAbsent 13 = .ok (.iload_n 1, 1) := by decide +kernel
theorem d_Qu_whyAbsent_14 : decode b_Qu_whyAbsent 14 = .ok (.invokevirtual 120, 3) := by decide +kernel
theorem d_Qu_whyAbsent_17 : decode b_Qu_whyAbsent 17 = .ok (.ifCond .eq 23, 3) := by decide +kernel
theorem d_Qu_whyAbsent_20 : decode b_Qu_whyAbsent 20 = .ok (.aload_n 0, 1) := by decide +kernel
theorem d_Qu_whyAbsent_21 : decode b_Qu_whyAbsent 21 = .ok (.iload_n 1, 1) := by decide +kernel
theorem d_Qu_whyAbsent_22 : decode b_Qu_whyAbsent 22 = .ok (.aload_n 0, 1) := by decide +kernel
theorem d_Qu_whyAbsent_23 : decode b_Qu_whyAbsent 23 = .ok (.getfield 37, 3) := by decide +kernel
theorem d_Qu_whyAbsent_26 : decode b_Qu_whyAbsent 26 = .ok (.invokevirtual 142, 3) := by decide +kernel
theorem d_Qu_whyAbsent_29 : decode b_Qu_whyAbsent 29 = .ok (.ifCond .eq 8, 3) := by decide +kernel
theorem d_Qu_whyAbsent_32 : decode b_Qu_whyAbsent 32 = .ok (.bipush 13, 2) := by decide +kernel
theorem d_Qu_whyAbsent_34 : decode b_Qu_whyAbsent 34 = .ok (.goto 5, 3) := by decide +kernel
theorem d_Qu_whyAbsent_37 : decode b_Qu_whyAbsent 37 = .ok (.bipush 12, 2) := by decide +kernel
theorem d_Qu_whyAbsent_39 : decode b_Qu_whyAbsent 39 = .ok (.ireturn, 1) := by decide +kernel
theorem d_Qu_whyAbsent_40 : decode b_Qu_whyAbsent 40 = .ok (.aload_n 0, 1) := by decide +kernel
theorem d_Qu_whyAbsent_41 : decode b_Qu_whyAbsent 41 = .ok (.getfield 34, 3) := by decide +kernel
theorem d_Qu_whyAbsent_44 : decode b_Qu_whyAbsent 44 = .ok (.aload_n 0, 1) := by decide +kernel
theorem d_Qu_whyAbsent_45 : decode b_Qu_whyAbsent 45 = .ok (.getfield 31, 3) := by decide +kernel
theorem d_Qu_whyAbsent_48 : decode b_Qu_whyAbsent 48 = .ok (.if_icmp .ne 6, 3) := by decide +kernel
theorem d_Qu_whyAbsent_51 : decode b_Qu_whyAbsent 51 = .ok (.bipush 14, 2) := by decide +kernel
theorem d_Qu_whyAbsent_53 : decode b_Qu_whyAbsent 53 = .ok (.ireturn, 1) := by decide +kernel
theorem d_Qu_whyAbsent_54 : decode b_Qu_whyAbsent 54 = .ok (.aload_n 0, 1) := by decide +kernel
theorem d_Qu_whyAbsent_55 : decode b_Qu_whyAbsent 55 = .ok (.invokevirtual 152, 3) := by decide +kernel
theorem d_Qu_whyAbsent_58 : decode b_Qu_whyAbsent 58 = .ok (.istore_n 2, 1) := by decide +kernel
theorem d_Qu_whyAbsent_59 : decode b_Qu_whyAbsent 59 = .ok (.aload_n 0, 1) := by decide +kernel
theorem d_Qu_whyAbsent_60 : decode b_Qu_whyAbsent 60 = .ok (.aload_n 0, 1) := by decide +kernel
theorem d_Qu_whyAbsent_61 : decode b_Qu_whyAbsent 61 = .ok (.getfield 34, 3) := by decide +kernel
theorem d_Qu_whyAbsent_64 : decode b_Qu_whyAbsent 64 = .ok (.iload_n 2, 1) := by decide +kernel
theorem d_Qu_whyAbsent_65 : decode b_Qu_whyAbsent 65 = .ok (.invokestatic 136, 3) := by decide +kernel
theorem d_Qu_whyAbsent_68 : decode b_Qu_whyAbsent 68 = .ok (.iconst 1, 1) := by decide +kernel
theorem d_Qu_whyAbsent_69 : decode b_Qu_whyAbsent 69 = .ok (.iadd, 1) := by decide +kernel
theorem d_Qu_whyAbsent_70 : decode b_Qu_whyAbsent 70 = .ok (.invokestatic 139, 3) := by decide +kernel
theorem d_Qu_whyAbsent_73 : decode b_Qu_whyAbsent 73 = .ok (.invokevirtual 149, 3) := by decide +kernel
theorem d_Qu_whyAbsent_76 : decode b_Qu_whyAbsent 76 = .ok (.ifCond .ne 6, 3) := by decide +kernel
theorem d_Qu_whyAbsent_79 : decode b_Qu_whyAbsent 79 = .ok (.bipush 14, 2) := by decide +kernel
theorem d_Qu_whyAbsent_81 : decode b_Qu_whyAbsent 81 = .ok (.ireturn, 1) := by decide +kernel
theorem d_Qu_whyAbsent_82 : decode b_Qu_whyAbsent 82 = .ok (.iload_n 2, 1) := by decide +kernel
theorem d_Qu_whyAbsent_83 : decode b_Qu_whyAbsent 83 = .ok (.invokestatic 155, 3) := by decide +kernel
theorem d_Qu_whyAbsent_86 : decode b_Qu_whyAbsent 86 = .ok (.istore_n 3, 1) := by decide +kernel
theorem d_Qu_whyAbsent_87 : decode b_Qu_whyAbsent 87 = .ok (.aload_n 0, 1) := by decide +kernel
theorem d_Qu_whyAbsent_88 : decode b_Qu_whyAbsent 88 = .ok (.iload_n 3, 1) := by decide +kernel
theorem d_Qu_whyAbsent_89 : decode b_Qu_whyAbsent 89 = .ok (.invokevirtual 149, 3) := by decide +kernel
theorem d_Qu_whyAbsent_92 : decode b_Qu_whyAbsent 92 = .ok (.ifCond .eq 6, 3) := by decide +kernel
theorem d_Qu_whyAbsent_95 : decode b_Qu_whyAbsent 95 = .ok (.bipush 15, 2) := by decide +kernel
theorem d_Qu_whyAbsent_97 : decode b_Qu_whyAbsent 97 = .ok (.ireturn, 1) := by decide +kernel
theorem d_Qu_whyAbsent_98 : decode b_Qu_whyAbsent 98 = .ok (.iload_n 3, 1) := by decide +kernel
theorem d_Qu_whyAbsent_99 : decode b_Qu_whyAbsent 99 = .ok (.iconst 5, 1) := by decide +kernel
theorem d_Qu_whyAbsent_100 : decode b_Qu_whyAbsent 100 = .ok (.invokestatic 77, 3) := by decide +kernel
theorem d_Qu_whyAbsent_103 : decode b_Qu_whyAbsent 103 = .ok (.istore 4, 2) := by decide +kernel
theorem d_Qu_whyAbsent_105 : decode b_Qu_whyAbsent 105 = .ok (.aload_n 0, 1) := by decide +kernel
theorem d_Qu_whyAbsent_106 : decode b_Qu_whyAbsent 106 = .ok (.getfield 50, 3) := by decide +kernel
theorem d_Qu_whyAbsent_109 : decode b_Qu_whyAbsent 109 = .ok (.iload 4, 2) := by decide +kernel
theorem d_Qu_whyAbsent_111 : decode b_Qu_whyAbsent 111 = .ok (.invokevirtual 120, 3) := by decide +kernel
theorem d_Qu_whyAbsent_114 : decode b_Qu_whyAbsent 114 = .ok (.ifCond .eq 20, 3) := by decide +kernel
theorem d_Qu_whyAbsent_117 : decode b_Qu_whyAbsent 117 = .ok (.aload_n 0, 1) := by decide +kernel
theorem d_Qu_whyAbsent_118 : decode b_Qu_whyAbsent 118 = .ok (.iload 4, 2) := by decide +kernel
theorem d_Qu_whyAbsent_120 : decode b_Qu_whyAbsent 120 = .ok (.aload_n 0, 1) := by decide +kernel
theorem d_Qu_whyAbsent_121 : decode b_Qu_whyAbsent 121 = .ok (.getfield 37, 3) := by decide +kernel
theorem d_Qu_whyAbsent_124 : decode b_Qu_whyAbsent 124 = .ok (.invokevirtual 142, 3) := by decide +kernel
theorem d_Qu_whyAbsent_127 : decode b_Qu_whyAbsent 127 = .ok (.ifCond .ne 7, 3) := by decide +kernel
theorem d_Qu_whyAbsent_130 : decode b_Qu_whyAbsent 130 = .ok (.iconst 1, 1) := by decide +kernel
theorem d_Qu_whyAbsent_131 : decode b_Qu_whyAbsent 131 = .ok (.goto 4, 3) := by decide +kernel
theorem d_Qu_whyAbsent_134 : decode b_Qu_whyAbsent 134 = .ok (.iconst 0, 1) := by decide +kernel
theorem d_Qu_whyAbsent_135 : decode b_Qu_whyAbsent 135 = .ok (.istore 5, 2) := by decide +kernel
theorem d_Qu_whyAbsent_137 : decode b_Qu_whyAbsent 137 = .ok (.iload 5, 2) := by decide +kernel
theorem d_Qu_whyAbsent_139 : decode b_Qu_whyAbsent 139 = .ok (.ifCond .eq 8, 3) := by decide +kernel
theorem d_Qu_whyAbsent_142 : decode b_Qu_whyAbsent 142 = .ok (.bipush 16, 2) := by decide +kernel
theorem d_Qu_whyAbsent_144 : decode b_Qu_whyAbsent 144 = .ok (.goto 5, 3) := by decide +kernel
theorem d_Qu_whyAbsent_147 : decode b_Qu_whyAbsent 147 = .ok (.bipush 17, 2) := by decide +kernel
theorem d_Qu_whyAbsent_149 : decode b_Qu_whyAbsent 149 = .ok (.ireturn, 1) := by decide +kernel
theorem d_Qu_closestKnown_0 : decode b_Qu_closestKnown 0 = .ok (.aload_n 0, 1) := by decide +kernel
theorem d_Qu_closestKnown_1 : decode b_Qu_closestKnown 1 = .ok (.getfield 34, 3) := by decide +kernel
theorem d_Qu_closestKnown_4 : decode b_Qu_closestKnown 4 = .ok (.invokestatic 136, 3) := by decide +kernel
theorem d_Qu_closestKnown_7 : decode b_Qu_closestKnown 7 = .ok (.iconst 1, 1) := by decide +kernel
theorem d_Qu_closestKnown_8 : decode b_Qu_closestKnown 8 = .ok (.isub, 1) := by decide +kernel
theorem d_Qu_closestKnown_9 : decode b_Qu_closestKnown 9 = .ok (.istore_n 1, 1) := by decide +kernel
theorem d_Qu_closestKnown_10 : decode b_Qu_closestKnown 10 = .ok (.iload_n 1, 1) := by decide +kernel
theorem d_Qu_closestKnown_11 : decode b_Qu_closestKnown 11 = .ok (.aload_n 0, 1) := by decide +kernel
theorem d_Qu_closestKnown_12 : decode b_Qu_closestKnown 12 = .ok (.getfield 31, 3) := by decide +kernel
theorem d_Qu_closestKnown_15 : decode b_Qu_closestKnown 15 = .ok (.invokestatic 136, 3) := by decide +kernel
theorem d_Qu_closestKnown_18 : decode b_Qu_closestKnown 18 = .ok (.if_icmp .le 28, 3) := by decide +kernel
theorem d_Qu_closestKnown_21 : decode b_Qu_closestKnown 21 = .ok (.aload_n 0, 1) := by decide +kernel
theorem d_Qu_closestKnown_22 : decode b_Qu_closestKnown 22 = .ok (.getfield 34, 3) := by decide +kernel
theorem d_Qu_closestKnown_25 : decode b_Qu_closestKnown 25 = .ok (.iload_n 1, 1) := by decide +kernel
theorem d_Qu_closestKnown_26 : decode b_Qu_closestKnown 26 = .ok (.invokestatic 139, 3) := by decide +kernel
theorem d_Qu_closestKnown_29 : decode b_Qu_closestKnown 29 = .ok (.istore_n 2, 1) := by decide +kernel
theorem d_Qu_closestKnown_30 : decode b_Qu_closestKnown 30 = .ok (.aload_n 0, 1) := by decide +kernel
theorem d_Qu_closestKnown_31 : decode b_Qu_closestKnown 31 = .ok (.iload_n 2, 1) := by decide +kernel
theorem d_Qu_closestKnown_32 : decode b_Qu_closestKnown 32 = .ok (.invokevirtual 158, 3) := by decide +kernel
theorem d_Qu_closestKnown_35 : decode b_Qu_closestKnown 35 = .ok (.ifCond .eq 5, 3) := by decide +kernel
theorem d_Qu_closestKnown_38 : decode b_Qu_closestKnown 38 = .ok (.iload_n 2, 1) := by decide +kernel
theorem d_Qu_closestKnown_39 : decode b_Qu_closestKnown 39 = .ok (.ireturn, 1) := by decide +kernel
theorem d_Qu_closestKnown_40 : decode b_Qu_closestKnown 40 = .ok (.iinc 1 (-1), 3) := by decide +kernel
theorem d_Qu_closestKnown_43 : decode b_Qu_closestKnown 43 = .ok (.goto (-33), 3) := by decide +kernel
theorem d_Qu_closestKnown_46 : decode b_Qu_closestKnown 46 = .ok (.aload_n 0, 1) := by decide +kernel
theorem d_Qu_closestKnown_47 : decode b_Qu_closestKnown 47 = .ok (.getfield 31, 3) := by decide +kernel
theorem d_Qu_closestKnown_50 : decode b_Qu_closestKnown 50 = .ok (.ireturn, 1) := by decide +kernel
theorem d_Qu_isKnown_0 : decode b_Qu_isKnown 0 = .ok (.iconst 0, 1) := by decide +kernel
theorem d_Qu_isKnown_1 : decode b_Qu_isKnown 1 = .ok (.istore_n 2, 1) := by decide +kernel
theorem d_Qu_isKnown_2 : decode b_Qu_isKnown 2 = .ok (.iload_n 2, 1) := by decide +kernel
theorem d_Qu_isKnown_3 : decode b_Qu_isKnown 3 = .ok (.aload_n 0, 1) := by decide +kernel
theorem d_Qu_isKnown_4 : decode b_Qu_isKnown 4 = .ok (.getfield 46, 3) := by decide +kernel
theorem d_Qu_isKnown_7 : decode b_Qu_isKnown 7 = .ok (.getfield 161, 3) := by decide +kernel
theorem d_Qu_isKnown_10 : decode b_Qu_isKnown 10 = .ok (.if_icmp .ge 39, 3) := by decide +kernel
theorem d_Qu_isKnown_13 : decode b_Qu_isKnown 13 = .ok (.aload_n 0, 1) := by decide +kernel
theorem d_Qu_isKnown_14 : decode b_Qu_isKnown 14 = .ok (.getfield 46, 3) := by decide +kernel
theorem d_Qu_isKnown_17 : decode b_Qu_isKnown 17 = .ok (.iload_n 2, 1) := by decide +kernel
theorem d_Qu_isKnown_18 : decode b_Qu_isKnown 18 = .ok (.invokevirtual 162, 3) := by decide +kernel
theorem d_Qu_isKnown_21 : decode b_Qu_isKnown 21 = .ok (.istore_n 3, 1) := by decide +kernel
theorem d_Qu_isKnown_22 : decode b_Qu_isKnown 22 = .ok (.aload_n 0, 1) := by decide +kernel
theorem d_Qu_isKnown_23 : decode b_Qu_isKnown 23 = .ok (.iload_n 3, 1) := by decide +kernel
theorem d_Qu_isKnown_24 : decode b_Qu_isKnown 24 = .ok (.invokevirtual 165, 3) := by decide +kernel
theorem d_Qu_isKnown_27 : decode b_Qu_isKnown 27 = .ok (.ifCond .eq 16, 3) := by decide +kernel
theorem d_Qu_isKnown_30 : decode b_Qu_isKnown 30 = .ok (.iload_n 1, 1) := by decide +kernel
theorem d_Qu_isKnown_31 : decode b_Qu_isKnown 31 = .ok (.iload_n 3, 1) := by decide +kernel
theorem d_Qu_isKnown_32 : decode b_Qu_isKnown 32 = .ok (.invokestatic 168, 3) := by decide +kernel
theorem d_Qu_isKnown_35 : decode b_Qu_isKnown 35 = .ok (.invokestatic 171, 3) := by decide +kernel
theorem d_Qu_isKnown_38 : decode b_Qu_isKnown 38 = .ok (.ifCond .eq 5, 3) := by decide +kernel
theorem d_Qu_isKnown_41 : decode b_Qu_isKnown 41 = .ok (.iconst 1, 1) := by decide +kernel
theorem d_Qu_isKnown_42 : decode b_Qu_isKnown 42 = .ok (.ireturn, 1) := by decide +kernel
theorem d_Qu_isKnown_43 : decode b_Qu_isKnown 43 = .ok (.iinc 2 1, 3) := by decide +kernel
theorem d_Qu_isKnown_46 : decode b_Qu_isKnown 46 = .ok (.goto (-44), 3) := by decide +kernel
theorem d_Qu_isKnown_49 : decode b_Qu_isKnown 49 = .ok (.iconst 0, 1) := by decide +kernel
theorem d_Qu_isKnown_50 : decode b_Qu_isKnown 50 = .ok (.ireturn, 1) := by decide +kernel
theorem d_Qu_isCovered_0 : decode b_Qu_isCovered 0 = .ok (.iconst 0, 1) := by decide +kernel
theorem d_Qu_isCovered_1 : decode b_Qu_isCovered 1 = .ok (.istore_n 2, 1) := by decide +kernel
theorem d_Qu_isCovered_2 : decode b_Qu_isCovered 2 = .ok (.iload_n 2, 1) := by decide +kernel
theorem d_Qu_isCovered_3 : decode b_Qu_isCovered 3 = .ok (.aload_n 0, 1) := by decide +kernel
theorem d_Qu_isCovered_4 : decode b_Qu_isCovered 4 = .ok (.getfield 46, 3) := by decide +kernel
theorem d_Qu_isCovered_7 : decode b_Qu_isCovered 7 = .ok (.getfield 161, 3) := by decide +kernel
theorem d_Qu_isCovered_10 : decode b_Qu_isCovered 10 = .ok (.if_icmp .ge 64, 3) := by decide +kernel
theorem d_Qu_isCovered_13 : decode b_Qu_isCovered 13 = .ok (.aload_n 0, 1) := by decide +kernel
theorem d_Qu_isCovered_14 : decode b_Qu_isCovered 14 = .ok (.getfield 46, 3) := by decide +kernel
theorem d_Qu_isCovered_17 : decode b_Qu_isCovered 17 = .ok (.iload_n 2, 1) := by decide +kernel
theorem d_Qu_isCovered_18 : decode b_Qu_isCovered 18 = .ok (.invokevirtual 162, 3) := by decide +kernel
theorem d_Qu_isCovered_21 : decode b_Qu_isCovered 21 = .ok (.istore_n 3, 1) := by decide +kernel
theorem d_Qu_isCovered_22 : decode b_Qu_isCovered 22 = .ok (.iload_n 3, 1) := by decide +kernel
theorem d_Qu_isCovered_23 : decode b_Qu_isCovered 23 = .ok (.invokestatic 168, 3) := by decide +kernel
theorem d_Qu_isCovered_26 : decode b_Qu_isCovered 26 = .ok (.iload_n 1, 1) := by decide +kernel
theorem d_Qu_isCovered_27 : decode b_Qu_isCovered 27 = .ok (.if_icmp .ge 41, 3) := by decide +kernel
theorem d_Qu_isCovered_30 : decode b_Qu_isCovered 30 = .ok (.aload_n 0, 1) := by decide +kernel
theorem d_Qu_isCovered_31 : decode b_Qu_isCovered 31 = .ok (.iload_n 3, 1) := by decide +kernel
theorem d_Qu_isCovered_32 : decode b_Qu_isCovered 32 = .ok (.invokevirtual 165, 3) := by decide +kernel
theorem d_Qu_isCovered_35 : decode b_Qu_isCovered 35 = .ok (.ifCond .eq 33, 3) := by decide +kernel
theorem d_Qu_isCovered_38 : decode b_Qu_isCovered 38 = .ok (.aload_n 0, 1) := by decide +kernel
theorem d_Qu_isCovered_39 : decode b_Qu_isCovered 39 = .ok (.getfield 46, 3) := by decide +kernel
theorem d_Qu_isCovered_42 : decode b_Qu_isCovered 42 = .ok (.iload_n 3, 1) := by decide +kernel
theorem d_Qu_isCovered_43 : decode b_Qu_isCovered 43 = .ok (.invokevirtual 174, 3) := by decide +kernel
theorem d_Qu_isCovered_46 : decode b_Qu_isCovered 46 = .ok (.invokestatic 177, 3) := by decide +kernel
theorem d_Qu_isCovered_49 : decode b_Qu_isCovered 49 = .ok (.istore 4, 2) := by decide +kernel
theorem d_Qu_isCovered_51 : decode b_Qu_isCovered 51 = .ok (.iload_n 1, 1) := by decide +kernel
theorem d_Qu_isCovered_52 : decode b_Qu_isCovered 52 = .ok (.iload 4, 2) := by decide +kernel
theorem d_Qu_isCovered_54 : decode b_Qu_isCovered 54 = .ok (.if_icmp .lt 12, 3) := by decide +kernel
theorem d_Qu_isCovered_57 : decode b_Qu_isCovered 57 = .ok (.iload 4, 2) := by decide +kernel
theorem d_Qu_isCovered_59 : decode b_Qu_isCovered 59 = .ok (.aload_n 0, 1) := by decide +kernel
theorem d_Qu_isCovered_60 : decode b_Qu_isCovered 60 = .ok (.getfield 31, 3) := by decide +kernel
theorem d_Qu_isCovered_63 : decode b_Qu_isCovered 63 = .ok (.if_icmp .ne 5, 3) := by decide +kernel
theorem d_Qu_isCovered_66 : decode b_Qu_isCovered 66 = .ok (.iconst 1, 1) := by decide +kernel
theorem d_Qu_isCovered_67 : decode b_Qu_isCovered 67 = .ok (.ireturn, 1) := by decide +kernel
theorem d_Qu_isCovered_68 : decode b_Qu_isCovered 68 = .ok (.iinc 2 1, 3) := by decide +kernel
theorem d_Qu_isCovered_71 : decode b_Qu_isCovered 71 = .ok (.goto (-69), 3) := by decide +kernel
theorem d_Qu_isCovered_74 : decode b_Qu_isCovered 74 = .ok (.iconst 0, 1) := by decide +kernel
theorem d_Qu_isCovered_75 : decode b_Qu_isCovered 75 = .ok (.ireturn, 1) := by decide +kernel
theorem d_Qu_isPlainNext_0 : decode b_Qu_isPlainNext 0 = .ok (.iload_n 1, 1) := by decide +kernel
theorem d_Qu_isPlainNext_1 : decode b_Qu_isPlainNext 1 = .ok (.invokestatic 182, 3) := by decide +kernel
theorem d_Qu_isPlainNext_4 : decode b_Qu_isPlainNext 4 = .ok (.iconst 5, 1) := by decide +kernel
theorem d_Qu_isPlainNext_5 : decode b_Qu_isPlainNext 5 = .ok (.if_icmp .ne 18, 3) := by decide +kernel
theorem d_Qu_isPlainNext_8 : decode b_Qu_isPlainNext 8 = .ok (.aload_n 0, 1) := by decide +kernel
theorem d_Qu_isPlainNext_9 : decode b_Qu_isPlainNext 9 = .ok (.getfield 50, 3) := by decide +kernel
theorem d_Qu_isPlainNext_12 : decode b_Qu_isPlainNext 12 = .ok (.iload_n 1, 1) := by decide +kernel
theorem d_Qu_isPlainNext_13 : decode b_Qu_isPlainNext 13 = .ok (.invokevirtual 120, 3) := by decide +kernel
theorem d_Qu_isPlainNext_16 : decode b_Qu_isPlainNext 16 = .ok (.ifCond .eq 7, 3) := by decide +kernel
theorem d_Qu_isPlainNext_19 : decode b_Qu_isPlainNext 19 = .ok (.iconst 1, 1) := by decide +kernel
theorem d_Qu_isPlainNext_20 : decode b_Qu_isPlainNext 20 = .ok (.goto 4, 3) := by decide +kernel
theorem d_Qu_isPlainNext_23 : decode b_Qu_isPlainNext 23 = .ok (.iconst 0, 1) := by decide +kernel
theorem d_Qu_isPlainNext_24 : decode b_Qu_isPlainNext 24 = .ok (.ireturn, 1) := by decide +kernel
theorem d_Qu_tells_0 : decode b_Qu_tells 0 = .ok (.aload_n 0, 1) := by decide +kernel
theorem d_Qu_tells_1 : decode b_Qu_tells 1 = .ok (.getfield 46, 3) := by decide +kernel
theorem d_Qu_tells_4 : decode b_Qu_tells 4 = .ok (.iload_n 1, 1) := by decide +kernel
theorem d_Qu_tells_5 : decode b_Qu_tells 5 = .ok (.invokevirtual 174, 3) := by decide +kernel
theorem d_Qu_tells_8 : decode b_Qu_tells 8 = .ok (.iload_n 2, 1) := by decide +kernel
theorem d_Qu_tells_9 : decode b_Qu_tells 9 = .ok (.invokestatic 185, 3) := by decide +kernel
theorem d_Qu_tells_12 : decode b_Qu_tells 12 = .ok (.ireturn, 1) := by decide +kernel

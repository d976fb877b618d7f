theorem d_M_init_0 : decode b_M_init 0 = .ok (.aload_n 0, 1) := by decide +kernel
theorem d_M_init_1 : decode b_M_init 1 = .ok (.invokespecial 1, 3) := by decide +kernel
theorem d_M_init_4 : decode b_M_init 4 = .ok (.aload_n 0, 1) := by decide +kernel
theorem d_M_init_5 : decode b_M_init 5 = .ok (.bipush 48, 2) := by decide +kernel
theorem d_M_init_7 : decode b_M_init 7 = .ok (.newarray .int, 2) := by decide +kernel
theorem d_M_init_9 : decode b_M_init 9 = .ok (.putfield 7, 3) := by decide +kernel
theorem d_M_init_12 : decode b_M_init 12 = .ok (.aload_n 0, 1) := by decide +kernel
theorem d_M_init_13 : decode b_M_init 13 = .ok (.bipush 48, 2) := by decide +kernel
theorem d_M_init_15 : decode b_M_init 15 = .ok (.newarray .int, 2) := by decide +kernel
theorem d_M_init_17 : decode b_M_init 17 = .ok (.putfield 13, 3) := by decide +kernel
theorem d_M_init_20 : decode b_M_init 20 = .ok (.aload_n 0, 1) := by decide +kernel
theorem d_M_init_21 : decode b_M_init 21 = .ok (.bipush 48, 2) := by decide +kernel
theorem d_M_init_23 : decode b_M_init 23 = .ok (.newarray .int, 2) := by decide +kernel
theorem d_M_init_25 : decode b_M_init 25 = .ok (.putfield 16, 3) := by decide +kernel
theorem d_M_init_28 : decode b_M_init 28 = .ok (.aload_n 0, 1) := by decide +kernel
theorem d_M_init_29 : decode b_M_init 29 = .ok (.sipush 1000, 3) := by decide +kernel
theorem d_M_init_32 : decode b_M_init 32 = .ok (.putfield 19, 3) := by decide +kernel
theorem d_M_init_35 : decode b_M_init 35 = .ok (.aload_n 0, 1) := by decide +kernel
theorem d_M_init_36 : decode b_M_init 36 = .ok (.bipush 32, 2) := by decide +kernel
theorem d_M_init_38 : decode b_M_init 38 = .ok (.newarray .int, 2) := by decide +kernel
theorem d_M_init_40 : decode b_M_init 40 = .ok (.putfield 23, 3) := by decide +kernel
theorem d_M_init_43 : decode b_M_init 43 = .ok (.aload_n 0, 1) := by decide +kernel
theorem d_M_init_44 : decode b_M_init 44 = .ok (.bipush 32, 2) := by decide +kernel
theorem d_M_init_46 : decode b_M_init 46 = .ok (.newarray .int, 2) := by decide +kernel
theorem d_M_init_48 : decode b_M_init 48 = .ok (.putfield 26, 3) := by decide +kernel
theorem d_M_init_51 : decode b_M_init 51 = .ok (.aload_n 0, 1) := by decide +kernel
theorem d_M_init_52 : decode b_M_init 52 = .ok (.bipush 32, 2) := by decide +kernel
theorem d_M_init_54 : decode b_M_init 54 = .ok (.newarray .int, 2) := by decide +kernel
theorem d_M_init_56 : decode b_M_init 56 = .ok (.putfield 29, 3) := by decide +kernel
theorem d_M_init_59 : decode b_M_init 59 = .ok (.aload_n 0, 1) := by decide +kernel
theorem d_M_init_60 : decode b_M_init 60 = .ok (.bipush 32, 2) := by decide +kernel
theorem d_M_init_62 : decode b_M_init 62 = .ok (.newarray .int, 2) := by decide +kernel
theorem d_M_init_64 : decode b_M_init 64 = .ok (.putfield 32, 3) := by decide +kernel
theorem d_M_init_67 : decode b_M_init 67 = .ok (.aload_n 0, 1) := by decide +kernel
theorem d_M_init_68 : decode b_M_init 68 = .ok (.bipush 32, 2) := by decide +kernel
theorem d_M_init_70 : decode b_M_init 70 = .ok (.newarray .int, 2) := by decide +kernel
theorem d_M_init_72 : decode b_M_init 72 = .ok (.putfield 35, 3) := by decide +kernel
theorem d_M_init_75 : decode b_M_init 75 = .ok (.aload_n 0, 1) := by decide +kernel
theorem d_M_init_76 : decode b_M_init 76 = .ok (.bipush 32, 2) := by decide +kernel
theorem d_M_init_78 : decode b_M_init 78 = .ok (.newarray .int, 2) := by decide +kernel
theorem d_M_init_80 : decode b_M_init 80 = .ok (.putfield 38, 3) := by decide +kernel
theorem d_M_init_83 : decode b_M_init 83 = .ok (.aload_n 0, 1) := by decide +kernel
theorem d_M_init_84 : decode b_M_init 84 = .ok (.bipush 32, 2) := by decide +kernel
theorem d_M_init_86 : decode b_M_init 86 = .ok (.newarray .int, 2) := by decide +kernel
theorem d_M_init_88 : decode b_M_init 88 = .ok (.putfield 41, 3) := by decide +kernel
theorem d_M_init_91 : decode b_M_init 91 = .ok (.aload_n 0, 1) := by decide +kernel
theorem d_M_init_92 : decode b_M_init 92 = .ok (.bipush 32, 2) := by decide +kernel
theorem d_M_init_94 : decode b_M_init 94 = .ok (.newarray .int, 2) := by decide +kernel
theorem d_M_init_96 : decode b_M_init 96 = .ok (.putfield 44, 3) := by decide +kernel
theorem d_M_init_99 : decode b_M_init 99 = .ok (.aload_n 0, 1) := by decide +kernel
theorem d_M_init_100 : decode b_M_init 100 = .ok (.iconst 4, 1) := by decide +kernel
theorem d_M_init_101 : decode b_M_init 101 = .ok (.newarray .int, 2) := by decide +kernel
theorem d_M_init_103 : decode b_M_init 103 = .ok (.putfield 47, 3) := by decide +kernel
theorem d_M_init_106 : decode b_M_init 106 = .ok (.aload_n 0, 1) := by decide +kernel
theorem d_M_init_107 : decode b_M_init 107 = .ok (.iconst 4, 1) := by decide +kernel
theorem d_M_init_108 : decode b_M_init 108 = .ok (.newarray .int, 2) := by decide +kernel
theorem d_M_init_110 : decode b_M_init 110 = .ok (.putfield 50, 3) := by decide +kernel
theorem d_M_init_113 : decode b_M_init 113 = .ok (.aload_n 0, 1) := by decide +kernel
theorem d_M_init_114 : decode b_M_init 114 = .ok (.iconst 5, 1) := by decide +kernel
theorem d_M_init_115 : decode b_M_init 115 = .ok (.newarray .int, 2) := by decide +kernel
theorem d_M_init_117 : decode b_M_init 117 = .ok (.putfield 53, 3) := by decide +kernel
theorem d_M_init_120 : decode b_M_init 120 = .ok (.return_, 1) := by decide +kernel
theorem d_M_label_0 : decode b_M_label 0 = .ok (.iload_n 0, 1) := by decide +kernel
theorem d_M_label_1 : decode b_M_label 1 = .ok (.bipush 15, 2) := by decide +kernel
theorem d_M_label_3 : decode b_M_label 3 = .ok (.iconst 5, 1) := by decide +kernel
theorem d_M_label_4 : decode b_M_label 4 = .ok (.iload_n 1, 1) := by decide +kernel
theorem d_M_label_5 : decode b_M_label 5 = .ok (.imul, 1) := by decide +kernel
theorem d_M_label_6 : decode b_M_label 6 = .ok (.isub, 1) := by decide +kernel
theorem d_M_label_7 : decode b_M_label 7 = .ok (.ishr, 1) := by decide +kernel
theorem d_M_label_8 : decode b_M_label 8 = .ok (.bipush 31, 2) := by decide +kernel
theorem d_M_label_10 : decode b_M_label 10 = .ok (.iand, 1) := by decide +kernel
theorem d_M_label_11 : decode b_M_label 11 = .ok (.ireturn, 1) := by decide +kernel
theorem d_M_depth_0 : decode b_M_depth 0 = .ok (.iconst 0, 1) := by decide +kernel
theorem d_M_depth_1 : decode b_M_depth 1 = .ok (.istore_n 1, 1) := by decide +kernel
theorem d_M_depth_2 : decode b_M_depth 2 = .ok (.iconst 0, 1) := by decide +kernel
theorem d_M_depth_3 : decode b_M_depth 3 = .ok (.istore_n 2, 1) := by decide +kernel
theorem d_M_depth_4 : decode b_M_depth 4 = .ok (.iload_n 2, 1) := by decide +kernel
theorem d_M_depth_5 : decode b_M_depth 5 = .ok (.iconst 4, 1) := by decide +kernel
theorem d_M_depth_6 : decode b_M_depth 6 = .ok (.if_icmp .ge 25, 3) := by decide +kernel
theorem d_M_depth_9 : decode b_M_depth 9 = .ok (.iload_n 0, 1) := by decide +kernel
theorem d_M_depth_10 : decode b_M_depth 10 = .ok (.iload_n 2, 1) := by decide +kernel
theorem d_M_depth_11 : decode b_M_depth 11 = .ok (.invokestatic 56, 3) := by decide +kernel
theorem d_M_depth_14 : decode b_M_depth 14 = .ok (.ifCond .le 9, 3) := by decide +kernel
theorem d_M_depth_17 : decode b_M_depth 17 = .ok (.iload_n 1, 1) := by decide +kernel
theorem d_M_depth_18 : decode b_M_depth 18 = .ok (.iconst 1, 1) := by decide +kernel
theorem d_M_depth_19 : decode b_M_depth 19 = .ok (.iadd, 1) := by decide +kernel
theorem d_M_depth_20 : decode b_M_depth 20 = .ok (.goto 4, 3) := by decide +kernel
theorem d_M_depth_23 : decode b_M_depth 23 = .ok (.iload_n 1, 1) := by decide +kernel
theorem d_M_depth_24 : decode b_M_depth 24 = .ok (.istore_n 1, 1) := by decide +kernel
theorem d_M_depth_25 : decode b_M_depth 25 = .ok (.iinc 2 1, 3) := by decide +kernel
theorem d_M_depth_28 : decode b_M_depth 28 = .ok (.goto (-24), 3) := by decide +kernel
theorem d_M_depth_31 : decode b_M_depth 31 = .ok (.iload_n 1, 1) := by decide +kernel
theorem d_M_depth_32 : decode b_M_depth 32 = .ok (.ireturn, 1) := by decide +kernel
theorem d_M_isName_0 : decode b_M_isName 0 = .ok (.iload_n 0, 1) := by decide +kernel
theorem d_M_isName_1 : decode b_M_isName 1 = .ok (.ifCond .lt 9, 3) := by decide +kernel
theorem d_M_isName_4 : decode b_M_isName 4 = .ok (.iload_n 0, 1) := by decide +kernel
theorem d_M_isName_5 : decode b_M_isName 5 = .ok (.ldc 60, 2) := by decide +kernel
theorem d_M_isName_7 : decode b_M_isName 7 = .ok (.if_icmp .lt 5, 3) := by decide +kernel
theorem d_M_isName_10 : decode b_M_isName 10 = .ok (.iconst 0, 1) := by decide +kernel
theorem d_M_isName_11 : decode b_M_isName 11 = .ok (.ireturn, 1) := by decide +kernel
theorem d_M_isName_12 : decode b_M_isName 12 = .ok (.iconst 1, 1) := by decide +kernel
theorem d_M_isName_13 : decode b_M_isName 13 = .ok (.istore_n 1, 1) := by decide +kernel
theorem d_M_isName_14 : decode b_M_isName 14 = .ok (.iconst 0, 1) := by decide +kernel
theorem d_M_isName_15 : decode b_M_isName 15 = .ok (.istore_n 2, 1) := by decide +kernel
theorem d_M_isName_16 : decode b_M_isName 16 = .ok (.iload_n 2, 1) := by decide +kernel
theorem d_M_isName_17 : decode b_M_isName 17 = .ok (.iconst 4, 1) := by decide +kernel
theorem d_M_isName_18 : decode b_M_isName 18 = .ok (.if_icmp .ge 51, 3) := by decide +kernel
theorem d_M_isName_21 : decode b_M_isName 21 = .ok (.iload_n 1, 1) := by decide +kernel
theorem d_M_isName_22 : decode b_M_isName 22 = .ok (.ifCond .eq 39, 3) := by decide +kernel
theorem d_M_isName_25 : decode b_M_isName 25 = .ok (.iload_n 0, 1) := by decide +kernel
theorem d_M_isName_26 : decode b_M_isName 26 = .ok (.iload_n 2, 1) := by decide +kernel
theorem d_M_isName_27 : decode b_M_isName 27 = .ok (.invokestatic 56, 3) := by decide +kernel
theorem d_M_isName_30 : decode b_M_isName 30 = .ok (.bipush 27, 2) := by decide +kernel
theorem d_M_isName_32 : decode b_M_isName 32 = .ok (.if_icmp .gt 29, 3) := by decide +kernel
theorem d_M_isName_35 : decode b_M_isName 35 = .ok (.iload_n 2, 1) := by decide +kernel
theorem d_M_isName_36 : decode b_M_isName 36 = .ok (.ifCond .eq 21, 3) := by decide +kernel
theorem d_M_isName_39 : decode b_M_isName 39 = .ok (.iload_n 0, 1) := by decide +kernel
theorem d_M_isName_40 : decode b_M_isName 40 = .ok (.iload_n 2, 1) := by decide +kernel
theorem d_M_isName_41 : decode b_M_isName 41 = .ok (.invokestatic 56, 3) := by decide +kernel
theorem d_M_isName_44 : decode b_M_isName 44 = .ok (.ifCond .eq 13, 3) := by decide +kernel
theorem d_M_isName_47 : decode b_M_isName 47 = .ok (.iload_n 0, 1) := by decide +kernel
theorem d_M_isName_48 : decode b_M_isName 48 = .ok (.iload_n 2, 1) := by decide +kernel
theorem d_M_isName_49 : decode b_M_isName 49 = .ok (.iconst 1, 1) := by decide +kernel
theorem d_M_isName_50 : decode b_M_isName 50 = .ok (.isub, 1) := by decide +kernel
theorem d_M_isName_51 : decode b_M_isName 51 = .ok (.invokestatic 56, 3) := by decide +kernel
theorem d_M_isName_54 : decode b_M_isName 54 = .ok (.ifCond .le 7, 3) := by decide +kernel
theorem d_M_isName_57 : decode b_M_isName 57 = .ok (.iconst 1, 1) := by decide +kernel
theorem d_M_isName_58 : decode b_M_isName 58 = .ok (.goto 4, 3) := by decide +kernel
theorem d_M_isName_61 : decode b_M_isName 61 = .ok (.iconst 0, 1) := by decide +kernel
theorem d_M_isName_62 : decode b_M_isName 62 = .ok (.istore_n 1, 1) := by decide +kernel
theorem d_M_isName_63 : decode b_M_isName 63 = .ok (.iinc 2 1, 3) := by decide +kernel
theorem d_M_isName_66 : decode b_M_isName 66 = .ok (.goto (-50), 3) := by decide +kernel
theorem d_M_isName_69 : decode b_M_isName 69 = .ok (.iload_n 1, 1) := by decide +kernel
theorem d_M_isName_70 : decode b_M_isName 70 = .ok (.ireturn, 1) := by decide +kernel
theorem d_M_cut_0 : decode b_M_cut 0 = .ok (.iload_n 1, 1) := by decide +kernel
theorem d_M_cut_1 : decode b_M_cut 1 = .ok (.ifCond .ne 7, 3) := by decide +kernel
theorem d_M_cut_4 : decode b_M_cut 4 = .ok (.iconst 0, 1) := by decide +kernel
theorem d_M_cut_5 : decode b_M_cut 5 = .ok (.goto 13, 3) := by decide +kernel
theorem d_M_cut_8 : decode b_M_cut 8 = .ok (.iload_n 0, 1) := by decide +kernel
theorem d_M_cut_9 : decode b_M_cut 9 = .ok (.iconst (-1), 1) := by decide +kernel
theorem d_M_cut_10 : decode b_M_cut 10 = .ok (.bipush 20, 2) := by decide +kernel
theorem d_M_cut_12 : decode b_M_cut 12 = .ok (.iconst 5, 1) := by decide +kernel
theorem d_M_cut_13 : decode b_M_cut 13 = .ok (.iload_n 1, 1) := by decide +kernel
theorem d_M_cut_14 : decode b_M_cut 14 = .ok (.imul, 1) := by decide +kernel
theorem d_M_cut_15 : decode b_M_cut 15 = .ok (.isub, 1) := by decide +kernel
theorem d_M_cut_16 : decode b_M_cut 16 = .ok (.ishl, 1) := by decide +kernel
theorem d_M_cut_17 : decode b_M_cut 17 = .ok (.iand, 1) := by decide +kernel
theorem d_M_cut_18 : decode b_M_cut 18 = .ok (.ireturn, 1) := by decide +kernel
theorem d_M_isAbove_0 : decode b_M_isAbove 0 = .ok (.iload_n 0, 1) := by decide +kernel
theorem d_M_isAbove_1 : decode b_M_isAbove 1 = .ok (.invokestatic 61, 3) := by decide +kernel
theorem d_M_isAbove_4 : decode b_M_isAbove 4 = .ok (.iload_n 1, 1) := by decide +kernel
theorem d_M_isAbove_5 : decode b_M_isAbove 5 = .ok (.invokestatic 61, 3) := by decide +kernel
theorem d_M_isAbove_8 : decode b_M_isAbove 8 = .ok (.if_icmp .ge 19, 3) := by decide +kernel
theorem d_M_isAbove_11 : decode b_M_isAbove 11 = .ok (.iload_n 1, 1) := by decide +kernel
theorem d_M_isAbove_12 : decode b_M_isAbove 12 = .ok (.iload_n 0, 1) := by decide +kernel
theorem d_M_isAbove_13 : decode b_M_isAbove 13 = .ok (.invokestatic 61, 3) := by decide +kernel
theorem d_M_isAbove_16 : decode b_M_isAbove 16 = .ok (.invokestatic 65, 3) := by decide +kernel
theorem d_M_isAbove_19 : decode b_M_isAbove 19 = .ok (.iload_n 0, 1) := by decide +kernel
theorem d_M_isAbove_20 : decode b_M_isAbove 20 = .ok (.if_icmp .ne 7, 3) := by decide +kernel
theorem d_M_isAbove_23 : decode b_M_isAbove 23 = .ok (.iconst 1, 1) := by decide +kernel
theorem d_M_isAbove_24 : decode b_M_isAbove 24 = .ok (.goto 4, 3) := by decide +kernel
theorem d_M_isAbove_27 : decode b_M_isAbove 27 = .ok (.iconst 0, 1) := by decide +kernel
theorem d_M_isAbove_28 : decode b_M_isAbove 28 = .ok (.ireturn, 1) := by decide +kernel
theorem d_M_star_0 : decode b_M_star 0 = .ok (.iload_n 0, 1) := by decide +kernel
theorem d_M_star_1 : decode b_M_star 1 = .ok (.iconst 1, 1) := by decide +kernel
theorem d_M_star_2 : decode b_M_star 2 = .ok (.bipush 15, 2) := by decide +kernel
theorem d_M_star_4 : decode b_M_star 4 = .ok (.iconst 5, 1) := by decide +kernel
theorem d_M_star_5 : decode b_M_star 5 = .ok (.iload_n 0, 1) := by decide +kernel
theorem d_M_star_6 : decode b_M_star 6 = .ok (.invokestatic 61, 3) := by decide +kernel
theorem d_M_star_9 : decode b_M_star 9 = .ok (.imul, 1) := by decide +kernel
theorem d_M_star_10 : decode b_M_star 10 = .ok (.isub, 1) := by decide +kernel
theorem d_M_star_11 : decode b_M_star 11 = .ok (.ishl, 1) := by decide +kernel
theorem d_M_star_12 : decode b_M_star 12 = .ok (.ior, 1) := by decide +kernel
theorem d_M_star_13 : decode b_M_star 13 = .ok (.ireturn, 1) := by decide +kernel
theorem d_M_isType_0 : decode b_M_isType 0 = .ok (.iload_n 0, 1) := by decide +kernel
theorem d_M_isType_1 : decode b_M_isType 1 = .ok (.iconst 1, 1) := by decide +kernel
theorem d_M_isType_2 : decode b_M_isType 2 = .ok (.if_icmp .lt 12, 3) := by decide +kernel
theorem d_M_isType_5 : decode b_M_isType 5 = .ok (.iload_n 0, 1) := by decide +kernel
theorem d_M_isType_6 : decode b_M_isType 6 = .ok (.iconst 5, 1) := by decide +kernel
theorem d_M_isType_7 : decode b_M_isType 7 = .ok (.if_icmp .gt 7, 3) := by decide +kernel
theorem d_M_isType_10 : decode b_M_isType 10 = .ok (.iconst 1, 1) := by decide +kernel
theorem d_M_isType_11 : decode b_M_isType 11 = .ok (.goto 4, 3) := by decide +kernel
theorem d_M_isType_14 : decode b_M_isType 14 = .ok (.iconst 0, 1) := by decide +kernel
theorem d_M_isType_15 : decode b_M_isType 15 = .ok (.ireturn, 1) := by decide +kernel
theorem d_M_isKey_0 : decode b_M_isKey 0 = .ok (.iload_n 0, 1) := by decide +kernel
theorem d_M_isKey_1 : decode b_M_isKey 1 = .ok (.iconst 1, 1) := by decide +kernel
theorem d_M_isKey_2 : decode b_M_isKey 2 = .ok (.if_icmp .lt 13, 3) := by decide +kernel
theorem d_M_isKey_5 : decode b_M_isKey 5 = .ok (.iload_n 0, 1) := by decide +kernel
theorem d_M_isKey_6 : decode b_M_isKey 6 = .ok (.ldc 68, 2) := by decide +kernel
theorem d_M_isKey_8 : decode b_M_isKey 8 = .ok (.if_icmp .gt 7, 3) := by decide +kernel
theorem d_M_isKey_11 : decode b_M_isKey 11 = .ok (.iconst 1, 1) := by decide +kernel
theorem d_M_isKey_12 : decode b_M_isKey 12 = .ok (.goto 4, 3) := by decide +kernel
theorem d_M_isKey_15 : decode b_M_isKey 15 = .ok (.iconst 0, 1) := by decide +kernel
theorem d_M_isKey_16 : decode b_M_isKey 16 = .ok (.ireturn, 1) := by decide +kernel
theorem d_M_size_0 : decode b_M_size 0 = .ok (.iconst 0, 1) := by decide +kernel
theorem d_M_size_1 : decode b_M_size 1 = .ok (.istore_n 3, 1) := by decide +kernel
theorem d_M_size_2 : decode b_M_size 2 = .ok (.iconst 0, 1) := by decide +kernel
theorem d_M_size_3 : decode b_M_size 3 = .ok (.istore 4, 2) := by decide +kernel
theorem d_M_size_5 : decode b_M_size 5 = .ok (.iload 4, 2) := by decide +kernel
theorem d_M_size_7 : decode b_M_size 7 = .ok (.aload_n 0, 1) := by decide +kernel
theorem d_M_size_8 : decode b_M_size 8 = .ok (.getfield 69, 3) := by decide +kernel
theorem d_M_size_11 : decode b_M_size 11 = .ok (.if_icmp .ge 39, 3) := by decide +kernel
theorem d_M_size_14 : decode b_M_size 14 = .ok (.aload_n 0, 1) := by decide +kernel
theorem d_M_size_15 : decode b_M_size 15 = .ok (.getfield 7, 3) := by decide +kernel
theorem d_M_size_18 : decode b_M_size 18 = .ok (.iload 4, 2) := by decide +kernel
theorem d_M_size_20 : decode b_M_size 20 = .ok (.iaload, 1) := by decide +kernel
theorem d_M_size_21 : decode b_M_size 21 = .ok (.iload_n 1, 1) := by decide +kernel
theorem d_M_size_22 : decode b_M_size 22 = .ok (.if_icmp .ne 20, 3) := by decide +kernel
theorem d_M_size_25 : decode b_M_size 25 = .ok (.aload_n 0, 1) := by decide +kernel
theorem d_M_size_26 : decode b_M_size 26 = .ok (.getfield 13, 3) := by decide +kernel
theorem d_M_size_29 : decode b_M_size 29 = .ok (.iload 4, 2) := by decide +kernel
theorem d_M_size_31 : decode b_M_size 31 = .ok (.iaload, 1) := by decide +kernel
theorem d_M_size_32 : decode b_M_size 32 = .ok (.iload_n 2, 1) := by decide +kernel
theorem d_M_size_33 : decode b_M_size 33 = .ok (.if_icmp .ne 9, 3) := by decide +kernel
theorem d_M_size_36 : decode b_M_size 36 = .ok (.iload_n 3, 1) := by decide +kernel
theorem d_M_size_37 : decode b_M_size 37 = .ok (.iconst 1, 1) := by decide +kernel
theorem d_M_size_38 : decode b_M_size 38 = .ok (.iadd, 1) := by decide +kernel
theorem d_M_size_39 : decode b_M_size 39 = .ok (.goto 4, 3) := by decide +kernel
theorem d_M_size_42 : decode b_M_size 42 = .ok (.iload_n 3, 1) := by decide +kernel
theorem d_M_size_43 : decode b_M_size 43 = .ok (.istore_n 3, 1) := by decide +kernel
theorem d_M_size_44 : decode b_M_size 44 = .ok (.iinc 4 1, 3) := by decide +kernel
theorem d_M_size_47 : decode b_M_size 47 = .ok (.goto (-42), 3) := by decide +kernel
theorem d_M_size_50 : decode b_M_size 50 = .ok (.iload_n 3, 1) := by decide +kernel
theorem d_M_size_51 : decode b_M_size 51 = .ok (.ireturn, 1) := by decide +kernel
theorem d_M_dataAt_0 : decode b_M_dataAt 0 = .ok (.iconst 0, 1) := by decide +kernel
theorem d_M_dataAt_1 : decode b_M_dataAt 1 = .ok (.istore 4, 2) := by decide +kernel
theorem d_M_dataAt_3 : decode b_M_dataAt 3 = .ok (.iconst 0, 1) := by decide +kernel
theorem d_M_dataAt_4 : decode b_M_dataAt 4 = .ok (.istore 5, 2) := by decide +kernel
theorem d_M_dataAt_6 : decode b_M_dataAt 6 = .ok (.iload 5, 2) := by decide +kernel
theorem d_M_dataAt_8 : decode b_M_dataAt 8 = .ok (.aload_n 0, 1) := by decide +kernel
theorem d_M_dataAt_9 : decode b_M_dataAt 9 = .ok (.getfield 69, 3) := by decide +kernel
theorem d_M_dataAt_12 : decode b_M_dataAt 12 = .ok (.if_icmp .ge 122, 3) := by decide +kernel
theorem d_M_dataAt_15 : decode b_M_dataAt 15 = .ok (.iconst 0, 1) := by decide +kernel
theorem d_M_dataAt_16 : decode b_M_dataAt 16 = .ok (.istore 6, 2) := by decide +kernel
theorem d_M_dataAt_18 : decode b_M_dataAt 18 = .ok (.iconst 0, 1) := by decide +kernel
theorem d_M_dataAt_19 : decode b_M_dataAt 19 = .ok (.istore 7, 2) := by decide +kernel
theorem d_M_dataAt_21 : decode b_M_dataAt 21 = .ok (.iload 7, 2) := by decide +kernel
theorem d_M_dataAt_23 : decode b_M_dataAt 23 = .ok (.aload_n 0, 1) := by decide +kernel
theorem d_M_dataAt_24 : decode b_M_dataAt 24 = .ok (.getfield 69, 3) := by decide +kernel
theorem d_M_dataAt_27 : decode b_M_dataAt 27 = .ok (.if_icmp .ge 59, 3) := by decide +kernel
theorem d_M_dataAt_30 : decode b_M_dataAt 30 = .ok (.aload_n 0, 1) := by decide +kernel
theorem d_M_dataAt_31 : decode b_M_dataAt 31 = .ok (.getfield 7, 3) := by decide +kernel
theorem d_M_dataAt_34 : decode b_M_dataAt 34 = .ok (.iload 7, 2) := by decide +kernel
theorem d_M_dataAt_36 : decode b_M_dataAt 36 = .ok (.iaload, 1) := by decide +kernel
theorem d_M_dataAt_37 : decode b_M_dataAt 37 = .ok (.iload_n 1, 1) := by decide +kernel
theorem d_M_dataAt_38 : decode b_M_dataAt 38 = .ok (.if_icmp .ne 38, 3) := by decide +kernel
theorem d_M_dataAt_41 : decode b_M_dataAt 41 = .ok (.aload_n 0, 1) := by decide +kernel
theorem d_M_dataAt_42 : decode b_M_dataAt 42 = .ok (.getfield 13, 3) := by decide +kernel
theorem d_M_dataAt_45 : decode b_M_dataAt 45 = .ok (.iload 7, 2) := by decide +kernel
theorem d_M_dataAt_47 : decode b_M_dataAt 47 = .ok (.iaload, 1) := by decide +kernel
theorem d_M_dataAt_48 : decode b_M_dataAt 48 = .ok (.iload_n 2, 1) := by decide +kernel
theorem d_M_dataAt_49 : decode b_M_dataAt 49 = .ok (.if_icmp .ne 27, 3) := by decide +kernel
theorem d_M_dataAt_52 : decode b_M_dataAt 52 = .ok (.aload_n 0, 1) := by decide +kernel
theorem d_M_dataAt_53 : decode b_M_dataAt 53 = .ok (.getfield 16, 3) := by decide +kernel
theorem d_M_dataAt_56 : decode b_M_dataAt 56 = .ok (.iload 7, 2) := by decide +kernel
theorem d_M_dataAt_58 : decode b_M_dataAt 58 = .ok (.iaload, 1) := by decide +kernel
theorem d_M_dataAt_59 : decode b_M_dataAt 59 = .ok (.aload_n 0, 1) := by decide +kernel
theorem d_M_dataAt_60 : decode b_M_dataAt 60 = .ok (.getfield 16, 3) := by decide +kernel
theorem d_M_dataAt_63 : decode b_M_dataAt 63 = .ok (.iload 5, 2) := by decide +kernel
theorem d_M_dataAt_65 : decode b_M_dataAt 65 = .ok (.iaload, 1) := by decide +kernel
theorem d_M_dataAt_66 : decode b_M_dataAt 66 = .ok (.if_icmp .ge 10, 3) := by decide +kernel
theorem d_M_dataAt_69 : decode b_M_dataAt 69 = .ok (.iload 6, 2) := by decide +kernel
theorem d_M_dataAt_71 : decode b_M_dataAt 71 = .ok (.iconst 1, 1) := by decide +kernel
theorem d_M_dataAt_72 : decode b_M_dataAt 72 = .ok (.iadd, 1) := by decide +kernel
theorem d_M_dataAt_73 : decode b_M_dataAt 73 = .ok (.goto 5, 3) := by decide +kernel
theorem d_M_dataAt_76 : decode b_M_dataAt 76 = .ok (.iload 6, 2) := by decide +kernel
theorem d_M_dataAt_78 : decode b_M_dataAt 78 = .ok (.istore 6, 2) := by decide +kernel
theorem d_M_dataAt_80 : decode b_M_dataAt 80 = .ok (.iinc 7 1, 3) := by decide +kernel
theorem d_M_dataAt_83 : decode b_M_dataAt 83 = .ok (.goto (-62), 3) := by decide +kernel
theorem d_M_dataAt_86 : decode b_M_dataAt 86 = .ok (.aload_n 0, 1) := by decide +kernel
theorem d_M_dataAt_87 : decode b_M_dataAt 87 = .ok (.getfield 7, 3) := by decide +kernel
theorem d_M_dataAt_90 : decode b_M_dataAt 90 = .ok (.iload 5, 2) := by decide +kernel
theorem d_M_dataAt_92 : decode b_M_dataAt 92 = .ok (.iaload, 1) := by decide +kernel
theorem d_M_dataAt_93 : decode b_M_dataAt 93 = .ok (.iload_n 1, 1) := by decide +kernel
theorem d_M_dataAt_94 : decode b_M_dataAt 94 = .ok (.if_icmp .ne 30, 3) := by decide +kernel
theorem d_M_dataAt_97 : decode b_M_dataAt 97 = .ok (.aload_n 0, 1) := by decide +kernel
theorem d_M_dataAt_98 : decode b_M_dataAt 98 = .ok (.getfield 13, 3) := by decide +kernel
theorem d_M_dataAt_101 : decode b_M_dataAt 101 = .ok (.iload 5, 2) := by decide +kernel
theorem d_M_dataAt_103 : decode b_M_dataAt 103 = .ok (.iaload, 1) := by decide +kernel
theorem d_M_dataAt_104 : decode b_M_dataAt 104 = .ok (.iload_n 2, 1) := by decide +kernel
theorem d_M_dataAt_105 : decode b_M_dataAt 105 = .ok (.if_icmp .ne 19, 3) := by decide +kernel
theorem d_M_dataAt_108 : decode b_M_dataAt 108 = .ok (.iload 6, 2) := by decide +kernel
theorem d_M_dataAt_110 : decode b_M_dataAt 110 = .ok (.iload_n 3, 1) := by decide +kernel
theorem d_M_dataAt_111 : decode b_M_dataAt 111 = .ok (.if_icmp .ne 13, 3) := by decide +kernel
theorem d_M_dataAt_114 : decode b_M_dataAt 114 = .ok (.aload_n 0, 1) := by decide +kernel
theorem d_M_dataAt_115 : decode b_M_dataAt 115 = .ok (.getfield 16, 3) := by decide +kernel
theorem d_M_dataAt_118 : decode b_M_dataAt 118 = .ok (.iload 5, 2) := by decide +kernel
theorem d_M_dataAt_120 : decode b_M_dataAt 120 = .ok (.iaload, 1) := by decide +kernel
theorem d_M_dataAt_121 : decode b_M_dataAt 121 = .ok (.goto 5, 3) := by decide +kernel
theorem d_M_dataAt_124 : decode b_M_dataAt 124 = .ok (.iload 4, 2) := by decide +kernel
theorem d_M_dataAt_126 : decode b_M_dataAt 126 = .ok (.istore 4, 2) := by decide +kernel
theorem d_M_dataAt_128 : decode b_M_dataAt 128 = .ok (.iinc 5 1, 3) := by decide +kernel
theorem d_M_dataAt_131 : decode b_M_dataAt 131 = .ok (.goto (-125), 3) := by decide +kernel
theorem d_M_dataAt_134 : decode b_M_dataAt 134 = .ok (.iload 4, 2) := by decide +kernel
theorem d_M_dataAt_136 : decode b_M_dataAt 136 = .ok (.ireturn, 1) := by decide +kernel
theorem d_M_has_0 : decode b_M_has 0 = .ok (.iconst 0, 1) := by decide +kernel
theorem d_M_has_1 : decode b_M_has 1 = .ok (.istore 4, 2) := by decide +kernel
theorem d_M_has_3 : decode b_M_has 3 = .ok (.iconst 0, 1) := by decide +kernel
theorem d_M_has_4 : decode b_M_has 4 = .ok (.istore 5, 2) := by decide +kernel
theorem d_M_has_6 : decode b_M_has 6 = .ok (.iload 5, 2) := by decide +kernel
theorem d_M_has_8 : decode b_M_has 8 = .ok (.aload_n 0, 1) := by decide +kernel
theorem d_M_has_9 : decode b_M_has 9 = .ok (.getfield 69, 3) := by decide +kernel
theorem d_M_has_12 : decode b_M_has 12 = .ok (.if_icmp .ge 54, 3) := by decide +kernel
theorem d_M_has_15 : decode b_M_has 15 = .ok (.iload 4, 2) := by decide +kernel
theorem d_M_has_17 : decode b_M_has 17 = .ok (.ifCond .ne 36, 3) := by decide +kernel
theorem d_M_has_20 : decode b_M_has 20 = .ok (.aload_n 0, 1) := by decide +kernel
theorem d_M_has_21 : decode b_M_has 21 = .ok (.getfield 7, 3) := by decide +kernel
theorem d_M_has_24 : decode b_M_has 24 = .ok (.iload 5, 2) := by decide +kernel
theorem d_M_has_26 : decode b_M_has 26 = .ok (.iaload, 1) := by decide +kernel
theorem d_M_has_27 : decode b_M_has 27 = .ok (.iload_n 1, 1) := by decide +kernel
theorem d_M_has_28 : decode b_M_has 28 = .ok (.if_icmp .ne 29, 3) := by decide +kernel
theorem d_M_has_31 : decode b_M_has 31 = .ok (.aload_n 0, 1) := by decide +kernel
theorem d_M_has_32 : decode b_M_has 32 = .ok (.getfield 13, 3) := by decide +kernel
theorem d_M_has_35 : decode b_M_has 35 = .ok (.iload 5, 2) := by decide +kernel
theorem d_M_has_37 : decode b_M_has 37 = .ok (.iaload, 1) := by decide +kernel
theorem d_M_has_38 : decode b_M_has 38 = .ok (.iload_n 2, 1) := by decide +kernel
theorem d_M_has_39 : decode b_M_has 39 = .ok (.if_icmp .ne 18, 3) := by decide +kernel
theorem d_M_has_42 : decode b_M_has 42 = .ok (.aload_n 0, 1) := by decide +kernel
theorem d_M_has_43 : decode b_M_has 43 = .ok (.getfield 16, 3) := by decide +kernel
theorem d_M_has_46 : decode b_M_has 46 = .ok (.iload 5, 2) := by decide +kernel
theorem d_M_has_48 : decode b_M_has 48 = .ok (.iaload, 1) := by decide +kernel
theorem d_M_has_49 : decode b_M_has 49 = .ok (.iload_n 3, 1) := by decide +kernel
theorem d_M_has_50 : decode b_M_has 50 = .ok (.if_icmp .ne 7, 3) := by decide +kernel
theorem d_M_has_53 : decode b_M_has 53 = .ok (.iconst 1, 1) := by decide +kernel
theorem d_M_has_54 : decode b_M_has 54 = .ok (.goto 4, 3) := by decide +kernel
theorem d_M_has_57 : decode b_M_has 57 = .ok (.iconst 0, 1) := by decide +kernel
theorem d_M_has_58 : decode b_M_has 58 = .ok (.istore 4, 2) := by decide +kernel
theorem d_M_has_60 : decode b_M_has 60 = .ok (.iinc 5 1, 3) := by decide +kernel
theorem d_M_has_63 : decode b_M_has 63 = .ok (.goto (-57), 3) := by decide +kernel
theorem d_M_has_66 : decode b_M_has 66 = .ok (.iload 4, 2) := by decide +kernel
theorem d_M_has_68 : decode b_M_has 68 = .ok (.ireturn, 1) := by decide +kernel
theorem d_M_isData_0 : decode b_M_isData 0 = .ok (.iload_n 0, 1) := by decide +kernel
theorem d_M_isData_1 : decode b_M_isData 1 = .ok (.tableswitch 68 3 5 #[27, 37, 42], 27) := by decide +kernel
theorem d_M_isData_28 : decode b_M_isData 28 = .ok (.iload_n 1, 1) := by decide +kernel
theorem d_M_isData_29 : decode b_M_isData 29 = .ok (.ifCond .lt 7, 3) := by decide +kernel
theorem d_M_isData_32 : decode b_M_isData 32 = .ok (.iconst 1, 1) := by decide +kernel
theorem d_M_isData_33 : decode b_M_isData 33 = .ok (.goto 4, 3) := by decide +kernel
theorem d_M_isData_36 : decode b_M_isData 36 = .ok (.iconst 0, 1) := by decide +kernel
theorem d_M_isData_37 : decode b_M_isData 37 = .ok (.ireturn, 1) := by decide +kernel
theorem d_M_isData_38 : decode b_M_isData 38 = .ok (.iload_n 1, 1) := by decide +kernel
theorem d_M_isData_39 : decode b_M_isData 39 = .ok (.invokestatic 72, 3) := by decide +kernel
theorem d_M_isData_42 : decode b_M_isData 42 = .ok (.ireturn, 1) := by decide +kernel
theorem d_M_isData_43 : decode b_M_isData 43 = .ok (.iload_n 1, 1) := by decide +kernel
theorem d_M_isData_44 : decode b_M_isData 44 = .ok (.ifCond .lt 23, 3) := by decide +kernel
theorem d_M_isData_47 : decode b_M_isData 47 = .ok (.iload_n 1, 1) := by decide +kernel
theorem d_M_isData_48 : decode b_M_isData 48 = .ok (.ldc 76, 2) := by decide +kernel
theorem d_M_isData_50 : decode b_M_isData 50 = .ok (.if_icmp .ge 17, 3) := by decide +kernel
theorem d_M_isData_53 : decode b_M_isData 53 = .ok (.iload_n 1, 1) := by decide +kernel
theorem d_M_isData_54 : decode b_M_isData 54 = .ok (.ldc 77, 2) := by decide +kernel
theorem d_M_isData_56 : decode b_M_isData 56 = .ok (.iand, 1) := by decide +kernel
theorem d_M_isData_57 : decode b_M_isData 57 = .ok (.invokestatic 78, 3) := by decide +kernel
theorem d_M_isData_60 : decode b_M_isData 60 = .ok (.ifCond .eq 7, 3) := by decide +kernel
theorem d_M_isData_63 : decode b_M_isData 63 = .ok (.iconst 1, 1) := by decide +kernel
theorem d_M_isData_64 : decode b_M_isData 64 = .ok (.goto 4, 3) := by decide +kernel
theorem d_M_isData_67 : decode b_M_isData 67 = .ok (.iconst 0, 1) := by decide +kernel
theorem d_M_isData_68 : decode b_M_isData 68 = .ok (.ireturn, 1) := by decide +kernel
theorem d_M_isData_69 : decode b_M_isData 69 = .ok (.iconst 1, 1) := by decide +kernel
theorem d_M_isData_70 : decode b_M_isData 70 = .ok (.ireturn, 1) := by decide +kernel
theorem d_M_add_0 : decode b_M_add 0 = .ok (.iload_n 1, 1) := by decide +kernel
theorem d_M_add_1 : decode b_M_add 1 = .ok (.invokestatic 78, 3) := by decide +kernel
theorem d_M_add_4 : decode b_M_add 4 = .ok (.ifCond .eq 18, 3) := by decide +kernel
theorem d_M_add_7 : decode b_M_add 7 = .ok (.iload_n 2, 1) := by decide +kernel
theorem d_M_add_8 : decode b_M_add 8 = .ok (.invokestatic 81, 3) := by decide +kernel
theorem d_M_add_11 : decode b_M_add 11 = .ok (.ifCond .eq 11, 3) := by decide +kernel
theorem d_M_add_14 : decode b_M_add 14 = .ok (.iload_n 2, 1) := by decide +kernel
theorem d_M_add_15 : decode b_M_add 15 = .ok (.iload_n 3, 1) := by decide +kernel
theorem d_M_add_16 : decode b_M_add 16 = .ok (.invokestatic 84, 3) := by decide +kernel
theorem d_M_add_19 : decode b_M_add 19 = .ok (.ifCond .ne 5, 3) := by decide +kernel
theorem d_M_add_22 : decode b_M_add 22 = .ok (.iconst (-1), 1) := by decide +kernel
theorem d_M_add_23 : decode b_M_add 23 = .ok (.ireturn, 1) := by decide +kernel
theorem d_M_add_24 : decode b_M_add 24 = .ok (.aload_n 0, 1) := by decide +kernel
theorem d_M_add_25 : decode b_M_add 25 = .ok (.iload_n 1, 1) := by decide +kernel
theorem d_M_add_26 : decode b_M_add 26 = .ok (.iload_n 2, 1) := by decide +kernel
theorem d_M_add_27 : decode b_M_add 27 = .ok (.iload_n 3, 1) := by decide +kernel
theorem d_M_add_28 : decode b_M_add 28 = .ok (.invokevirtual 88, 3) := by decide +kernel
theorem d_M_add_31 : decode b_M_add 31 = .ok (.ifCond .ne 55, 3) := by decide +kernel
theorem d_M_add_34 : decode b_M_add 34 = .ok (.aload_n 0, 1) := by decide +kernel
theorem d_M_add_35 : decode b_M_add 35 = .ok (.getfield 69, 3) := by decide +kernel
theorem d_M_add_38 : decode b_M_add 38 = .ok (.bipush 48, 2) := by decide +kernel
theorem d_M_add_40 : decode b_M_add 40 = .ok (.if_icmp .ne 6, 3) := by decide +kernel
theorem d_M_add_43 : decode b_M_add 43 = .ok (.bipush (-2), 2) := by decide +kernel
theorem d_M_add_45 : decode b_M_add 45 = .ok (.ireturn, 1) := by decide +kernel
theorem d_M_add_46 : decode b_M_add 46 = .ok (.aload_n 0, 1) := by decide +kernel
theorem d_M_add_47 : decode b_M_add 47 = .ok (.getfield 7, 3) := by decide +kernel
theorem d_M_add_50 : decode b_M_add 50 = .ok (.aload_n 0, 1) := by decide +kernel
theorem d_M_add_51 : decode b_M_add 51 = .ok (.getfield 69, 3) := by decide +kernel
theorem d_M_add_54 : decode b_M_add 54 = .ok (.iload_n 1, 1) := by decide +kernel
theorem d_M_add_55 : decode b_M_add 55 = .ok (.iastore, 1) := by decide +kernel
theorem d_M_add_56 : decode b_M_add 56 = .ok (.aload_n 0, 1) := by decide +kernel
theorem d_M_add_57 : decode b_M_add 57 = .ok (.getfield 13, 3) := by decide +kernel
theorem d_M_add_60 : decode b_M_add 60 = .ok (.aload_n 0, 1) := by decide +kernel
theorem d_M_add_61 : decode b_M_add 61 = .ok (.getfield 69, 3) := by decide +kernel
theorem d_M_add_64 : decode b_M_add 64 = .ok (.iload_n 2, 1) := by decide +kernel
theorem d_M_add_65 : decode b_M_add 65 = .ok (.iastore, 1) := by decide +kernel
theorem d_M_add_66 : decode b_M_add 66 = .ok (.aload_n 0, 1) := by decide +kernel
theorem d_M_add_67 : decode b_M_add 67 = .ok (.getfield 16, 3) := by decide +kernel
theorem d_M_add_70 : decode b_M_add 70 = .ok (.aload_n 0, 1) := by decide +kernel
theorem d_M_add_71 : decode b_M_add 71 = .ok (.getfield 69, 3) := by decide +kernel
theorem d_M_add_74 : decode b_M_add 74 = .ok (.iload_n 3, 1) := by decide +kernel
theorem d_M_add_75 : decode b_M_add 75 = .ok (.iastore, 1) := by decide +kernel
theorem d_M_add_76 : decode b_M_add 76 = .ok (.aload_n 0, 1) := by decide +kernel
theorem d_M_add_77 : decode b_M_add 77 = .ok (.dup, 1) := by decide +kernel
theorem d_M_add_78 : decode b_M_add 78 = .ok (.getfield 69, 3) := by decide +kernel
theorem d_M_add_81 : decode b_M_add 81 = .ok (.iconst 1, 1) := by decide +kernel
theorem d_M_add_82 : decode b_M_add 82 = .ok (.iadd, 1) := by decide +kernel
theorem d_M_add_83 : decode b_M_add 83 = .ok (.putfield 69, 3) := by decide +kernel
theorem d_M_add_86 : decode b_M_add 86 = .ok (.aload_n 0, 1) := by decide +kernel
theorem d_M_add_87 : decode b_M_add 87 = .ok (.iload_n 1, 1) := by decide +kernel
theorem d_M_add_88 : decode b_M_add 88 = .ok (.iload_n 2, 1) := by decide +kernel
theorem d_M_add_89 : decode b_M_add 89 = .ok (.invokevirtual 92, 3) := by decide +kernel
theorem d_M_add_92 : decode b_M_add 92 = .ok (.ireturn, 1) := by decide +kernel
theorem d_M_drop_0 : decode b_M_drop 0 = .ok (.iload_n 1, 1) := by decide +kernel
theorem d_M_drop_1 : decode b_M_drop 1 = .ok (.invokestatic 78, 3) := by decide +kernel
theorem d_M_drop_4 : decode b_M_drop 4 = .ok (.ifCond .eq 10, 3) := by decide +kernel
theorem d_M_drop_7 : decode b_M_drop 7 = .ok (.iload_n 2, 1) := by decide +kernel
theorem d_M_drop_8 : decode b_M_drop 8 = .ok (.invokestatic 81, 3) := by decide +kernel
theorem d_M_drop_11 : decode b_M_drop 11 = .ok (.ifCond .ne 5, 3) := by decide +kernel
theorem d_M_drop_14 : decode b_M_drop 14 = .ok (.iconst (-1), 1) := by decide +kernel
theorem d_M_drop_15 : decode b_M_drop 15 = .ok (.ireturn, 1) := by decide +kernel
theorem d_M_drop_16 : decode b_M_drop 16 = .ok (.iconst 0, 1) := by decide +kernel
theorem d_M_drop_17 : decode b_M_drop 17 = .ok (.istore_n 3, 1) := by decide +kernel
theorem d_M_drop_18 : decode b_M_drop 18 = .ok (.iconst 0, 1) := by decide +kernel
theorem d_M_drop_19 : decode b_M_drop 19 = .ok (.istore 4, 2) := by decide +kernel
theorem d_M_drop_21 : decode b_M_drop 21 = .ok (.iload 4, 2) := by decide +kernel
theorem d_M_drop_23 : decode b_M_drop 23 = .ok (.aload_n 0, 1) := by decide +kernel
theorem d_M_drop_24 : decode b_M_drop 24 = .ok (.getfield 69, 3) := by decide +kernel
theorem d_M_drop_27 : decode b_M_drop 27 = .ok (.if_icmp .ge 73, 3) := by decide +kernel
theorem d_M_drop_30 : decode b_M_drop 30 = .ok (.aload_n 0, 1) := by decide +kernel
theorem d_M_drop_31 : decode b_M_drop 31 = .ok (.getfield 7, 3) := by decide +kernel
theorem d_M_drop_34 : decode b_M_drop 34 = .ok (.iload 4, 2) := by decide +kernel
theorem d_M_drop_36 : decode b_M_drop 36 = .ok (.iaload, 1) := by decide +kernel
theorem d_M_drop_37 : decode b_M_drop 37 = .ok (.iload_n 1, 1) := by decide +kernel
theorem d_M_drop_38 : decode b_M_drop 38 = .ok (.if_icmp .ne 14, 3) := by decide +kernel
theorem d_M_drop_41 : decode b_M_drop 41 = .ok (.aload_n 0, 1) := by decide +kernel
theorem d_M_drop_42 : decode b_M_drop 42 = .ok (.getfield 13, 3) := by decide +kernel
theorem d_M_drop_45 : decode b_M_drop 45 = .ok (.iload 4, 2) := by decide +kernel
theorem d_M_drop_47 : decode b_M_drop 47 = .ok (.iaload, 1) := by decide +kernel
theorem d_M_drop_48 : decode b_M_drop 48 = .ok (.iload_n 2, 1) := by decide +kernel
theorem d_M_drop_49 : decode b_M_drop 49 = .ok (.if_icmp .eq 45, 3) := by decide +kernel
theorem d_M_drop_52 : decode b_M_drop 52 = .ok (.aload_n 0, 1) := by decide +kernel
theorem d_M_drop_53 : decode b_M_drop 53 = .ok (.getfield 7, 3) := by decide +kernel
theorem d_M_drop_56 : decode b_M_drop 56 = .ok (.iload_n 3, 1) := by decide +kernel
theorem d_M_drop_57 : decode b_M_drop 57 = .ok (.aload_n 0, 1) := by decide +kernel
theorem d_M_drop_58 : decode b_M_drop 58 = .ok (.getfield 7, 3) := by decide +kernel
theorem d_M_drop_61 : decode b_M_drop 61 = .ok (.iload 4, 2) := by decide +kernel
theorem d_M_drop_63 : decode b_M_drop 63 = .ok (.iaload, 1) := by decide +kernel
theorem d_M_drop_64 : decode b_M_drop 64 = .ok (.iastore, 1) := by decide +kernel
theorem d_M_drop_65 : decode b_M_drop 65 = .ok (.aload_n 0, 1) := by decide +kernel
theorem d_M_drop_66 : decode b_M_drop 66 = .ok (.getfield 13, 3) := by decide +kernel
theorem d_M_drop_69 : decode b_M_drop 69 = .ok (.iload_n 3, 1) := by decide +kernel
theorem d_M_drop_70 : decode b_M_drop 70 = .ok (.aload_n 0, 1) := by decide +kernel
theorem d_M_drop_71 : decode b_M_drop 71 = .ok (.getfield 13, 3) := by decide +kernel
theorem d_M_drop_74 : decode b_M_drop 74 = .ok (.iload 4, 2) := by decide +kernel
theorem d_M_drop_76 : decode b_M_drop 76 = .ok (.iaload, 1) := by decide +kernel
theorem d_M_drop_77 : decode b_M_drop 77 = .ok (.iastore, 1) := by decide +kernel
theorem d_M_drop_78 : decode b_M_drop 78 = .ok (.aload_n 0, 1) := by decide +kernel
theorem d_M_drop_79 : decode b_M_drop 79 = .ok (.getfield 16, 3) := by decide +kernel
theorem d_M_drop_82 : decode b_M_drop 82 = .ok (.iload_n 3, 1) := by decide +kernel
theorem d_M_drop_83 : decode b_M_drop 83 = .ok (.aload_n 0, 1) := by decide +kernel
theorem d_M_drop_84 : decode b_M_drop 84 = .ok (.getfield 16, 3) := by decide +kernel
theorem d_M_drop_87 : decode b_M_drop 87 = .ok (.iload 4, 2) := by decide +kernel
theorem d_M_drop_89 : decode b_M_drop 89 = .ok (.iaload, 1) := by decide +kernel
theorem d_M_drop_90 : decode b_M_drop 90 = .ok (.iastore, 1) := by decide +kernel
theorem d_M_drop_91 : decode b_M_drop 91 = .ok (.iinc 3 1, 3) := by decide +kernel
theorem d_M_drop_94 : decode b_M_drop 94 = .ok (.iinc 4 1, 3) := by decide +kernel
theorem d_M_drop_97 : decode b_M_drop 97 = .ok (.goto (-76), 3) := by decide +kernel
theorem d_M_drop_100 : decode b_M_drop 100 = .ok (.aload_n 0, 1) := by decide +kernel
theorem d_M_drop_101 : decode b_M_drop 101 = .ok (.getfield 69, 3) := by decide +kernel
theorem d_M_drop_104 : decode b_M_drop 104 = .ok (.iload_n 3, 1) := by decide +kernel
theorem d_M_drop_105 : decode b_M_drop 105 = .ok (.isub, 1) := by decide +kernel
theorem d_M_drop_106 : decode b_M_drop 106 = .ok (.istore 4, 2) := by decide +kernel
theorem d_M_drop_108 : decode b_M_drop 108 = .ok (.aload_n 0, 1) := by decide +kernel
theorem d_M_drop_109 : decode b_M_drop 109 = .ok (.iload_n 3, 1) := by decide +kernel
theorem d_M_drop_110 : decode b_M_drop 110 = .ok (.putfield 69, 3) := by decide +kernel
theorem d_M_drop_113 : decode b_M_drop 113 = .ok (.iload 4, 2) := by decide +kernel
theorem d_M_drop_115 : decode b_M_drop 115 = .ok (.ireturn, 1) := by decide +kernel
theorem d_M_mix_0 : decode b_M_mix 0 = .ok (.aload_n 0, 1) := by decide +kernel
theorem d_M_mix_1 : decode b_M_mix 1 = .ok (.getfield 95, 3) := by decide +kernel
theorem d_M_mix_4 : decode b_M_mix 4 = .ok (.iload_n 1, 1) := by decide +kernel
theorem d_M_mix_5 : decode b_M_mix 5 = .ok (.i2l, 1) := by decide +kernel
theorem d_M_mix_6 : decode b_M_mix 6 = .ok (.lxor, 1) := by decide +kernel
theorem d_M_mix_7 : decode b_M_mix 7 = .ok (.ldc2_w 99, 3) := by decide +kernel
theorem d_M_mix_10 : decode b_M_mix 10 = .ok (.lmul, 1) := by decide +kernel
theorem d_M_mix_11 : decode b_M_mix 11 = .ok (.lstore_n 2, 1) := by decide +kernel
theorem d_M_mix_12 : decode b_M_mix 12 = .ok (.aload_n 0, 1) := by decide +kernel
theorem d_M_mix_13 : decode b_M_mix 13 = .ok (.lload_n 2, 1) := by decide +kernel
theorem d_M_mix_14 : decode b_M_mix 14 = .ok (.lload_n 2, 1) := by decide +kernel
theorem d_M_mix_15 : decode b_M_mix 15 = .ok (.bipush 30, 2) := by decide +kernel
theorem d_M_mix_17 : decode b_M_mix 17 = .ok (.lushr, 1) := by decide +kernel
theorem d_M_mix_18 : decode b_M_mix 18 = .ok (.lxor, 1) := by decide +kernel
theorem d_M_mix_19 : decode b_M_mix 19 = .ok (.putfield 95, 3) := by decide +kernel
theorem d_M_mix_22 : decode b_M_mix 22 = .ok (.return_, 1) := by decide +kernel
theorem d_M_digest_0 : decode b_M_digest 0 = .ok (.aload_n 0, 1) := by decide +kernel
theorem d_M_digest_1 : decode b_M_digest 1 = .ok (.getfield 95, 3) := by decide +kernel
theorem d_M_digest_4 : decode b_M_digest 4 = .ok (.bipush 33, 2) := by decide +kernel
theorem d_M_digest_6 : decode b_M_digest 6 = .ok (.lushr, 1) := by decide +kernel
theorem d_M_digest_7 : decode b_M_digest 7 = .ok (.l2i, 1) := by decide +kernel
theorem d_M_digest_8 : decode b_M_digest 8 = .ok (.ireturn, 1) := by decide +kernel
theorem d_M_sealOf_0 : decode b_M_sealOf 0 = .ok (.aload_n 0, 1) := by decide +kernel
theorem d_M_sealOf_1 : decode b_M_sealOf 1 = .ok (.lconst 0, 1) := by decide +kernel
theorem d_M_sealOf_2 : decode b_M_sealOf 2 = .ok (.putfield 95, 3) := by decide +kernel
theorem d_M_sealOf_5 : decode b_M_sealOf 5 = .ok (.aload_n 0, 1) := by decide +kernel
theorem d_M_sealOf_6 : decode b_M_sealOf 6 = .ok (.bipush 77, 2) := by decide +kernel
theorem d_M_sealOf_8 : decode b_M_sealOf 8 = .ok (.invokevirtual 101, 3) := by decide +kernel
theorem d_M_sealOf_11 : decode b_M_sealOf 11 = .ok (.aload_n 0, 1) := by decide +kernel
theorem d_M_sealOf_12 : decode b_M_sealOf 12 = .ok (.iload_n 1, 1) := by decide +kernel
theorem d_M_sealOf_13 : decode b_M_sealOf 13 = .ok (.invokevirtual 101, 3) := by decide +kernel
theorem d_M_sealOf_16 : decode b_M_sealOf 16 = .ok (.aload_n 0, 1) := by decide +kernel
theorem d_M_sealOf_17 : decode b_M_sealOf 17 = .ok (.iload_n 2, 1) := by decide +kernel
theorem d_M_sealOf_18 : decode b_M_sealOf 18 = .ok (.invokevirtual 101, 3) := by decide +kernel
theorem d_M_sealOf_21 : decode b_M_sealOf 21 = .ok (.aload_n 0, 1) := by decide +kernel
theorem d_M_sealOf_22 : decode b_M_sealOf 22 = .ok (.invokevirtual 105, 3) := by decide +kernel
theorem d_M_sealOf_25 : decode b_M_sealOf 25 = .ok (.ireturn, 1) := by decide +kernel
theorem d_M_seal_0 : decode b_M_seal 0 = .ok (.iload_n 1, 1) := by decide +kernel
theorem d_M_seal_1 : decode b_M_seal 1 = .ok (.invokestatic 78, 3) := by decide +kernel
theorem d_M_seal_4 : decode b_M_seal 4 = .ok (.ifCond .eq 19, 3) := by decide +kernel
theorem d_M_seal_7 : decode b_M_seal 7 = .ok (.iload_n 2, 1) := by decide +kernel
theorem d_M_seal_8 : decode b_M_seal 8 = .ok (.invokestatic 72, 3) := by decide +kernel
theorem d_M_seal_11 : decode b_M_seal 11 = .ok (.ifCond .eq 12, 3) := by decide +kernel
theorem d_M_seal_14 : decode b_M_seal 14 = .ok (.aload_n 0, 1) := by decide +kernel
theorem d_M_seal_15 : decode b_M_seal 15 = .ok (.iload_n 1, 1) := by decide +kernel
theorem d_M_seal_16 : decode b_M_seal 16 = .ok (.iload_n 2, 1) := by decide +kernel
theorem d_M_seal_17 : decode b_M_seal 17 = .ok (.invokevirtual 109, 3) := by decide +kernel
theorem d_M_seal_20 : decode b_M_seal 20 = .ok (.goto 4, 3) := by decide +kernel
theorem d_M_seal_23 : decode b_M_seal 23 = .ok (.iconst (-1), 1) := by decide +kernel
theorem d_M_seal_24 : decode b_M_seal 24 = .ok (.ireturn, 1) := by decide +kernel
theorem d_M_markOf_0 : decode b_M_markOf 0 = .ok (.aload_n 0, 1) := by decide +kernel
theorem d_M_markOf_1 : decode b_M_markOf 1 = .ok (.getfield 23, 3) := by decide +kernel
theorem d_M_markOf_4 : decode b_M_markOf 4 = .ok (.iload_n 1, 1) := by decide +kernel
theorem d_M_markOf_5 : decode b_M_markOf 5 = .ok (.iaload, 1) := by decide +kernel
theorem d_M_markOf_6 : decode b_M_markOf 6 = .ok (.istore_n 2, 1) := by decide +kernel
theorem d_M_markOf_7 : decode b_M_markOf 7 = .ok (.aload_n 0, 1) := by decide +kernel
theorem d_M_markOf_8 : decode b_M_markOf 8 = .ok (.iload_n 2, 1) := by decide +kernel
theorem d_M_markOf_9 : decode b_M_markOf 9 = .ok (.aload_n 0, 1) := by decide +kernel
theorem d_M_markOf_10 : decode b_M_markOf 10 = .ok (.getfield 26, 3) := by decide +kernel
theorem d_M_markOf_13 : decode b_M_markOf 13 = .ok (.iload_n 1, 1) := by decide +kernel
theorem d_M_markOf_14 : decode b_M_markOf 14 = .ok (.iaload, 1) := by decide +kernel
theorem d_M_markOf_15 : decode b_M_markOf 15 = .ok (.invokevirtual 92, 3) := by decide +kernel
theorem d_M_markOf_18 : decode b_M_markOf 18 = .ok (.istore_n 3, 1) := by decide +kernel
theorem d_M_markOf_19 : decode b_M_markOf 19 = .ok (.aload_n 0, 1) := by decide +kernel
theorem d_M_markOf_20 : decode b_M_markOf 20 = .ok (.lconst 0, 1) := by decide +kernel
theorem d_M_markOf_21 : decode b_M_markOf 21 = .ok (.putfield 95, 3) := by decide +kernel
theorem d_M_markOf_24 : decode b_M_markOf 24 = .ok (.aload_n 0, 1) := by decide +kernel
theorem d_M_markOf_25 : decode b_M_markOf 25 = .ok (.aload_n 0, 1) := by decide +kernel
theorem d_M_markOf_26 : decode b_M_markOf 26 = .ok (.getfield 32, 3) := by decide +kernel
theorem d_M_markOf_29 : decode b_M_markOf 29 = .ok (.iload_n 1, 1) := by decide +kernel
theorem d_M_markOf_30 : decode b_M_markOf 30 = .ok (.iaload, 1) := by decide +kernel
theorem d_M_markOf_31 : decode b_M_markOf 31 = .ok (.invokevirtual 101, 3) := by decide +kernel
theorem d_M_markOf_34 : decode b_M_markOf 34 = .ok (.aload_n 0, 1) := by decide +kernel
theorem d_M_markOf_35 : decode b_M_markOf 35 = .ok (.aload_n 0, 1) := by decide +kernel
theorem d_M_markOf_36 : decode b_M_markOf 36 = .ok (.getfield 29, 3) := by decide +kernel
theorem d_M_markOf_39 : decode b_M_markOf 39 = .ok (.iload_n 1, 1) := by decide +kernel
theorem d_M_markOf_40 : decode b_M_markOf 40 = .ok (.iaload, 1) := by decide +kernel
theorem d_M_markOf_41 : decode b_M_markOf 41 = .ok (.invokevirtual 101, 3) := by decide +kernel
theorem d_M_markOf_44 : decode b_M_markOf 44 = .ok (.aload_n 0, 1) := by decide +kernel
theorem d_M_markOf_45 : decode b_M_markOf 45 = .ok (.aload_n 0, 1) := by decide +kernel
theorem d_M_markOf_46 : decode b_M_markOf 46 = .ok (.getfield 26, 3) := by decide +kernel
theorem d_M_markOf_49 : decode b_M_markOf 49 = .ok (.iload_n 1, 1) := by decide +kernel
theorem d_M_markOf_50 : decode b_M_markOf 50 = .ok (.iaload, 1) := by decide +kernel
theorem d_M_markOf_51 : decode b_M_markOf 51 = .ok (.invokevirtual 101, 3) := by decide +kernel
theorem d_M_markOf_54 : decode b_M_markOf 54 = .ok (.aload_n 0, 1) := by decide +kernel
theorem d_M_markOf_55 : decode b_M_markOf 55 = .ok (.aload_n 0, 1) := by decide +kernel
theorem d_M_markOf_56 : decode b_M_markOf 56 = .ok (.getfield 35, 3) := by decide +kernel
theorem d_M_markOf_59 : decode b_M_markOf 59 = .ok (.iload_n 1, 1) := by decide +kernel
theorem d_M_markOf_60 : decode b_M_markOf 60 = .ok (.iaload, 1) := by decide +kernel
theorem d_M_markOf_61 : decode b_M_markOf 61 = .ok (.invokevirtual 101, 3) := by decide +kernel
theorem d_M_markOf_64 : decode b_M_markOf 64 = .ok (.aload_n 0, 1) := by decide +kernel
theorem d_M_markOf_65 : decode b_M_markOf 65 = .ok (.aload_n 0, 1) := by decide +kernel
theorem d_M_markOf_66 : decode b_M_markOf 66 = .ok (.getfield 38, 3) := by decide +kernel
theorem d_M_markOf_69 : decode b_M_markOf 69 = .ok (.iload_n 1, 1) := by decide +kernel
theorem d_M_markOf_70 : decode b_M_markOf 70 = .ok (.iaload, 1) := by decide +kernel
theorem d_M_markOf_71 : decode b_M_markOf 71 = .ok (.invokevirtual 101, 3) := by decide +kernel
theorem d_M_markOf_74 : decode b_M_markOf 74 = .ok (.aload_n 0, 1) := by decide +kernel
theorem d_M_markOf_75 : decode b_M_markOf 75 = .ok (.aload_n 0, 1) := by decide +kernel
theorem d_M_markOf_76 : decode b_M_markOf 76 = .ok (.getfield 41, 3) := by decide +kernel
theorem d_M_markOf_79 : decode b_M_markOf 79 = .ok (.iload_n 1, 1) := by decide +kernel
theorem d_M_markOf_80 : decode b_M_markOf 80 = .ok (.iaload, 1) := by decide +kernel
theorem d_M_markOf_81 : decode b_M_markOf 81 = .ok (.invokevirtual 101, 3) := by decide +kernel
theorem d_M_markOf_84 : decode b_M_markOf 84 = .ok (.aload_n 0, 1) := by decide +kernel
theorem d_M_markOf_85 : decode b_M_markOf 85 = .ok (.aload_n 0, 1) := by decide +kernel
theorem d_M_markOf_86 : decode b_M_markOf 86 = .ok (.getfield 35, 3) := by decide +kernel
theorem d_M_markOf_89 : decode b_M_markOf 89 = .ok (.iload_n 1, 1) := by decide +kernel
theorem d_M_markOf_90 : decode b_M_markOf 90 = .ok (.iaload, 1) := by decide +kernel
theorem d_M_markOf_91 : decode b_M_markOf 91 = .ok (.iload_n 2, 1) := by decide +kernel
theorem d_M_markOf_92 : decode b_M_markOf 92 = .ok (.invokestatic 61, 3) := by decide +kernel
theorem d_M_markOf_95 : decode b_M_markOf 95 = .ok (.if_icmp .ge 19, 3) := by decide +kernel
theorem d_M_markOf_98 : decode b_M_markOf 98 = .ok (.iload_n 2, 1) := by decide +kernel
theorem d_M_markOf_99 : decode b_M_markOf 99 = .ok (.aload_n 0, 1) := by decide +kernel
theorem d_M_markOf_100 : decode b_M_markOf 100 = .ok (.getfield 35, 3) := by decide +kernel
theorem d_M_markOf_103 : decode b_M_markOf 103 = .ok (.iload_n 1, 1) := by decide +kernel
theorem d_M_markOf_104 : decode b_M_markOf 104 = .ok (.iaload, 1) := by decide +kernel
theorem d_M_markOf_105 : decode b_M_markOf 105 = .ok (.invokestatic 65, 3) := by decide +kernel
theorem d_M_markOf_108 : decode b_M_markOf 108 = .ok (.invokestatic 112, 3) := by decide +kernel
theorem d_M_markOf_111 : decode b_M_markOf 111 = .ok (.goto 4, 3) := by decide +kernel
theorem d_M_markOf_114 : decode b_M_markOf 114 = .ok (.iload_n 2, 1) := by decide +kernel
theorem d_M_markOf_115 : decode b_M_markOf 115 = .ok (.invokevirtual 101, 3) := by decide +kernel
theorem d_M_markOf_118 : decode b_M_markOf 118 = .ok (.iconst 0, 1) := by decide +kernel
theorem d_M_markOf_119 : decode b_M_markOf 119 = .ok (.istore 4, 2) := by decide +kernel
theorem d_M_markOf_121 : decode b_M_markOf 121 = .ok (.iload 4, 2) := by decide +kernel
theorem d_M_markOf_123 : decode b_M_markOf 123 = .ok (.iload_n 3, 1) := by decide +kernel
theorem d_M_markOf_124 : decode b_M_markOf 124 = .ok (.if_icmp .ge 26, 3) := by decide +kernel
theorem d_M_markOf_127 : decode b_M_markOf 127 = .ok (.aload_n 0, 1) := by decide +kernel
theorem d_M_markOf_128 : decode b_M_markOf 128 = .ok (.aload_n 0, 1) := by decide +kernel
theorem d_M_markOf_129 : decode b_M_markOf 129 = .ok (.iload_n 2, 1) := by decide +kernel
theorem d_M_markOf_130 : decode b_M_markOf 130 = .ok (.aload_n 0, 1) := by decide +kernel
theorem d_M_markOf_131 : decode b_M_markOf 131 = .ok (.getfield 26, 3) := by decide +kernel
theorem d_M_markOf_134 : decode b_M_markOf 134 = .ok (.iload_n 1, 1) := by decide +kernel
theorem d_M_markOf_135 : decode b_M_markOf 135 = .ok (.iaload, 1) := by decide +kernel
theorem d_M_markOf_136 : decode b_M_markOf 136 = .ok (.iload 4, 2) := by decide +kernel
theorem d_M_markOf_138 : decode b_M_markOf 138 = .ok (.invokevirtual 115, 3) := by decide +kernel
theorem d_M_markOf_141 : decode b_M_markOf 141 = .ok (.invokevirtual 101, 3) := by decide +kernel
theorem d_M_markOf_144 : decode b_M_markOf 144 = .ok (.iinc 4 1, 3) := by decide +kernel
theorem d_M_markOf_147 : decode b_M_markOf 147 = .ok (.goto (-26), 3) := by decide +kernel
theorem d_M_markOf_150 : decode b_M_markOf 150 = .ok (.aload_n 0, 1) := by decide +kernel
theorem d_M_markOf_151 : decode b_M_markOf 151 = .ok (.invokevirtual 105, 3) := by decide +kernel
theorem d_M_markOf_154 : decode b_M_markOf 154 = .ok (.ireturn, 1) := by decide +kernel
theorem d_M_window_0 : decode b_M_window 0 = .ok (.iload_n 1, 1) := by decide +kernel
theorem d_M_window_1 : decode b_M_window 1 = .ok (.ifCond .lt 8, 3) := by decide +kernel
theorem d_M_window_4 : decode b_M_window 4 = .ok (.iload_n 2, 1) := by decide +kernel
theorem d_M_window_5 : decode b_M_window 5 = .ok (.iload_n 1, 1) := by decide +kernel
theorem d_M_window_6 : decode b_M_window 6 = .ok (.if_icmp .ge 5, 3) := by decide +kernel
theorem d_M_window_9 : decode b_M_window 9 = .ok (.iconst 0, 1) := by decide +kernel
theorem d_M_window_10 : decode b_M_window 10 = .ok (.ireturn, 1) := by decide +kernel
theorem d_M_window_11 : decode b_M_window 11 = .ok (.aload_n 0, 1) := by decide +kernel
theorem d_M_window_12 : decode b_M_window 12 = .ok (.iload_n 1, 1) := by decide +kernel
theorem d_M_window_13 : decode b_M_window 13 = .ok (.putfield 119, 3) := by decide +kernel
theorem d_M_window_16 : decode b_M_window 16 = .ok (.aload_n 0, 1) := by decide +kernel
theorem d_M_window_17 : decode b_M_window 17 = .ok (.iload_n 2, 1) := by decide +kernel
theorem d_M_window_18 : decode b_M_window 18 = .ok (.putfield 19, 3) := by decide +kernel
theorem d_M_window_21 : decode b_M_window 21 = .ok (.iconst 1, 1) := by decide +kernel
theorem d_M_window_22 : decode b_M_window 22 = .ok (.ireturn, 1) := by decide +kernel
theorem d_M_sign_0 : decode b_M_sign 0 = .ok (.iload_n 1, 1) := by decide +kernel
theorem d_M_sign_1 : decode b_M_sign 1 = .ok (.invokestatic 78, 3) := by decide +kernel
theorem d_M_sign_4 : decode b_M_sign 4 = .ok (.ifCond .eq 48, 3) := by decide +kernel
theorem d_M_sign_7 : decode b_M_sign 7 = .ok (.iload_n 3, 1) := by decide +kernel
theorem d_M_sign_8 : decode b_M_sign 8 = .ok (.invokestatic 78, 3) := by decide +kernel
theorem d_M_sign_11 : decode b_M_sign 11 = .ok (.ifCond .eq 41, 3) := by decide +kernel
theorem d_M_sign_14 : decode b_M_sign 14 = .ok (.iload_n 2, 1) := by decide +kernel
theorem d_M_sign_15 : decode b_M_sign 15 = .ok (.invokestatic 81, 3) := by decide +kernel
theorem d_M_sign_18 : decode b_M_sign 18 = .ok (.ifCond .eq 34, 3) := by decide +kernel
theorem d_M_sign_21 : decode b_M_sign 21 = .ok (.iload 4, 2) := by decide +kernel
theorem d_M_sign_23 : decode b_M_sign 23 = .ok (.invokestatic 72, 3) := by decide +kernel
theorem d_M_sign_26 : decode b_M_sign 26 = .ok (.ifCond .eq 26, 3) := by decide +kernel
theorem d_M_sign_29 : decode b_M_sign 29 = .ok (.iload 5, 2) := by decide +kernel
theorem d_M_sign_31 : decode b_M_sign 31 = .ok (.ifCond .lt 21, 3) := by decide +kernel
theorem d_M_sign_34 : decode b_M_sign 34 = .ok (.iload 5, 2) := by decide +kernel
theorem d_M_sign_36 : decode b_M_sign 36 = .ok (.iload_n 1, 1) := by decide +kernel
theorem d_M_sign_37 : decode b_M_sign 37 = .ok (.invokestatic 61, 3) := by decide +kernel
theorem d_M_sign_40 : decode b_M_sign 40 = .ok (.if_icmp .gt 12, 3) := by decide +kernel
theorem d_M_sign_43 : decode b_M_sign 43 = .ok (.aload_n 0, 1) := by decide +kernel
theorem d_M_sign_44 : decode b_M_sign 44 = .ok (.iload_n 1, 1) := by decide +kernel
theorem d_M_sign_45 : decode b_M_sign 45 = .ok (.iload_n 2, 1) := by decide +kernel
theorem d_M_sign_46 : decode b_M_sign 46 = .ok (.invokevirtual 92, 3) := by decide +kernel
theorem d_M_sign_49 : decode b_M_sign 49 = .ok (.ifCond .ne 5, 3) := by decide +kernel
theorem d_M_sign_52 : decode b_M_sign 52 = .ok (.iconst (-1), 1) := by decide +kernel
theorem d_M_sign_53 : decode b_M_sign 53 = .ok (.ireturn, 1) := by decide +kernel
theorem d_M_sign_54 : decode b_M_sign 54 = .ok (.aload_n 0, 1) := by decide +kernel
theorem d_M_sign_55 : decode b_M_sign 55 = .ok (.getfield 122, 3) := by decide +kernel
theorem d_M_sign_58 : decode b_M_sign 58 = .ok (.bipush 32, 2) := by decide +kernel
theorem d_M_sign_60 : decode b_M_sign 60 = .ok (.if_icmp .ne 6, 3) := by decide +kernel
theorem d_M_sign_63 : decode b_M_sign 63 = .ok (.bipush (-2), 2) := by decide +kernel
theorem d_M_sign_65 : decode b_M_sign 65 = .ok (.ireturn, 1) := by decide +kernel
theorem d_M_sign_66 : decode b_M_sign 66 = .ok (.aload_n 0, 1) := by decide +kernel
theorem d_M_sign_67 : decode b_M_sign 67 = .ok (.getfield 122, 3) := by decide +kernel
theorem d_M_sign_70 : decode b_M_sign 70 = .ok (.istore 6, 2) := by decide +kernel
theorem d_M_sign_72 : decode b_M_sign 72 = .ok (.aload_n 0, 1) := by decide +kernel
theorem d_M_sign_73 : decode b_M_sign 73 = .ok (.getfield 23, 3) := by decide +kernel
theorem d_M_sign_76 : decode b_M_sign 76 = .ok (.iload 6, 2) := by decide +kernel
theorem d_M_sign_78 : decode b_M_sign 78 = .ok (.iload_n 1, 1) := by decide +kernel
theorem d_M_sign_79 : decode b_M_sign 79 = .ok (.iastore, 1) := by decide +kernel
theorem d_M_sign_80 : decode b_M_sign 80 = .ok (.aload_n 0, 1) := by decide +kernel
theorem d_M_sign_81 : decode b_M_sign 81 = .ok (.getfield 26, 3) := by decide +kernel
theorem d_M_sign_84 : decode b_M_sign 84 = .ok (.iload 6, 2) := by decide +kernel
theorem d_M_sign_86 : decode b_M_sign 86 = .ok (.iload_n 2, 1) := by decide +kernel
theorem d_M_sign_87 : decode b_M_sign 87 = .ok (.iastore, 1) := by decide +kernel
theorem d_M_sign_88 : decode b_M_sign 88 = .ok (.aload_n 0, 1) := by decide +kernel
theorem d_M_sign_89 : decode b_M_sign 89 = .ok (.getfield 29, 3) := by decide +kernel
theorem d_M_sign_92 : decode b_M_sign 92 = .ok (.iload 6, 2) := by decide +kernel
theorem d_M_sign_94 : decode b_M_sign 94 = .ok (.iload_n 3, 1) := by decide +kernel
theorem d_M_sign_95 : decode b_M_sign 95 = .ok (.iastore, 1) := by decide +kernel
theorem d_M_sign_96 : decode b_M_sign 96 = .ok (.aload_n 0, 1) := by decide +kernel
theorem d_M_sign_97 : decode b_M_sign 97 = .ok (.getfield 32, 3) := by decide +kernel
theorem d_M_sign_100 : decode b_M_sign 100 = .ok (.iload 6, 2) := by decide +kernel
theorem d_M_sign_102 : decode b_M_sign 102 = .ok (.iload 4, 2) := by decide +kernel
theorem d_M_sign_104 : decode b_M_sign 104 = .ok (.iastore, 1) := by decide +kernel
theorem d_M_sign_105 : decode b_M_sign 105 = .ok (.aload_n 0, 1) := by decide +kernel
theorem d_M_sign_106 : decode b_M_sign 106 = .ok (.getfield 35, 3) := by decide +kernel
theorem d_M_sign_109 : decode b_M_sign 109 = .ok (.iload 6, 2) := by decide +kernel
theorem d_M_sign_111 : decode b_M_sign 111 = .ok (.iload 5, 2) := by decide +kernel
theorem d_M_sign_113 : decode b_M_sign 113 = .ok (.iastore, 1) := by decide +kernel
theorem d_M_sign_114 : decode b_M_sign 114 = .ok (.aload_n 0, 1) := by decide +kernel
theorem d_M_sign_115 : decode b_M_sign 115 = .ok (.getfield 38, 3) := by decide +kernel
theorem d_M_sign_118 : decode b_M_sign 118 = .ok (.iload 6, 2) := by decide +kernel
theorem d_M_sign_120 : decode b_M_sign 120 = .ok (.aload_n 0, 1) := by decide +kernel
theorem d_M_sign_121 : decode b_M_sign 121 = .ok (.getfield 119, 3) := by decide +kernel
theorem d_M_sign_124 : decode b_M_sign 124 = .ok (.iastore, 1) := by decide +kernel
theorem d_M_sign_125 : decode b_M_sign 125 = .ok (.aload_n 0, 1) := by decide +kernel
theorem d_M_sign_126 : decode b_M_sign 126 = .ok (.getfield 41, 3) := by decide +kernel
theorem d_M_sign_129 : decode b_M_sign 129 = .ok (.iload 6, 2) := by decide +kernel
theorem d_M_sign_131 : decode b_M_sign 131 = .ok (.aload_n 0, 1) := by decide +kernel
theorem d_M_sign_132 : decode b_M_sign 132 = .ok (.getfield 19, 3) := by decide +kernel
theorem d_M_sign_135 : decode b_M_sign 135 = .ok (.iastore, 1) := by decide +kernel
theorem d_M_sign_136 : decode b_M_sign 136 = .ok (.aload_n 0, 1) := by decide +kernel
theorem d_M_sign_137 : decode b_M_sign 137 = .ok (.getfield 44, 3) := by decide +kernel
theorem d_M_sign_140 : decode b_M_sign 140 = .ok (.iload 6, 2) := by decide +kernel
theorem d_M_sign_142 : decode b_M_sign 142 = .ok (.aload_n 0, 1) := by decide +kernel
theorem d_M_sign_143 : decode b_M_sign 143 = .ok (.iload 6, 2) := by decide +kernel
theorem d_M_sign_145 : decode b_M_sign 145 = .ok (.invokevirtual 125, 3) := by decide +kernel
theorem d_M_sign_148 : decode b_M_sign 148 = .ok (.iastore, 1) := by decide +kernel
theorem d_M_sign_149 : decode b_M_sign 149 = .ok (.aload_n 0, 1) := by decide +kernel
theorem d_M_sign_150 : decode b_M_sign 150 = .ok (.dup, 1) := by decide +kernel
theorem d_M_sign_151 : decode b_M_sign 151 = .ok (.getfield 122, 3) := by decide +kernel
theorem d_M_sign_154 : decode b_M_sign 154 = .ok (.iconst 1, 1) := by decide +kernel
theorem d_M_sign_155 : decode b_M_sign 155 = .ok (.iadd, 1) := by decide +kernel
theorem d_M_sign_156 : decode b_M_sign 156 = .ok (.putfield 122, 3) := by decide +kernel
theorem d_M_sign_159 : decode b_M_sign 159 = .ok (.iload 6, 2) := by decide +kernel
theorem d_M_sign_161 : decode b_M_sign 161 = .ok (.ireturn, 1) := by decide +kernel
theorem d_M_spoil_0 : decode b_M_spoil 0 = .ok (.iload_n 1, 1) := by decide +kernel
theorem d_M_spoil_1 : decode b_M_spoil 1 = .ok (.ifCond .lt 11, 3) := by decide +kernel
theorem d_M_spoil_4 : decode b_M_spoil 4 = .ok (.iload_n 1, 1) := by decide +kernel
theorem d_M_spoil_5 : decode b_M_spoil 5 = .ok (.aload_n 0, 1) := by decide +kernel
theorem d_M_spoil_6 : decode b_M_spoil 6 = .ok (.getfield 122, 3) := by decide +kernel
theorem d_M_spoil_9 : decode b_M_spoil 9 = .ok (.if_icmp .lt 5, 3) := by decide +kernel
theorem d_M_spoil_12 : decode b_M_spoil 12 = .ok (.iconst 0, 1) := by decide +kernel
theorem d_M_spoil_13 : decode b_M_spoil 13 = .ok (.ireturn, 1) := by decide +kernel
theorem d_M_spoil_14 : decode b_M_spoil 14 = .ok (.aload_n 0, 1) := by decide +kernel
theorem d_M_spoil_15 : decode b_M_spoil 15 = .ok (.getfield 44, 3) := by decide +kernel
theorem d_M_spoil_18 : decode b_M_spoil 18 = .ok (.iload_n 1, 1) := by decide +kernel
theorem d_M_spoil_19 : decode b_M_spoil 19 = .ok (.aload_n 0, 1) := by decide +kernel
theorem d_M_spoil_20 : decode b_M_spoil 20 = .ok (.getfield 44, 3) := by decide +kernel
theorem d_M_spoil_23 : decode b_M_spoil 23 = .ok (.iload_n 1, 1) := by decide +kernel
theorem d_M_spoil_24 : decode b_M_spoil 24 = .ok (.iaload, 1) := by decide +kernel
theorem d_M_spoil_25 : decode b_M_spoil 25 = .ok (.iload_n 2, 1) := by decide +kernel
theorem d_M_spoil_26 : decode b_M_spoil 26 = .ok (.iadd, 1) := by decide +kernel
theorem d_M_spoil_27 : decode b_M_spoil 27 = .ok (.iastore, 1) := by decide +kernel
theorem d_M_spoil_28 : decode b_M_spoil 28 = .ok (.iconst 1, 1) := by decide +kernel
theorem d_M_spoil_29 : decode b_M_spoil 29 = .ok (.ireturn, 1) := by decide +kernel
theorem d_M_anchor_0 : decode b_M_anchor 0 = .ok (.iload_n 1, 1) := by decide +kernel
theorem d_M_anchor_1 : decode b_M_anchor 1 = .ok (.invokestatic 78, 3) := by decide +kernel
theorem d_M_anchor_4 : decode b_M_anchor 4 = .ok (.ifCond .eq 7, 3) := by decide +kernel
theorem d_M_anchor_7 : decode b_M_anchor 7 = .ok (.iload_n 2, 1) := by decide +kernel
theorem d_M_anchor_8 : decode b_M_anchor 8 = .ok (.ifCond .ge 5, 3) := by decide +kernel
theorem d_M_anchor_11 : decode b_M_anchor 11 = .ok (.iconst (-1), 1) := by decide +kernel
theorem d_M_anchor_12 : decode b_M_anchor 12 = .ok (.ireturn, 1) := by decide +kernel
theorem d_M_anchor_13 : decode b_M_anchor 13 = .ok (.iconst 0, 1) := by decide +kernel
theorem d_M_anchor_14 : decode b_M_anchor 14 = .ok (.istore_n 3, 1) := by decide +kernel
theorem d_M_anchor_15 : decode b_M_anchor 15 = .ok (.iload_n 3, 1) := by decide +kernel
theorem d_M_anchor_16 : decode b_M_anchor 16 = .ok (.aload_n 0, 1) := by decide +kernel
theorem d_M_anchor_17 : decode b_M_anchor 17 = .ok (.getfield 128, 3) := by decide +kernel
theorem d_M_anchor_20 : decode b_M_anchor 20 = .ok (.if_icmp .ge 19, 3) := by decide +kernel
theorem d_M_anchor_23 : decode b_M_anchor 23 = .ok (.aload_n 0, 1) := by decide +kernel
theorem d_M_anchor_24 : decode b_M_anchor 24 = .ok (.getfield 47, 3) := by decide +kernel
theorem d_M_anchor_27 : decode b_M_anchor 27 = .ok (.iload_n 3, 1) := by decide +kernel
theorem d_M_anchor_28 : decode b_M_anchor 28 = .ok (.iaload, 1) := by decide +kernel
theorem d_M_anchor_29 : decode b_M_anchor 29 = .ok (.iload_n 1, 1) := by decide +kernel
theorem d_M_anchor_30 : decode b_M_anchor 30 = .ok (.if_icmp .eq 9, 3) := by decide +kernel
theorem d_M_anchor_33 : decode b_M_anchor 33 = .ok (.iinc 3 1, 3) := by decide +kernel
theorem d_M_anchor_36 : decode b_M_anchor 36 = .ok (.goto (-21), 3) := by decide +kernel
theorem d_M_anchor_39 : decode b_M_anchor 39 = .ok (.iload_n 3, 1) := by decide +kernel
theorem d_M_anchor_40 : decode b_M_anchor 40 = .ok (.iconst 4, 1) := by decide +kernel
theorem d_M_anchor_41 : decode b_M_anchor 41 = .ok (.if_icmp .ne 6, 3) := by decide +kernel
theorem d_M_anchor_44 : decode b_M_anchor 44 = .ok (.bipush (-2), 2) := by decide +kernel
theorem d_M_anchor_46 : decode b_M_anchor 46 = .ok (.ireturn, 1) := by decide +kernel
theorem d_M_anchor_47 : decode b_M_anchor 47 = .ok (.aload_n 0, 1) := by decide +kernel
theorem d_M_anchor_48 : decode b_M_anchor 48 = .ok (.iload_n 3, 1) := by decide +kernel
theorem d_M_anchor_49 : decode b_M_anchor 49 = .ok (.aload_n 0, 1) := by decide +kernel
theorem d_M_anchor_50 : decode b_M_anchor 50 = .ok (.getfield 128, 3) := by decide +kernel
theorem d_M_anchor_53 : decode b_M_anchor 53 = .ok (.if_icmp .ne 12, 3) := by decide +kernel
theorem d_M_anchor_56 : decode b_M_anchor 56 = .ok (.aload_n 0, 1) := by decide +kernel
theorem d_M_anchor_57 : decode b_M_anchor 57 = .ok (.getfield 128, 3) := by decide +kernel
theorem d_M_anchor_60 : decode b_M_anchor 60 = .ok (.iconst 1, 1) := by decide +kernel
theorem d_M_anchor_61 : decode b_M_anchor 61 = .ok (.iadd, 1) := by decide +kernel
theorem d_M_anchor_62 : decode b_M_anchor 62 = .ok (.goto 7, 3) := by decide +kernel
theorem d_M_anchor_65 : decode b_M_anchor 65 = .ok (.aload_n 0, 1) := by decide +kernel
theorem d_M_anchor_66 : decode b_M_anchor 66 = .ok (.getfield 128, 3) := by decide +kernel
theorem d_M_anchor_69 : decode b_M_anchor 69 = .ok (.putfield 128, 3) := by decide +kernel
theorem d_M_anchor_72 : decode b_M_anchor 72 = .ok (.aload_n 0, 1) := by decide +kernel
theorem d_M_anchor_73 : decode b_M_anchor 73 = .ok (.getfield 47, 3) := by decide +kernel
theorem d_M_anchor_76 : decode b_M_anchor 76 = .ok (.iload_n 3, 1) := by decide +kernel
theorem d_M_anchor_77 : decode b_M_anchor 77 = .ok (.iload_n 1, 1) := by decide +kernel
theorem d_M_anchor_78 : decode b_M_anchor 78 = .ok (.iastore, 1) := by decide +kernel
theorem d_M_anchor_79 : decode b_M_anchor 79 = .ok (.aload_n 0, 1) := by decide +kernel
theorem d_M_anchor_80 : decode b_M_anchor 80 = .ok (.getfield 50, 3) := by decide +kernel
theorem d_M_anchor_83 : decode b_M_anchor 83 = .ok (.iload_n 3, 1) := by decide +kernel
theorem d_M_anchor_84 : decode b_M_anchor 84 = .ok (.iload_n 2, 1) := by decide +kernel
theorem d_M_anchor_85 : decode b_M_anchor 85 = .ok (.iastore, 1) := by decide +kernel
theorem d_M_anchor_86 : decode b_M_anchor 86 = .ok (.aload_n 0, 1) := by decide +kernel
theorem d_M_anchor_87 : decode b_M_anchor 87 = .ok (.getfield 128, 3) := by decide +kernel
theorem d_M_anchor_90 : decode b_M_anchor 90 = .ok (.ireturn, 1) := by decide +kernel
theorem d_M_tick_0 : decode b_M_tick 0 = .ok (.iload_n 1, 1) := by decide +kernel
theorem d_M_tick_1 : decode b_M_tick 1 = .ok (.ifCond .lt 9, 3) := by decide +kernel
theorem d_M_tick_4 : decode b_M_tick 4 = .ok (.iload_n 1, 1) := by decide +kernel
theorem d_M_tick_5 : decode b_M_tick 5 = .ok (.ldc 131, 2) := by decide +kernel
theorem d_M_tick_7 : decode b_M_tick 7 = .ok (.if_icmp .le 5, 3) := by decide +kernel
theorem d_M_tick_10 : decode b_M_tick 10 = .ok (.iconst (-1), 1) := by decide +kernel
theorem d_M_tick_11 : decode b_M_tick 11 = .ok (.ireturn, 1) := by decide +kernel
theorem d_M_tick_12 : decode b_M_tick 12 = .ok (.aload_n 0, 1) := by decide +kernel
theorem d_M_tick_13 : decode b_M_tick 13 = .ok (.aload_n 0, 1) := by decide +kernel
theorem d_M_tick_14 : decode b_M_tick 14 = .ok (.getfield 132, 3) := by decide +kernel
theorem d_M_tick_17 : decode b_M_tick 17 = .ok (.iload_n 1, 1) := by decide +kernel
theorem d_M_tick_18 : decode b_M_tick 18 = .ok (.iadd, 1) := by decide +kernel
theorem d_M_tick_19 : decode b_M_tick 19 = .ok (.putfield 132, 3) := by decide +kernel
theorem d_M_tick_22 : decode b_M_tick 22 = .ok (.aload_n 0, 1) := by decide +kernel
theorem d_M_tick_23 : decode b_M_tick 23 = .ok (.getfield 132, 3) := by decide +kernel
theorem d_M_tick_26 : decode b_M_tick 26 = .ok (.ireturn, 1) := by decide +kernel
theorem d_M_here_0 : decode b_M_here 0 = .ok (.aload_n 0, 1) := by decide +kernel
theorem d_M_here_1 : decode b_M_here 1 = .ok (.getfield 53, 3) := by decide +kernel
theorem d_M_here_4 : decode b_M_here 4 = .ok (.aload_n 0, 1) := by decide +kernel
theorem d_M_here_5 : decode b_M_here 5 = .ok (.getfield 135, 3) := by decide +kernel
theorem d_M_here_8 : decode b_M_here 8 = .ok (.iconst 1, 1) := by decide +kernel
theorem d_M_here_9 : decode b_M_here 9 = .ok (.isub, 1) := by decide +kernel
theorem d_M_here_10 : decode b_M_here 10 = .ok (.iaload, 1) := by decide +kernel
theorem d_M_here_11 : decode b_M_here 11 = .ok (.ireturn, 1) := by decide +kernel

theorem d_M_isTrusted_0 : decode b_M_isTrusted 0 = .ok (.aload_n 0, 1) := by decide +kernel
theorem d_M_isTrusted_1 : decode b_M_isTrusted 1 = .ok (.aload_n 0, 1) := by decide +kernel
theorem d_M_isTrusted_2 : decode b_M_isTrusted 2 = .ok (.invokevirtual 138, 3) := by decide +kernel
theorem d_M_isTrusted_5 : decode b_M_isTrusted 5 = .ok (.iload_n 1, 1) := by decide +kernel
theorem d_M_isTrusted_6 : decode b_M_isTrusted 6 = .ok (.invokevirtual 109, 3) := by decide +kernel
theorem d_M_isTrusted_9 : decode b_M_isTrusted 9 = .ok (.istore_n 2, 1) := by decide +kernel
theorem d_M_isTrusted_10 : decode b_M_isTrusted 10 = .ok (.aload_n 0, 1) := by decide +kernel
theorem d_M_isTrusted_11 : decode b_M_isTrusted 11 = .ok (.getfield 141, 3) := by decide +kernel
theorem d_M_isTrusted_14 : decode b_M_isTrusted 14 = .ok (.ifCond .lt 19, 3) := by decide +kernel
theorem d_M_isTrusted_17 : decode b_M_isTrusted 17 = .ok (.iload_n 2, 1) := by decide +kernel
theorem d_M_isTrusted_18 : decode b_M_isTrusted 18 = .ok (.aload_n 0, 1) := by decide +kernel
theorem d_M_isTrusted_19 : decode b_M_isTrusted 19 = .ok (.getfield 141, 3) := by decide +kernel
theorem d_M_isTrusted_22 : decode b_M_isTrusted 22 = .ok (.if_icmp .ne 7, 3) := by decide +kernel
theorem d_M_isTrusted_25 : decode b_M_isTrusted 25 = .ok (.iconst 1, 1) := by decide +kernel
theorem d_M_isTrusted_26 : decode b_M_isTrusted 26 = .ok (.goto 17, 3) := by decide +kernel
theorem d_M_isTrusted_29 : decode b_M_isTrusted 29 = .ok (.iconst 0, 1) := by decide +kernel
theorem d_M_isTrusted_30 : decode b_M_isTrusted 30 = .ok (.goto 13, 3) := by decide +kernel
theorem d_M_isTrusted_33 : decode b_M_isTrusted 33 = .ok (.aload_n 0, 1) := by decide +kernel
theorem d_M_isTrusted_34 : decode b_M_isTrusted 34 = .ok (.aload_n 0, 1) := by decide +kernel
theorem d_M_isTrusted_35 : decode b_M_isTrusted 35 = .ok (.invokevirtual 138, 3) := by decide +kernel
theorem d_M_isTrusted_38 : decode b_M_isTrusted 38 = .ok (.iconst 3, 1) := by decide +kernel
theorem d_M_isTrusted_39 : decode b_M_isTrusted 39 = .ok (.iload_n 2, 1) := by decide +kernel
theorem d_M_isTrusted_40 : decode b_M_isTrusted 40 = .ok (.invokevirtual 88, 3) := by decide +kernel
theorem d_M_isTrusted_43 : decode b_M_isTrusted 43 = .ok (.ireturn, 1) := by decide +kernel
theorem d_M_counts_0 : decode b_M_counts 0 = .ok (.aload_n 0, 1) := by decide +kernel
theorem d_M_counts_1 : decode b_M_counts 1 = .ok (.aload_n 0, 1) := by decide +kernel
theorem d_M_counts_2 : decode b_M_counts 2 = .ok (.invokevirtual 138, 3) := by decide +kernel
theorem d_M_counts_5 : decode b_M_counts 5 = .ok (.iconst 4, 1) := by decide +kernel
theorem d_M_counts_6 : decode b_M_counts 6 = .ok (.iload_n 1, 1) := by decide +kernel
theorem d_M_counts_7 : decode b_M_counts 7 = .ok (.invokevirtual 88, 3) := by decide +kernel
theorem d_M_counts_10 : decode b_M_counts 10 = .ok (.ifCond .eq 22, 3) := by decide +kernel
theorem d_M_counts_13 : decode b_M_counts 13 = .ok (.aload_n 0, 1) := by decide +kernel
theorem d_M_counts_14 : decode b_M_counts 14 = .ok (.getfield 144, 3) := by decide +kernel
theorem d_M_counts_17 : decode b_M_counts 17 = .ok (.ifCond .ne 11, 3) := by decide +kernel
theorem d_M_counts_20 : decode b_M_counts 20 = .ok (.aload_n 0, 1) := by decide +kernel
theorem d_M_counts_21 : decode b_M_counts 21 = .ok (.iload_n 1, 1) := by decide +kernel
theorem d_M_counts_22 : decode b_M_counts 22 = .ok (.invokevirtual 148, 3) := by decide +kernel
theorem d_M_counts_25 : decode b_M_counts 25 = .ok (.ifCond .eq 7, 3) := by decide +kernel
theorem d_M_counts_28 : decode b_M_counts 28 = .ok (.iconst 1, 1) := by decide +kernel
theorem d_M_counts_29 : decode b_M_counts 29 = .ok (.goto 4, 3) := by decide +kernel
theorem d_M_counts_32 : decode b_M_counts 32 = .ok (.iconst 0, 1) := by decide +kernel
theorem d_M_counts_33 : decode b_M_counts 33 = .ok (.ireturn, 1) := by decide +kernel
theorem d_M_isGood_0 : decode b_M_isGood 0 = .ok (.aload_n 0, 1) := by decide +kernel
theorem d_M_isGood_1 : decode b_M_isGood 1 = .ok (.invokevirtual 138, 3) := by decide +kernel
theorem d_M_isGood_4 : decode b_M_isGood 4 = .ok (.istore_n 2, 1) := by decide +kernel
theorem d_M_isGood_5 : decode b_M_isGood 5 = .ok (.aload_n 0, 1) := by decide +kernel
theorem d_M_isGood_6 : decode b_M_isGood 6 = .ok (.getfield 23, 3) := by decide +kernel
theorem d_M_isGood_9 : decode b_M_isGood 9 = .ok (.iload_n 1, 1) := by decide +kernel
theorem d_M_isGood_10 : decode b_M_isGood 10 = .ok (.iaload, 1) := by decide +kernel
theorem d_M_isGood_11 : decode b_M_isGood 11 = .ok (.istore_n 3, 1) := by decide +kernel
theorem d_M_isGood_12 : decode b_M_isGood 12 = .ok (.aload_n 0, 1) := by decide +kernel
theorem d_M_isGood_13 : decode b_M_isGood 13 = .ok (.getfield 29, 3) := by decide +kernel
theorem d_M_isGood_16 : decode b_M_isGood 16 = .ok (.iload_n 1, 1) := by decide +kernel
theorem d_M_isGood_17 : decode b_M_isGood 17 = .ok (.iaload, 1) := by decide +kernel
theorem d_M_isGood_18 : decode b_M_isGood 18 = .ok (.iload_n 2, 1) := by decide +kernel
theorem d_M_isGood_19 : decode b_M_isGood 19 = .ok (.if_icmp .ne 20, 3) := by decide +kernel
theorem d_M_isGood_22 : decode b_M_isGood 22 = .ok (.iload_n 2, 1) := by decide +kernel
theorem d_M_isGood_23 : decode b_M_isGood 23 = .ok (.iload_n 3, 1) := by decide +kernel
theorem d_M_isGood_24 : decode b_M_isGood 24 = .ok (.if_icmp .eq 11, 3) := by decide +kernel
theorem d_M_isGood_27 : decode b_M_isGood 27 = .ok (.iload_n 2, 1) := by decide +kernel
theorem d_M_isGood_28 : decode b_M_isGood 28 = .ok (.iload_n 3, 1) := by decide +kernel
theorem d_M_isGood_29 : decode b_M_isGood 29 = .ok (.invokestatic 151, 3) := by decide +kernel
theorem d_M_isGood_32 : decode b_M_isGood 32 = .ok (.ifCond .eq 7, 3) := by decide +kernel
theorem d_M_isGood_35 : decode b_M_isGood 35 = .ok (.iconst 1, 1) := by decide +kernel
theorem d_M_isGood_36 : decode b_M_isGood 36 = .ok (.goto 4, 3) := by decide +kernel
theorem d_M_isGood_39 : decode b_M_isGood 39 = .ok (.iconst 0, 1) := by decide +kernel
theorem d_M_isGood_40 : decode b_M_isGood 40 = .ok (.istore 4, 2) := by decide +kernel
theorem d_M_isGood_42 : decode b_M_isGood 42 = .ok (.iload 4, 2) := by decide +kernel
theorem d_M_isGood_44 : decode b_M_isGood 44 = .ok (.ifCond .eq 74, 3) := by decide +kernel
theorem d_M_isGood_47 : decode b_M_isGood 47 = .ok (.aload_n 0, 1) := by decide +kernel
theorem d_M_isGood_48 : decode b_M_isGood 48 = .ok (.aload_n 0, 1) := by decide +kernel
theorem d_M_isGood_49 : decode b_M_isGood 49 = .ok (.getfield 32, 3) := by decide +kernel
theorem d_M_isGood_52 : decode b_M_isGood 52 = .ok (.iload_n 1, 1) := by decide +kernel
theorem d_M_isGood_53 : decode b_M_isGood 53 = .ok (.iaload, 1) := by decide +kernel
theorem d_M_isGood_54 : decode b_M_isGood 54 = .ok (.invokevirtual 154, 3) := by decide +kernel
theorem d_M_isGood_57 : decode b_M_isGood 57 = .ok (.ifCond .eq 61, 3) := by decide +kernel
theorem d_M_isGood_60 : decode b_M_isGood 60 = .ok (.aload_n 0, 1) := by decide +kernel
theorem d_M_isGood_61 : decode b_M_isGood 61 = .ok (.getfield 132, 3) := by decide +kernel
theorem d_M_isGood_64 : decode b_M_isGood 64 = .ok (.aload_n 0, 1) := by decide +kernel
theorem d_M_isGood_65 : decode b_M_isGood 65 = .ok (.getfield 38, 3) := by decide +kernel
theorem d_M_isGood_68 : decode b_M_isGood 68 = .ok (.iload_n 1, 1) := by decide +kernel
theorem d_M_isGood_69 : decode b_M_isGood 69 = .ok (.iaload, 1) := by decide +kernel
theorem d_M_isGood_70 : decode b_M_isGood 70 = .ok (.if_icmp .lt 48, 3) := by decide +kernel
theorem d_M_isGood_73 : decode b_M_isGood 73 = .ok (.aload_n 0, 1) := by decide +kernel
theorem d_M_isGood_74 : decode b_M_isGood 74 = .ok (.getfield 132, 3) := by decide +kernel
theorem d_M_isGood_77 : decode b_M_isGood 77 = .ok (.aload_n 0, 1) := by decide +kernel
theorem d_M_isGood_78 : decode b_M_isGood 78 = .ok (.getfield 41, 3) := by decide +kernel
theorem d_M_isGood_81 : decode b_M_isGood 81 = .ok (.iload_n 1, 1) := by decide +kernel
theorem d_M_isGood_82 : decode b_M_isGood 82 = .ok (.iaload, 1) := by decide +kernel
theorem d_M_isGood_83 : decode b_M_isGood 83 = .ok (.if_icmp .gt 35, 3) := by decide +kernel
theorem d_M_isGood_86 : decode b_M_isGood 86 = .ok (.aload_n 0, 1) := by decide +kernel
theorem d_M_isGood_87 : decode b_M_isGood 87 = .ok (.iload_n 3, 1) := by decide +kernel
theorem d_M_isGood_88 : decode b_M_isGood 88 = .ok (.aload_n 0, 1) := by decide +kernel
theorem d_M_isGood_89 : decode b_M_isGood 89 = .ok (.getfield 26, 3) := by decide +kernel
theorem d_M_isGood_92 : decode b_M_isGood 92 = .ok (.iload_n 1, 1) := by decide +kernel
theorem d_M_isGood_93 : decode b_M_isGood 93 = .ok (.iaload, 1) := by decide +kernel
theorem d_M_isGood_94 : decode b_M_isGood 94 = .ok (.invokevirtual 92, 3) := by decide +kernel
theorem d_M_isGood_97 : decode b_M_isGood 97 = .ok (.ifCond .le 21, 3) := by decide +kernel
theorem d_M_isGood_100 : decode b_M_isGood 100 = .ok (.aload_n 0, 1) := by decide +kernel
theorem d_M_isGood_101 : decode b_M_isGood 101 = .ok (.getfield 44, 3) := by decide +kernel
theorem d_M_isGood_104 : decode b_M_isGood 104 = .ok (.iload_n 1, 1) := by decide +kernel
theorem d_M_isGood_105 : decode b_M_isGood 105 = .ok (.iaload, 1) := by decide +kernel
theorem d_M_isGood_106 : decode b_M_isGood 106 = .ok (.aload_n 0, 1) := by decide +kernel
theorem d_M_isGood_107 : decode b_M_isGood 107 = .ok (.iload_n 1, 1) := by decide +kernel
theorem d_M_isGood_108 : decode b_M_isGood 108 = .ok (.invokevirtual 125, 3) := by decide +kernel
theorem d_M_isGood_111 : decode b_M_isGood 111 = .ok (.if_icmp .ne 7, 3) := by decide +kernel
theorem d_M_isGood_114 : decode b_M_isGood 114 = .ok (.iconst 1, 1) := by decide +kernel
theorem d_M_isGood_115 : decode b_M_isGood 115 = .ok (.goto 4, 3) := by decide +kernel
theorem d_M_isGood_118 : decode b_M_isGood 118 = .ok (.iconst 0, 1) := by decide +kernel
theorem d_M_isGood_119 : decode b_M_isGood 119 = .ok (.ireturn, 1) := by decide +kernel
theorem d_M_isPlain_0 : decode b_M_isPlain 0 = .ok (.iconst 0, 1) := by decide +kernel
theorem d_M_isPlain_1 : decode b_M_isPlain 1 = .ok (.istore_n 3, 1) := by decide +kernel
theorem d_M_isPlain_2 : decode b_M_isPlain 2 = .ok (.iconst 0, 1) := by decide +kernel
theorem d_M_isPlain_3 : decode b_M_isPlain 3 = .ok (.istore 4, 2) := by decide +kernel
theorem d_M_isPlain_5 : decode b_M_isPlain 5 = .ok (.iload 4, 2) := by decide +kernel
theorem d_M_isPlain_7 : decode b_M_isPlain 7 = .ok (.aload_n 0, 1) := by decide +kernel
theorem d_M_isPlain_8 : decode b_M_isPlain 8 = .ok (.getfield 122, 3) := by decide +kernel
theorem d_M_isPlain_11 : decode b_M_isPlain 11 = .ok (.if_icmp .ge 64, 3) := by decide +kernel
theorem d_M_isPlain_14 : decode b_M_isPlain 14 = .ok (.iload_n 3, 1) := by decide +kernel
theorem d_M_isPlain_15 : decode b_M_isPlain 15 = .ok (.ifCond .ne 60, 3) := by decide +kernel
theorem d_M_isPlain_18 : decode b_M_isPlain 18 = .ok (.aload_n 0, 1) := by decide +kernel
theorem d_M_isPlain_19 : decode b_M_isPlain 19 = .ok (.getfield 23, 3) := by decide +kernel
theorem d_M_isPlain_22 : decode b_M_isPlain 22 = .ok (.iload 4, 2) := by decide +kernel
theorem d_M_isPlain_24 : decode b_M_isPlain 24 = .ok (.iaload, 1) := by decide +kernel
theorem d_M_isPlain_25 : decode b_M_isPlain 25 = .ok (.iload_n 1, 1) := by decide +kernel
theorem d_M_isPlain_26 : decode b_M_isPlain 26 = .ok (.if_icmp .ne 41, 3) := by decide +kernel
theorem d_M_isPlain_29 : decode b_M_isPlain 29 = .ok (.aload_n 0, 1) := by decide +kernel
theorem d_M_isPlain_30 : decode b_M_isPlain 30 = .ok (.getfield 26, 3) := by decide +kernel
theorem d_M_isPlain_33 : decode b_M_isPlain 33 = .ok (.iload 4, 2) := by decide +kernel
theorem d_M_isPlain_35 : decode b_M_isPlain 35 = .ok (.iaload, 1) := by decide +kernel
theorem d_M_isPlain_36 : decode b_M_isPlain 36 = .ok (.iload_n 2, 1) := by decide +kernel
theorem d_M_isPlain_37 : decode b_M_isPlain 37 = .ok (.if_icmp .ne 30, 3) := by decide +kernel
theorem d_M_isPlain_40 : decode b_M_isPlain 40 = .ok (.aload_n 0, 1) := by decide +kernel
theorem d_M_isPlain_41 : decode b_M_isPlain 41 = .ok (.getfield 35, 3) := by decide +kernel
theorem d_M_isPlain_44 : decode b_M_isPlain 44 = .ok (.iload 4, 2) := by decide +kernel
theorem d_M_isPlain_46 : decode b_M_isPlain 46 = .ok (.iaload, 1) := by decide +kernel
theorem d_M_isPlain_47 : decode b_M_isPlain 47 = .ok (.iload_n 1, 1) := by decide +kernel
theorem d_M_isPlain_48 : decode b_M_isPlain 48 = .ok (.invokestatic 61, 3) := by decide +kernel
theorem d_M_isPlain_51 : decode b_M_isPlain 51 = .ok (.if_icmp .ne 16, 3) := by decide +kernel
theorem d_M_isPlain_54 : decode b_M_isPlain 54 = .ok (.aload_n 0, 1) := by decide +kernel
theorem d_M_isPlain_55 : decode b_M_isPlain 55 = .ok (.iload 4, 2) := by decide +kernel
theorem d_M_isPlain_57 : decode b_M_isPlain 57 = .ok (.invokevirtual 157, 3) := by decide +kernel
theorem d_M_isPlain_60 : decode b_M_isPlain 60 = .ok (.ifCond .eq 7, 3) := by decide +kernel
theorem d_M_isPlain_63 : decode b_M_isPlain 63 = .ok (.iconst 1, 1) := by decide +kernel
theorem d_M_isPlain_64 : decode b_M_isPlain 64 = .ok (.goto 4, 3) := by decide +kernel
theorem d_M_isPlain_67 : decode b_M_isPlain 67 = .ok (.iconst 0, 1) := by decide +kernel
theorem d_M_isPlain_68 : decode b_M_isPlain 68 = .ok (.istore_n 3, 1) := by decide +kernel
theorem d_M_isPlain_69 : decode b_M_isPlain 69 = .ok (.iinc 4 1, 3) := by decide +kernel
theorem d_M_isPlain_72 : decode b_M_isPlain 72 = .ok (.goto (-67), 3) := by decide +kernel
theorem d_M_isPlain_75 : decode b_M_isPlain 75 = .ok (.iload_n 3, 1) := by decide +kernel
theorem d_M_isPlain_76 : decode b_M_isPlain 76 = .ok (.ireturn, 1) := by decide +kernel
theorem d_M_tells_0 : decode b_M_tells 0 = .ok (.aload_n 0, 1) := by decide +kernel
theorem d_M_tells_1 : decode b_M_tells 1 = .ok (.iload_n 1, 1) := by decide +kernel
theorem d_M_tells_2 : decode b_M_tells 2 = .ok (.iconst 5, 1) := by decide +kernel
theorem d_M_tells_3 : decode b_M_tells 3 = .ok (.iconst 0, 1) := by decide +kernel
theorem d_M_tells_4 : decode b_M_tells 4 = .ok (.invokevirtual 115, 3) := by decide +kernel
theorem d_M_tells_7 : decode b_M_tells 7 = .ok (.bipush 19, 2) := by decide +kernel
theorem d_M_tells_9 : decode b_M_tells 9 = .ok (.iload_n 2, 1) := by decide +kernel
theorem d_M_tells_10 : decode b_M_tells 10 = .ok (.iadd, 1) := by decide +kernel
theorem d_M_tells_11 : decode b_M_tells 11 = .ok (.ishr, 1) := by decide +kernel
theorem d_M_tells_12 : decode b_M_tells 12 = .ok (.iconst 1, 1) := by decide +kernel
theorem d_M_tells_13 : decode b_M_tells 13 = .ok (.iand, 1) := by decide +kernel
theorem d_M_tells_14 : decode b_M_tells 14 = .ok (.iconst 1, 1) := by decide +kernel
theorem d_M_tells_15 : decode b_M_tells 15 = .ok (.if_icmp .ne 7, 3) := by decide +kernel
theorem d_M_tells_18 : decode b_M_tells 18 = .ok (.iconst 1, 1) := by decide +kernel
theorem d_M_tells_19 : decode b_M_tells 19 = .ok (.goto 4, 3) := by decide +kernel
theorem d_M_tells_22 : decode b_M_tells 22 = .ok (.iconst 0, 1) := by decide +kernel
theorem d_M_tells_23 : decode b_M_tells 23 = .ok (.ireturn, 1) := by decide +kernel
theorem d_M_isCovered_0 : decode b_M_isCovered 0 = .ok (.iconst 0, 1) := by decide +kernel
theorem d_M_isCovered_1 : decode b_M_isCovered 1 = .ok (.istore_n 2, 1) := by decide +kernel
theorem d_M_isCovered_2 : decode b_M_isCovered 2 = .ok (.iconst 0, 1) := by decide +kernel
theorem d_M_isCovered_3 : decode b_M_isCovered 3 = .ok (.istore_n 3, 1) := by decide +kernel
theorem d_M_isCovered_4 : decode b_M_isCovered 4 = .ok (.iload_n 3, 1) := by decide +kernel
theorem d_M_isCovered_5 : decode b_M_isCovered 5 = .ok (.aload_n 0, 1) := by decide +kernel
theorem d_M_isCovered_6 : decode b_M_isCovered 6 = .ok (.getfield 69, 3) := by decide +kernel
theorem d_M_isCovered_9 : decode b_M_isCovered 9 = .ok (.if_icmp .ge 85, 3) := by decide +kernel
theorem d_M_isCovered_12 : decode b_M_isCovered 12 = .ok (.iload_n 2, 1) := by decide +kernel
theorem d_M_isCovered_13 : decode b_M_isCovered 13 = .ok (.ifCond .ne 81, 3) := by decide +kernel
theorem d_M_isCovered_16 : decode b_M_isCovered 16 = .ok (.aload_n 0, 1) := by decide +kernel
theorem d_M_isCovered_17 : decode b_M_isCovered 17 = .ok (.getfield 13, 3) := by decide +kernel
theorem d_M_isCovered_20 : decode b_M_isCovered 20 = .ok (.iload_n 3, 1) := by decide +kernel
theorem d_M_isCovered_21 : decode b_M_isCovered 21 = .ok (.iaload, 1) := by decide +kernel
theorem d_M_isCovered_22 : decode b_M_isCovered 22 = .ok (.iconst 5, 1) := by decide +kernel
theorem d_M_isCovered_23 : decode b_M_isCovered 23 = .ok (.if_icmp .ne 65, 3) := by decide +kernel
theorem d_M_isCovered_26 : decode b_M_isCovered 26 = .ok (.aload_n 0, 1) := by decide +kernel
theorem d_M_isCovered_27 : decode b_M_isCovered 27 = .ok (.getfield 7, 3) := by decide +kernel
theorem d_M_isCovered_30 : decode b_M_isCovered 30 = .ok (.iload_n 3, 1) := by decide +kernel
theorem d_M_isCovered_31 : decode b_M_isCovered 31 = .ok (.iaload, 1) := by decide +kernel
theorem d_M_isCovered_32 : decode b_M_isCovered 32 = .ok (.iload_n 1, 1) := by decide +kernel
theorem d_M_isCovered_33 : decode b_M_isCovered 33 = .ok (.if_icmp .ge 55, 3) := by decide +kernel
theorem d_M_isCovered_36 : decode b_M_isCovered 36 = .ok (.aload_n 0, 1) := by decide +kernel
theorem d_M_isCovered_37 : decode b_M_isCovered 37 = .ok (.aload_n 0, 1) := by decide +kernel
theorem d_M_isCovered_38 : decode b_M_isCovered 38 = .ok (.getfield 7, 3) := by decide +kernel
theorem d_M_isCovered_41 : decode b_M_isCovered 41 = .ok (.iload_n 3, 1) := by decide +kernel
theorem d_M_isCovered_42 : decode b_M_isCovered 42 = .ok (.iaload, 1) := by decide +kernel
theorem d_M_isCovered_43 : decode b_M_isCovered 43 = .ok (.iconst 5, 1) := by decide +kernel
theorem d_M_isCovered_44 : decode b_M_isCovered 44 = .ok (.invokevirtual 160, 3) := by decide +kernel
theorem d_M_isCovered_47 : decode b_M_isCovered 47 = .ok (.ifCond .eq 41, 3) := by decide +kernel
theorem d_M_isCovered_50 : decode b_M_isCovered 50 = .ok (.aload_n 0, 1) := by decide +kernel
theorem d_M_isCovered_51 : decode b_M_isCovered 51 = .ok (.aload_n 0, 1) := by decide +kernel
theorem d_M_isCovered_52 : decode b_M_isCovered 52 = .ok (.getfield 7, 3) := by decide +kernel
theorem d_M_isCovered_55 : decode b_M_isCovered 55 = .ok (.iload_n 3, 1) := by decide +kernel
theorem d_M_isCovered_56 : decode b_M_isCovered 56 = .ok (.iaload, 1) := by decide +kernel
theorem d_M_isCovered_57 : decode b_M_isCovered 57 = .ok (.iconst 5, 1) := by decide +kernel
theorem d_M_isCovered_58 : decode b_M_isCovered 58 = .ok (.iconst 0, 1) := by decide +kernel
theorem d_M_isCovered_59 : decode b_M_isCovered 59 = .ok (.invokevirtual 115, 3) := by decide +kernel
theorem d_M_isCovered_62 : decode b_M_isCovered 62 = .ok (.ldc 77, 2) := by decide +kernel
theorem d_M_isCovered_64 : decode b_M_isCovered 64 = .ok (.iand, 1) := by decide +kernel
theorem d_M_isCovered_65 : decode b_M_isCovered 65 = .ok (.istore 4, 2) := by decide +kernel
theorem d_M_isCovered_67 : decode b_M_isCovered 67 = .ok (.iload_n 1, 1) := by decide +kernel
theorem d_M_isCovered_68 : decode b_M_isCovered 68 = .ok (.iload 4, 2) := by decide +kernel
theorem d_M_isCovered_70 : decode b_M_isCovered 70 = .ok (.if_icmp .lt 12, 3) := by decide +kernel
theorem d_M_isCovered_73 : decode b_M_isCovered 73 = .ok (.iload 4, 2) := by decide +kernel
theorem d_M_isCovered_75 : decode b_M_isCovered 75 = .ok (.aload_n 0, 1) := by decide +kernel
theorem d_M_isCovered_76 : decode b_M_isCovered 76 = .ok (.invokevirtual 138, 3) := by decide +kernel
theorem d_M_isCovered_79 : decode b_M_isCovered 79 = .ok (.if_icmp .ne 7, 3) := by decide +kernel
theorem d_M_isCovered_82 : decode b_M_isCovered 82 = .ok (.iconst 1, 1) := by decide +kernel
theorem d_M_isCovered_83 : decode b_M_isCovered 83 = .ok (.goto 4, 3) := by decide +kernel
theorem d_M_isCovered_86 : decode b_M_isCovered 86 = .ok (.iconst 0, 1) := by decide +kernel
theorem d_M_isCovered_87 : decode b_M_isCovered 87 = .ok (.istore_n 2, 1) := by decide +kernel
theorem d_M_isCovered_88 : decode b_M_isCovered 88 = .ok (.iinc 3 1, 3) := by decide +kernel
theorem d_M_isCovered_91 : decode b_M_isCovered 91 = .ok (.goto (-87), 3) := by decide +kernel
theorem d_M_isCovered_94 : decode b_M_isCovered 94 = .ok (.iload_n 2, 1) := by decide +kernel
theorem d_M_isCovered_95 : decode b_M_isCovered 95 = .ok (.ireturn, 1) := by decide +kernel
theorem d_M_isKnown_0 : decode b_M_isKnown 0 = .ok (.iconst 0, 1) := by decide +kernel
theorem d_M_isKnown_1 : decode b_M_isKnown 1 = .ok (.istore_n 2, 1) := by decide +kernel
theorem d_M_isKnown_2 : decode b_M_isKnown 2 = .ok (.iconst 0, 1) := by decide +kernel
theorem d_M_isKnown_3 : decode b_M_isKnown 3 = .ok (.istore_n 3, 1) := by decide +kernel
theorem d_M_isKnown_4 : decode b_M_isKnown 4 = .ok (.iload_n 3, 1) := by decide +kernel
theorem d_M_isKnown_5 : decode b_M_isKnown 5 = .ok (.aload_n 0, 1) := by decide +kernel
theorem d_M_isKnown_6 : decode b_M_isKnown 6 = .ok (.getfield 69, 3) := by decide +kernel
theorem d_M_isKnown_9 : decode b_M_isKnown 9 = .ok (.if_icmp .ge 78, 3) := by decide +kernel
theorem d_M_isKnown_12 : decode b_M_isKnown 12 = .ok (.iload_n 2, 1) := by decide +kernel
theorem d_M_isKnown_13 : decode b_M_isKnown 13 = .ok (.ifCond .ne 74, 3) := by decide +kernel
theorem d_M_isKnown_16 : decode b_M_isKnown 16 = .ok (.aload_n 0, 1) := by decide +kernel
theorem d_M_isKnown_17 : decode b_M_isKnown 17 = .ok (.getfield 13, 3) := by decide +kernel
theorem d_M_isKnown_20 : decode b_M_isKnown 20 = .ok (.iload_n 3, 1) := by decide +kernel
theorem d_M_isKnown_21 : decode b_M_isKnown 21 = .ok (.iaload, 1) := by decide +kernel
theorem d_M_isKnown_22 : decode b_M_isKnown 22 = .ok (.iconst 5, 1) := by decide +kernel
theorem d_M_isKnown_23 : decode b_M_isKnown 23 = .ok (.if_icmp .ne 30, 3) := by decide +kernel
theorem d_M_isKnown_26 : decode b_M_isKnown 26 = .ok (.aload_n 0, 1) := by decide +kernel
theorem d_M_isKnown_27 : decode b_M_isKnown 27 = .ok (.getfield 7, 3) := by decide +kernel
theorem d_M_isKnown_30 : decode b_M_isKnown 30 = .ok (.iload_n 3, 1) := by decide +kernel
theorem d_M_isKnown_31 : decode b_M_isKnown 31 = .ok (.iaload, 1) := by decide +kernel
theorem d_M_isKnown_32 : decode b_M_isKnown 32 = .ok (.iload_n 1, 1) := by decide +kernel
theorem d_M_isKnown_33 : decode b_M_isKnown 33 = .ok (.if_icmp .eq 16, 3) := by decide +kernel
theorem d_M_isKnown_36 : decode b_M_isKnown 36 = .ok (.iload_n 1, 1) := by decide +kernel
theorem d_M_isKnown_37 : decode b_M_isKnown 37 = .ok (.aload_n 0, 1) := by decide +kernel
theorem d_M_isKnown_38 : decode b_M_isKnown 38 = .ok (.getfield 7, 3) := by decide +kernel
theorem d_M_isKnown_41 : decode b_M_isKnown 41 = .ok (.iload_n 3, 1) := by decide +kernel
theorem d_M_isKnown_42 : decode b_M_isKnown 42 = .ok (.iaload, 1) := by decide +kernel
theorem d_M_isKnown_43 : decode b_M_isKnown 43 = .ok (.invokestatic 151, 3) := by decide +kernel
theorem d_M_isKnown_46 : decode b_M_isKnown 46 = .ok (.ifCond .eq 7, 3) := by decide +kernel
theorem d_M_isKnown_49 : decode b_M_isKnown 49 = .ok (.iconst 1, 1) := by decide +kernel
theorem d_M_isKnown_50 : decode b_M_isKnown 50 = .ok (.goto 4, 3) := by decide +kernel
theorem d_M_isKnown_53 : decode b_M_isKnown 53 = .ok (.iconst 0, 1) := by decide +kernel
theorem d_M_isKnown_54 : decode b_M_isKnown 54 = .ok (.istore 4, 2) := by decide +kernel
theorem d_M_isKnown_56 : decode b_M_isKnown 56 = .ok (.iload 4, 2) := by decide +kernel
theorem d_M_isKnown_58 : decode b_M_isKnown 58 = .ok (.ifCond .eq 21, 3) := by decide +kernel
theorem d_M_isKnown_61 : decode b_M_isKnown 61 = .ok (.aload_n 0, 1) := by decide +kernel
theorem d_M_isKnown_62 : decode b_M_isKnown 62 = .ok (.aload_n 0, 1) := by decide +kernel
theorem d_M_isKnown_63 : decode b_M_isKnown 63 = .ok (.getfield 7, 3) := by decide +kernel
theorem d_M_isKnown_66 : decode b_M_isKnown 66 = .ok (.iload_n 3, 1) := by decide +kernel
theorem d_M_isKnown_67 : decode b_M_isKnown 67 = .ok (.iaload, 1) := by decide +kernel
theorem d_M_isKnown_68 : decode b_M_isKnown 68 = .ok (.iconst 5, 1) := by decide +kernel
theorem d_M_isKnown_69 : decode b_M_isKnown 69 = .ok (.invokevirtual 160, 3) := by decide +kernel
theorem d_M_isKnown_72 : decode b_M_isKnown 72 = .ok (.ifCond .eq 7, 3) := by decide +kernel
theorem d_M_isKnown_75 : decode b_M_isKnown 75 = .ok (.iconst 1, 1) := by decide +kernel
theorem d_M_isKnown_76 : decode b_M_isKnown 76 = .ok (.goto 4, 3) := by decide +kernel
theorem d_M_isKnown_79 : decode b_M_isKnown 79 = .ok (.iconst 0, 1) := by decide +kernel
theorem d_M_isKnown_80 : decode b_M_isKnown 80 = .ok (.istore_n 2, 1) := by decide +kernel
theorem d_M_isKnown_81 : decode b_M_isKnown 81 = .ok (.iinc 3 1, 3) := by decide +kernel
theorem d_M_isKnown_84 : decode b_M_isKnown 84 = .ok (.goto (-80), 3) := by decide +kernel
theorem d_M_isKnown_87 : decode b_M_isKnown 87 = .ok (.iload_n 2, 1) := by decide +kernel
theorem d_M_isKnown_88 : decode b_M_isKnown 88 = .ok (.ireturn, 1) := by decide +kernel
theorem d_M_tryKeys_0 : decode b_M_tryKeys 0 = .ok (.aload_n 0, 1) := by decide +kernel
theorem d_M_tryKeys_1 : decode b_M_tryKeys 1 = .ok (.invokevirtual 138, 3) := by decide +kernel
theorem d_M_tryKeys_4 : decode b_M_tryKeys 4 = .ok (.istore_n 1, 1) := by decide +kernel
theorem d_M_tryKeys_5 : decode b_M_tryKeys 5 = .ok (.aload_n 0, 1) := by decide +kernel
theorem d_M_tryKeys_6 : decode b_M_tryKeys 6 = .ok (.iload_n 1, 1) := by decide +kernel
theorem d_M_tryKeys_7 : decode b_M_tryKeys 7 = .ok (.iconst 4, 1) := by decide +kernel
theorem d_M_tryKeys_8 : decode b_M_tryKeys 8 = .ok (.invokevirtual 92, 3) := by decide +kernel
theorem d_M_tryKeys_11 : decode b_M_tryKeys 11 = .ok (.istore_n 2, 1) := by decide +kernel
theorem d_M_tryKeys_12 : decode b_M_tryKeys 12 = .ok (.aload_n 0, 1) := by decide +kernel
theorem d_M_tryKeys_13 : decode b_M_tryKeys 13 = .ok (.iconst 0, 1) := by decide +kernel
theorem d_M_tryKeys_14 : decode b_M_tryKeys 14 = .ok (.putfield 144, 3) := by decide +kernel
theorem d_M_tryKeys_17 : decode b_M_tryKeys 17 = .ok (.aload_n 0, 1) := by decide +kernel
theorem d_M_tryKeys_18 : decode b_M_tryKeys 18 = .ok (.iconst 0, 1) := by decide +kernel
theorem d_M_tryKeys_19 : decode b_M_tryKeys 19 = .ok (.putfield 163, 3) := by decide +kernel
theorem d_M_tryKeys_22 : decode b_M_tryKeys 22 = .ok (.iload_n 2, 1) := by decide +kernel
theorem d_M_tryKeys_23 : decode b_M_tryKeys 23 = .ok (.ifCond .ne 5, 3) := by decide +kernel
theorem d_M_tryKeys_26 : decode b_M_tryKeys 26 = .ok (.iconst 2, 1) := by decide +kernel
theorem d_M_tryKeys_27 : decode b_M_tryKeys 27 = .ok (.ireturn, 1) := by decide +kernel
theorem d_M_tryKeys_28 : decode b_M_tryKeys 28 = .ok (.iconst 0, 1) := by decide +kernel
theorem d_M_tryKeys_29 : decode b_M_tryKeys 29 = .ok (.istore_n 3, 1) := by decide +kernel
theorem d_M_tryKeys_30 : decode b_M_tryKeys 30 = .ok (.iconst 0, 1) := by decide +kernel
theorem d_M_tryKeys_31 : decode b_M_tryKeys 31 = .ok (.istore 4, 2) := by decide +kernel
theorem d_M_tryKeys_33 : decode b_M_tryKeys 33 = .ok (.iload 4, 2) := by decide +kernel
theorem d_M_tryKeys_35 : decode b_M_tryKeys 35 = .ok (.iload_n 2, 1) := by decide +kernel
theorem d_M_tryKeys_36 : decode b_M_tryKeys 36 = .ok (.if_icmp .ge 34, 3) := by decide +kernel
theorem d_M_tryKeys_39 : decode b_M_tryKeys 39 = .ok (.iload_n 3, 1) := by decide +kernel
theorem d_M_tryKeys_40 : decode b_M_tryKeys 40 = .ok (.ifCond .ne 18, 3) := by decide +kernel
theorem d_M_tryKeys_43 : decode b_M_tryKeys 43 = .ok (.aload_n 0, 1) := by decide +kernel
theorem d_M_tryKeys_44 : decode b_M_tryKeys 44 = .ok (.aload_n 0, 1) := by decide +kernel
theorem d_M_tryKeys_45 : decode b_M_tryKeys 45 = .ok (.iload_n 1, 1) := by decide +kernel
theorem d_M_tryKeys_46 : decode b_M_tryKeys 46 = .ok (.iconst 4, 1) := by decide +kernel
theorem d_M_tryKeys_47 : decode b_M_tryKeys 47 = .ok (.iload 4, 2) := by decide +kernel
theorem d_M_tryKeys_49 : decode b_M_tryKeys 49 = .ok (.invokevirtual 115, 3) := by decide +kernel
theorem d_M_tryKeys_52 : decode b_M_tryKeys 52 = .ok (.invokevirtual 148, 3) := by decide +kernel
theorem d_M_tryKeys_55 : decode b_M_tryKeys 55 = .ok (.ifCond .eq 7, 3) := by decide +kernel
theorem d_M_tryKeys_58 : decode b_M_tryKeys 58 = .ok (.iconst 1, 1) := by decide +kernel
theorem d_M_tryKeys_59 : decode b_M_tryKeys 59 = .ok (.goto 4, 3) := by decide +kernel
theorem d_M_tryKeys_62 : decode b_M_tryKeys 62 = .ok (.iconst 0, 1) := by decide +kernel
theorem d_M_tryKeys_63 : decode b_M_tryKeys 63 = .ok (.istore_n 3, 1) := by decide +kernel
theorem d_M_tryKeys_64 : decode b_M_tryKeys 64 = .ok (.iinc 4 1, 3) := by decide +kernel
theorem d_M_tryKeys_67 : decode b_M_tryKeys 67 = .ok (.goto (-34), 3) := by decide +kernel
theorem d_M_tryKeys_70 : decode b_M_tryKeys 70 = .ok (.iload_n 3, 1) := by decide +kernel
theorem d_M_tryKeys_71 : decode b_M_tryKeys 71 = .ok (.ifCond .ne 5, 3) := by decide +kernel
theorem d_M_tryKeys_74 : decode b_M_tryKeys 74 = .ok (.iconst 3, 1) := by decide +kernel
theorem d_M_tryKeys_75 : decode b_M_tryKeys 75 = .ok (.ireturn, 1) := by decide +kernel
theorem d_M_tryKeys_76 : decode b_M_tryKeys 76 = .ok (.aload_n 0, 1) := by decide +kernel
theorem d_M_tryKeys_77 : decode b_M_tryKeys 77 = .ok (.iload_n 1, 1) := by decide +kernel
theorem d_M_tryKeys_78 : decode b_M_tryKeys 78 = .ok (.iconst 4, 1) := by decide +kernel
theorem d_M_tryKeys_79 : decode b_M_tryKeys 79 = .ok (.invokevirtual 160, 3) := by decide +kernel
theorem d_M_tryKeys_82 : decode b_M_tryKeys 82 = .ok (.ifCond .ne 5, 3) := by decide +kernel
theorem d_M_tryKeys_85 : decode b_M_tryKeys 85 = .ok (.iconst 4, 1) := by decide +kernel
theorem d_M_tryKeys_86 : decode b_M_tryKeys 86 = .ok (.ireturn, 1) := by decide +kernel
theorem d_M_tryKeys_87 : decode b_M_tryKeys 87 = .ok (.aload_n 0, 1) := by decide +kernel
theorem d_M_tryKeys_88 : decode b_M_tryKeys 88 = .ok (.iconst 1, 1) := by decide +kernel
theorem d_M_tryKeys_89 : decode b_M_tryKeys 89 = .ok (.putfield 144, 3) := by decide +kernel
theorem d_M_tryKeys_92 : decode b_M_tryKeys 92 = .ok (.aload_n 0, 1) := by decide +kernel
theorem d_M_tryKeys_93 : decode b_M_tryKeys 93 = .ok (.iload_n 2, 1) := by decide +kernel
theorem d_M_tryKeys_94 : decode b_M_tryKeys 94 = .ok (.putfield 163, 3) := by decide +kernel
theorem d_M_tryKeys_97 : decode b_M_tryKeys 97 = .ok (.iconst 0, 1) := by decide +kernel
theorem d_M_tryKeys_98 : decode b_M_tryKeys 98 = .ok (.ireturn, 1) := by decide +kernel
theorem d_M_nextCut_0 : decode b_M_nextCut 0 = .ok (.iload_n 2, 1) := by decide +kernel
theorem d_M_nextCut_1 : decode b_M_nextCut 1 = .ok (.iconst 3, 1) := by decide +kernel
theorem d_M_nextCut_2 : decode b_M_nextCut 2 = .ok (.if_icmp .ne 12, 3) := by decide +kernel
theorem d_M_nextCut_5 : decode b_M_nextCut 5 = .ok (.iload_n 1, 1) := by decide +kernel
theorem d_M_nextCut_6 : decode b_M_nextCut 6 = .ok (.invokestatic 61, 3) := by decide +kernel
theorem d_M_nextCut_9 : decode b_M_nextCut 9 = .ok (.iconst 1, 1) := by decide +kernel
theorem d_M_nextCut_10 : decode b_M_nextCut 10 = .ok (.isub, 1) := by decide +kernel
theorem d_M_nextCut_11 : decode b_M_nextCut 11 = .ok (.goto 7, 3) := by decide +kernel
theorem d_M_nextCut_14 : decode b_M_nextCut 14 = .ok (.iload_n 1, 1) := by decide +kernel
theorem d_M_nextCut_15 : decode b_M_nextCut 15 = .ok (.invokestatic 61, 3) := by decide +kernel
theorem d_M_nextCut_18 : decode b_M_nextCut 18 = .ok (.istore_n 3, 1) := by decide +kernel
theorem d_M_nextCut_19 : decode b_M_nextCut 19 = .ok (.aload_n 0, 1) := by decide +kernel
theorem d_M_nextCut_20 : decode b_M_nextCut 20 = .ok (.invokevirtual 138, 3) := by decide +kernel
theorem d_M_nextCut_23 : decode b_M_nextCut 23 = .ok (.invokestatic 61, 3) := by decide +kernel
theorem d_M_nextCut_26 : decode b_M_nextCut 26 = .ok (.iconst 1, 1) := by decide +kernel
theorem d_M_nextCut_27 : decode b_M_nextCut 27 = .ok (.iadd, 1) := by decide +kernel
theorem d_M_nextCut_28 : decode b_M_nextCut 28 = .ok (.istore 4, 2) := by decide +kernel
theorem d_M_nextCut_30 : decode b_M_nextCut 30 = .ok (.iload 4, 2) := by decide +kernel
theorem d_M_nextCut_32 : decode b_M_nextCut 32 = .ok (.iload_n 3, 1) := by decide +kernel
theorem d_M_nextCut_33 : decode b_M_nextCut 33 = .ok (.if_icmp .gt 30, 3) := by decide +kernel
theorem d_M_nextCut_36 : decode b_M_nextCut 36 = .ok (.aload_n 0, 1) := by decide +kernel
theorem d_M_nextCut_37 : decode b_M_nextCut 37 = .ok (.iload_n 1, 1) := by decide +kernel
theorem d_M_nextCut_38 : decode b_M_nextCut 38 = .ok (.iload 4, 2) := by decide +kernel
theorem d_M_nextCut_40 : decode b_M_nextCut 40 = .ok (.invokestatic 65, 3) := by decide +kernel
theorem d_M_nextCut_43 : decode b_M_nextCut 43 = .ok (.iconst 2, 1) := by decide +kernel
theorem d_M_nextCut_44 : decode b_M_nextCut 44 = .ok (.invokevirtual 92, 3) := by decide +kernel
theorem d_M_nextCut_47 : decode b_M_nextCut 47 = .ok (.ifCond .le 10, 3) := by decide +kernel
theorem d_M_nextCut_50 : decode b_M_nextCut 50 = .ok (.iload_n 1, 1) := by decide +kernel
theorem d_M_nextCut_51 : decode b_M_nextCut 51 = .ok (.iload 4, 2) := by decide +kernel
theorem d_M_nextCut_53 : decode b_M_nextCut 53 = .ok (.invokestatic 65, 3) := by decide +kernel
theorem d_M_nextCut_56 : decode b_M_nextCut 56 = .ok (.ireturn, 1) := by decide +kernel
theorem d_M_nextCut_57 : decode b_M_nextCut 57 = .ok (.iinc 4 1, 3) := by decide +kernel
theorem d_M_nextCut_60 : decode b_M_nextCut 60 = .ok (.goto (-30), 3) := by decide +kernel
theorem d_M_nextCut_63 : decode b_M_nextCut 63 = .ok (.iconst (-1), 1) := by decide +kernel
theorem d_M_nextCut_64 : decode b_M_nextCut 64 = .ok (.ireturn, 1) := by decide +kernel
theorem d_M_tryCut_0 : decode b_M_tryCut 0 = .ok (.aload_n 0, 1) := by decide +kernel
theorem d_M_tryCut_1 : decode b_M_tryCut 1 = .ok (.iload_n 1, 1) := by decide +kernel
theorem d_M_tryCut_2 : decode b_M_tryCut 2 = .ok (.iconst 3, 1) := by decide +kernel
theorem d_M_tryCut_3 : decode b_M_tryCut 3 = .ok (.invokevirtual 92, 3) := by decide +kernel
theorem d_M_tryCut_6 : decode b_M_tryCut 6 = .ok (.ifCond .le 18, 3) := by decide +kernel
theorem d_M_tryCut_9 : decode b_M_tryCut 9 = .ok (.aload_n 0, 1) := by decide +kernel
theorem d_M_tryCut_10 : decode b_M_tryCut 10 = .ok (.iload_n 1, 1) := by decide +kernel
theorem d_M_tryCut_11 : decode b_M_tryCut 11 = .ok (.iconst 3, 1) := by decide +kernel
theorem d_M_tryCut_12 : decode b_M_tryCut 12 = .ok (.invokevirtual 160, 3) := by decide +kernel
theorem d_M_tryCut_15 : decode b_M_tryCut 15 = .ok (.ifCond .eq 7, 3) := by decide +kernel
theorem d_M_tryCut_18 : decode b_M_tryCut 18 = .ok (.iconst 0, 1) := by decide +kernel
theorem d_M_tryCut_19 : decode b_M_tryCut 19 = .ok (.goto 4, 3) := by decide +kernel
theorem d_M_tryCut_22 : decode b_M_tryCut 22 = .ok (.iconst 5, 1) := by decide +kernel
theorem d_M_tryCut_23 : decode b_M_tryCut 23 = .ok (.ireturn, 1) := by decide +kernel
theorem d_M_tryCut_24 : decode b_M_tryCut 24 = .ok (.aload_n 0, 1) := by decide +kernel
theorem d_M_tryCut_25 : decode b_M_tryCut 25 = .ok (.iload_n 1, 1) := by decide +kernel
theorem d_M_tryCut_26 : decode b_M_tryCut 26 = .ok (.iconst 5, 1) := by decide +kernel
theorem d_M_tryCut_27 : decode b_M_tryCut 27 = .ok (.invokevirtual 92, 3) := by decide +kernel
theorem d_M_tryCut_30 : decode b_M_tryCut 30 = .ok (.ifCond .le 16, 3) := by decide +kernel
theorem d_M_tryCut_33 : decode b_M_tryCut 33 = .ok (.aload_n 0, 1) := by decide +kernel
theorem d_M_tryCut_34 : decode b_M_tryCut 34 = .ok (.iload_n 1, 1) := by decide +kernel
theorem d_M_tryCut_35 : decode b_M_tryCut 35 = .ok (.iconst 5, 1) := by decide +kernel
theorem d_M_tryCut_36 : decode b_M_tryCut 36 = .ok (.invokevirtual 160, 3) := by decide +kernel
theorem d_M_tryCut_39 : decode b_M_tryCut 39 = .ok (.ifCond .eq 7, 3) := by decide +kernel
theorem d_M_tryCut_42 : decode b_M_tryCut 42 = .ok (.iconst 1, 1) := by decide +kernel
theorem d_M_tryCut_43 : decode b_M_tryCut 43 = .ok (.goto 4, 3) := by decide +kernel
theorem d_M_tryCut_46 : decode b_M_tryCut 46 = .ok (.iconst 0, 1) := by decide +kernel
theorem d_M_tryCut_47 : decode b_M_tryCut 47 = .ok (.istore_n 2, 1) := by decide +kernel
theorem d_M_tryCut_48 : decode b_M_tryCut 48 = .ok (.iload_n 2, 1) := by decide +kernel
theorem d_M_tryCut_49 : decode b_M_tryCut 49 = .ok (.ifCond .eq 26, 3) := by decide +kernel
theorem d_M_tryCut_52 : decode b_M_tryCut 52 = .ok (.aload_n 0, 1) := by decide +kernel
theorem d_M_tryCut_53 : decode b_M_tryCut 53 = .ok (.iload_n 1, 1) := by decide +kernel
theorem d_M_tryCut_54 : decode b_M_tryCut 54 = .ok (.iconst 2, 1) := by decide +kernel
theorem d_M_tryCut_55 : decode b_M_tryCut 55 = .ok (.invokevirtual 166, 3) := by decide +kernel
theorem d_M_tryCut_58 : decode b_M_tryCut 58 = .ok (.ifCond .eq 17, 3) := by decide +kernel
theorem d_M_tryCut_61 : decode b_M_tryCut 61 = .ok (.aload_n 0, 1) := by decide +kernel
theorem d_M_tryCut_62 : decode b_M_tryCut 62 = .ok (.iload_n 1, 1) := by decide +kernel
theorem d_M_tryCut_63 : decode b_M_tryCut 63 = .ok (.iconst 3, 1) := by decide +kernel
theorem d_M_tryCut_64 : decode b_M_tryCut 64 = .ok (.invokevirtual 166, 3) := by decide +kernel
theorem d_M_tryCut_67 : decode b_M_tryCut 67 = .ok (.ifCond .ne 8, 3) := by decide +kernel
theorem d_M_tryCut_70 : decode b_M_tryCut 70 = .ok (.bipush 6, 2) := by decide +kernel
theorem d_M_tryCut_72 : decode b_M_tryCut 72 = .ok (.goto 5, 3) := by decide +kernel
theorem d_M_tryCut_75 : decode b_M_tryCut 75 = .ok (.bipush 7, 2) := by decide +kernel
theorem d_M_tryCut_77 : decode b_M_tryCut 77 = .ok (.ireturn, 1) := by decide +kernel
theorem d_M_tryAnswers_0 : decode b_M_tryAnswers 0 = .ok (.aload_n 0, 1) := by decide +kernel
theorem d_M_tryAnswers_1 : decode b_M_tryAnswers 1 = .ok (.iload_n 1, 1) := by decide +kernel
theorem d_M_tryAnswers_2 : decode b_M_tryAnswers 2 = .ok (.iload_n 2, 1) := by decide +kernel
theorem d_M_tryAnswers_3 : decode b_M_tryAnswers 3 = .ok (.invokevirtual 92, 3) := by decide +kernel
theorem d_M_tryAnswers_6 : decode b_M_tryAnswers 6 = .ok (.ifCond .le 89, 3) := by decide +kernel
theorem d_M_tryAnswers_9 : decode b_M_tryAnswers 9 = .ok (.aload_n 0, 1) := by decide +kernel
theorem d_M_tryAnswers_10 : decode b_M_tryAnswers 10 = .ok (.iload_n 1, 1) := by decide +kernel
theorem d_M_tryAnswers_11 : decode b_M_tryAnswers 11 = .ok (.iload_n 2, 1) := by decide +kernel
theorem d_M_tryAnswers_12 : decode b_M_tryAnswers 12 = .ok (.invokevirtual 160, 3) := by decide +kernel
theorem d_M_tryAnswers_15 : decode b_M_tryAnswers 15 = .ok (.ifCond .eq 6, 3) := by decide +kernel
theorem d_M_tryAnswers_18 : decode b_M_tryAnswers 18 = .ok (.bipush 8, 2) := by decide +kernel
theorem d_M_tryAnswers_20 : decode b_M_tryAnswers 20 = .ok (.ireturn, 1) := by decide +kernel
theorem d_M_tryAnswers_21 : decode b_M_tryAnswers 21 = .ok (.iconst 0, 1) := by decide +kernel
theorem d_M_tryAnswers_22 : decode b_M_tryAnswers 22 = .ok (.istore_n 3, 1) := by decide +kernel
theorem d_M_tryAnswers_23 : decode b_M_tryAnswers 23 = .ok (.iload_n 3, 1) := by decide +kernel
theorem d_M_tryAnswers_24 : decode b_M_tryAnswers 24 = .ok (.aload_n 0, 1) := by decide +kernel
theorem d_M_tryAnswers_25 : decode b_M_tryAnswers 25 = .ok (.getfield 122, 3) := by decide +kernel
theorem d_M_tryAnswers_28 : decode b_M_tryAnswers 28 = .ok (.if_icmp .ge 64, 3) := by decide +kernel
theorem d_M_tryAnswers_31 : decode b_M_tryAnswers 31 = .ok (.aload_n 0, 1) := by decide +kernel
theorem d_M_tryAnswers_32 : decode b_M_tryAnswers 32 = .ok (.getfield 23, 3) := by decide +kernel
theorem d_M_tryAnswers_35 : decode b_M_tryAnswers 35 = .ok (.iload_n 3, 1) := by decide +kernel
theorem d_M_tryAnswers_36 : decode b_M_tryAnswers 36 = .ok (.iaload, 1) := by decide +kernel
theorem d_M_tryAnswers_37 : decode b_M_tryAnswers 37 = .ok (.iload_n 1, 1) := by decide +kernel
theorem d_M_tryAnswers_38 : decode b_M_tryAnswers 38 = .ok (.if_icmp .ne 48, 3) := by decide +kernel
theorem d_M_tryAnswers_41 : decode b_M_tryAnswers 41 = .ok (.aload_n 0, 1) := by decide +kernel
theorem d_M_tryAnswers_42 : decode b_M_tryAnswers 42 = .ok (.getfield 26, 3) := by decide +kernel
theorem d_M_tryAnswers_45 : decode b_M_tryAnswers 45 = .ok (.iload_n 3, 1) := by decide +kernel
theorem d_M_tryAnswers_46 : decode b_M_tryAnswers 46 = .ok (.iaload, 1) := by decide +kernel
theorem d_M_tryAnswers_47 : decode b_M_tryAnswers 47 = .ok (.iload_n 2, 1) := by decide +kernel
theorem d_M_tryAnswers_48 : decode b_M_tryAnswers 48 = .ok (.if_icmp .ne 38, 3) := by decide +kernel
theorem d_M_tryAnswers_51 : decode b_M_tryAnswers 51 = .ok (.aload_n 0, 1) := by decide +kernel
theorem d_M_tryAnswers_52 : decode b_M_tryAnswers 52 = .ok (.iload_n 3, 1) := by decide +kernel
theorem d_M_tryAnswers_53 : decode b_M_tryAnswers 53 = .ok (.invokevirtual 157, 3) := by decide +kernel
theorem d_M_tryAnswers_56 : decode b_M_tryAnswers 56 = .ok (.ifCond .eq 30, 3) := by decide +kernel
theorem d_M_tryAnswers_59 : decode b_M_tryAnswers 59 = .ok (.aload_n 0, 1) := by decide +kernel
theorem d_M_tryAnswers_60 : decode b_M_tryAnswers 60 = .ok (.iload_n 1, 1) := by decide +kernel
theorem d_M_tryAnswers_61 : decode b_M_tryAnswers 61 = .ok (.aload_n 0, 1) := by decide +kernel
theorem d_M_tryAnswers_62 : decode b_M_tryAnswers 62 = .ok (.getfield 35, 3) := by decide +kernel
theorem d_M_tryAnswers_65 : decode b_M_tryAnswers 65 = .ok (.iload_n 3, 1) := by decide +kernel
theorem d_M_tryAnswers_66 : decode b_M_tryAnswers 66 = .ok (.iaload, 1) := by decide +kernel
theorem d_M_tryAnswers_67 : decode b_M_tryAnswers 67 = .ok (.iconst 1, 1) := by decide +kernel
theorem d_M_tryAnswers_68 : decode b_M_tryAnswers 68 = .ok (.iadd, 1) := by decide +kernel
theorem d_M_tryAnswers_69 : decode b_M_tryAnswers 69 = .ok (.invokestatic 65, 3) := by decide +kernel
theorem d_M_tryAnswers_72 : decode b_M_tryAnswers 72 = .ok (.invokevirtual 169, 3) := by decide +kernel
theorem d_M_tryAnswers_75 : decode b_M_tryAnswers 75 = .ok (.ifCond .eq 8, 3) := by decide +kernel
theorem d_M_tryAnswers_78 : decode b_M_tryAnswers 78 = .ok (.bipush 9, 2) := by decide +kernel
theorem d_M_tryAnswers_80 : decode b_M_tryAnswers 80 = .ok (.goto 5, 3) := by decide +kernel
theorem d_M_tryAnswers_83 : decode b_M_tryAnswers 83 = .ok (.bipush 10, 2) := by decide +kernel
theorem d_M_tryAnswers_85 : decode b_M_tryAnswers 85 = .ok (.ireturn, 1) := by decide +kernel
theorem d_M_tryAnswers_86 : decode b_M_tryAnswers 86 = .ok (.iinc 3 1, 3) := by decide +kernel
theorem d_M_tryAnswers_89 : decode b_M_tryAnswers 89 = .ok (.goto (-66), 3) := by decide +kernel
theorem d_M_tryAnswers_92 : decode b_M_tryAnswers 92 = .ok (.bipush 11, 2) := by decide +kernel
theorem d_M_tryAnswers_94 : decode b_M_tryAnswers 94 = .ok (.ireturn, 1) := by decide +kernel
theorem d_M_tryAnswers_95 : decode b_M_tryAnswers 95 = .ok (.aload_n 0, 1) := by decide +kernel
theorem d_M_tryAnswers_96 : decode b_M_tryAnswers 96 = .ok (.iload_n 1, 1) := by decide +kernel
theorem d_M_tryAnswers_97 : decode b_M_tryAnswers 97 = .ok (.iconst 5, 1) := by decide +kernel
theorem d_M_tryAnswers_98 : decode b_M_tryAnswers 98 = .ok (.invokevirtual 92, 3) := by decide +kernel
theorem d_M_tryAnswers_101 : decode b_M_tryAnswers 101 = .ok (.ifCond .le 29, 3) := by decide +kernel
theorem d_M_tryAnswers_104 : decode b_M_tryAnswers 104 = .ok (.aload_n 0, 1) := by decide +kernel
theorem d_M_tryAnswers_105 : decode b_M_tryAnswers 105 = .ok (.iload_n 1, 1) := by decide +kernel
theorem d_M_tryAnswers_106 : decode b_M_tryAnswers 106 = .ok (.iconst 5, 1) := by decide +kernel
theorem d_M_tryAnswers_107 : decode b_M_tryAnswers 107 = .ok (.invokevirtual 160, 3) := by decide +kernel
theorem d_M_tryAnswers_110 : decode b_M_tryAnswers 110 = .ok (.ifCond .eq 20, 3) := by decide +kernel
theorem d_M_tryAnswers_113 : decode b_M_tryAnswers 113 = .ok (.aload_n 0, 1) := by decide +kernel
theorem d_M_tryAnswers_114 : decode b_M_tryAnswers 114 = .ok (.iload_n 1, 1) := by decide +kernel
theorem d_M_tryAnswers_115 : decode b_M_tryAnswers 115 = .ok (.iload_n 2, 1) := by decide +kernel
theorem d_M_tryAnswers_116 : decode b_M_tryAnswers 116 = .ok (.invokevirtual 166, 3) := by decide +kernel
theorem d_M_tryAnswers_119 : decode b_M_tryAnswers 119 = .ok (.ifCond .eq 8, 3) := by decide +kernel
theorem d_M_tryAnswers_122 : decode b_M_tryAnswers 122 = .ok (.bipush 13, 2) := by decide +kernel
theorem d_M_tryAnswers_124 : decode b_M_tryAnswers 124 = .ok (.goto 5, 3) := by decide +kernel
theorem d_M_tryAnswers_127 : decode b_M_tryAnswers 127 = .ok (.bipush 12, 2) := by decide +kernel
theorem d_M_tryAnswers_129 : decode b_M_tryAnswers 129 = .ok (.ireturn, 1) := by decide +kernel
theorem d_M_tryAnswers_130 : decode b_M_tryAnswers 130 = .ok (.iload_n 1, 1) := by decide +kernel
theorem d_M_tryAnswers_131 : decode b_M_tryAnswers 131 = .ok (.aload_n 0, 1) := by decide +kernel
theorem d_M_tryAnswers_132 : decode b_M_tryAnswers 132 = .ok (.invokevirtual 138, 3) := by decide +kernel
theorem d_M_tryAnswers_135 : decode b_M_tryAnswers 135 = .ok (.if_icmp .ne 6, 3) := by decide +kernel
theorem d_M_tryAnswers_138 : decode b_M_tryAnswers 138 = .ok (.bipush 14, 2) := by decide +kernel
theorem d_M_tryAnswers_140 : decode b_M_tryAnswers 140 = .ok (.ireturn, 1) := by decide +kernel
theorem d_M_tryAnswers_141 : decode b_M_tryAnswers 141 = .ok (.iload_n 1, 1) := by decide +kernel
theorem d_M_tryAnswers_142 : decode b_M_tryAnswers 142 = .ok (.invokestatic 61, 3) := by decide +kernel
theorem d_M_tryAnswers_145 : decode b_M_tryAnswers 145 = .ok (.iconst 1, 1) := by decide +kernel
theorem d_M_tryAnswers_146 : decode b_M_tryAnswers 146 = .ok (.isub, 1) := by decide +kernel
theorem d_M_tryAnswers_147 : decode b_M_tryAnswers 147 = .ok (.istore_n 3, 1) := by decide +kernel
theorem d_M_tryAnswers_148 : decode b_M_tryAnswers 148 = .ok (.iload_n 3, 1) := by decide +kernel
theorem d_M_tryAnswers_149 : decode b_M_tryAnswers 149 = .ok (.aload_n 0, 1) := by decide +kernel
theorem d_M_tryAnswers_150 : decode b_M_tryAnswers 150 = .ok (.invokevirtual 138, 3) := by decide +kernel
theorem d_M_tryAnswers_153 : decode b_M_tryAnswers 153 = .ok (.invokestatic 61, 3) := by decide +kernel
theorem d_M_tryAnswers_156 : decode b_M_tryAnswers 156 = .ok (.if_icmp .le 21, 3) := by decide +kernel
theorem d_M_tryAnswers_159 : decode b_M_tryAnswers 159 = .ok (.aload_n 0, 1) := by decide +kernel
theorem d_M_tryAnswers_160 : decode b_M_tryAnswers 160 = .ok (.iload_n 1, 1) := by decide +kernel
theorem d_M_tryAnswers_161 : decode b_M_tryAnswers 161 = .ok (.iload_n 3, 1) := by decide +kernel
theorem d_M_tryAnswers_162 : decode b_M_tryAnswers 162 = .ok (.invokestatic 65, 3) := by decide +kernel
theorem d_M_tryAnswers_165 : decode b_M_tryAnswers 165 = .ok (.invokevirtual 172, 3) := by decide +kernel
theorem d_M_tryAnswers_168 : decode b_M_tryAnswers 168 = .ok (.ifCond .ne 9, 3) := by decide +kernel
theorem d_M_tryAnswers_171 : decode b_M_tryAnswers 171 = .ok (.iinc 3 (-1), 3) := by decide +kernel
theorem d_M_tryAnswers_174 : decode b_M_tryAnswers 174 = .ok (.goto (-26), 3) := by decide +kernel
theorem d_M_tryAnswers_177 : decode b_M_tryAnswers 177 = .ok (.iload_n 1, 1) := by decide +kernel
theorem d_M_tryAnswers_178 : decode b_M_tryAnswers 178 = .ok (.iload_n 3, 1) := by decide +kernel
theorem d_M_tryAnswers_179 : decode b_M_tryAnswers 179 = .ok (.invokestatic 65, 3) := by decide +kernel
theorem d_M_tryAnswers_182 : decode b_M_tryAnswers 182 = .ok (.istore 4, 2) := by decide +kernel
theorem d_M_tryAnswers_184 : decode b_M_tryAnswers 184 = .ok (.aload_n 0, 1) := by decide +kernel
theorem d_M_tryAnswers_185 : decode b_M_tryAnswers 185 = .ok (.iload_n 1, 1) := by decide +kernel
theorem d_M_tryAnswers_186 : decode b_M_tryAnswers 186 = .ok (.iload_n 3, 1) := by decide +kernel
theorem d_M_tryAnswers_187 : decode b_M_tryAnswers 187 = .ok (.iconst 1, 1) := by decide +kernel
theorem d_M_tryAnswers_188 : decode b_M_tryAnswers 188 = .ok (.iadd, 1) := by decide +kernel
theorem d_M_tryAnswers_189 : decode b_M_tryAnswers 189 = .ok (.invokestatic 65, 3) := by decide +kernel
theorem d_M_tryAnswers_192 : decode b_M_tryAnswers 192 = .ok (.invokevirtual 169, 3) := by decide +kernel
theorem d_M_tryAnswers_195 : decode b_M_tryAnswers 195 = .ok (.ifCond .ne 6, 3) := by decide +kernel
theorem d_M_tryAnswers_198 : decode b_M_tryAnswers 198 = .ok (.bipush 14, 2) := by decide +kernel
theorem d_M_tryAnswers_200 : decode b_M_tryAnswers 200 = .ok (.ireturn, 1) := by decide +kernel
theorem d_M_tryAnswers_201 : decode b_M_tryAnswers 201 = .ok (.iload 4, 2) := by decide +kernel
theorem d_M_tryAnswers_203 : decode b_M_tryAnswers 203 = .ok (.invokestatic 112, 3) := by decide +kernel
theorem d_M_tryAnswers_206 : decode b_M_tryAnswers 206 = .ok (.istore 5, 2) := by decide +kernel
theorem d_M_tryAnswers_208 : decode b_M_tryAnswers 208 = .ok (.aload_n 0, 1) := by decide +kernel
theorem d_M_tryAnswers_209 : decode b_M_tryAnswers 209 = .ok (.iload 5, 2) := by decide +kernel
theorem d_M_tryAnswers_211 : decode b_M_tryAnswers 211 = .ok (.invokevirtual 169, 3) := by decide +kernel
theorem d_M_tryAnswers_214 : decode b_M_tryAnswers 214 = .ok (.ifCond .eq 6, 3) := by decide +kernel
theorem d_M_tryAnswers_217 : decode b_M_tryAnswers 217 = .ok (.bipush 15, 2) := by decide +kernel
theorem d_M_tryAnswers_219 : decode b_M_tryAnswers 219 = .ok (.ireturn, 1) := by decide +kernel
theorem d_M_tryAnswers_220 : decode b_M_tryAnswers 220 = .ok (.aload_n 0, 1) := by decide +kernel
theorem d_M_tryAnswers_221 : decode b_M_tryAnswers 221 = .ok (.iload 5, 2) := by decide +kernel
theorem d_M_tryAnswers_223 : decode b_M_tryAnswers 223 = .ok (.iconst 5, 1) := by decide +kernel
theorem d_M_tryAnswers_224 : decode b_M_tryAnswers 224 = .ok (.invokevirtual 92, 3) := by decide +kernel
theorem d_M_tryAnswers_227 : decode b_M_tryAnswers 227 = .ok (.ifCond .le 28, 3) := by decide +kernel
theorem d_M_tryAnswers_230 : decode b_M_tryAnswers 230 = .ok (.aload_n 0, 1) := by decide +kernel
theorem d_M_tryAnswers_231 : decode b_M_tryAnswers 231 = .ok (.iload 5, 2) := by decide +kernel
theorem d_M_tryAnswers_233 : decode b_M_tryAnswers 233 = .ok (.iconst 5, 1) := by decide +kernel
theorem d_M_tryAnswers_234 : decode b_M_tryAnswers 234 = .ok (.invokevirtual 160, 3) := by decide +kernel
theorem d_M_tryAnswers_237 : decode b_M_tryAnswers 237 = .ok (.ifCond .eq 18, 3) := by decide +kernel
theorem d_M_tryAnswers_240 : decode b_M_tryAnswers 240 = .ok (.aload_n 0, 1) := by decide +kernel
theorem d_M_tryAnswers_241 : decode b_M_tryAnswers 241 = .ok (.iload 5, 2) := by decide +kernel
theorem d_M_tryAnswers_243 : decode b_M_tryAnswers 243 = .ok (.iload_n 2, 1) := by decide +kernel
theorem d_M_tryAnswers_244 : decode b_M_tryAnswers 244 = .ok (.invokevirtual 166, 3) := by decide +kernel
theorem d_M_tryAnswers_247 : decode b_M_tryAnswers 247 = .ok (.ifCond .ne 8, 3) := by decide +kernel
theorem d_M_tryAnswers_250 : decode b_M_tryAnswers 250 = .ok (.bipush 16, 2) := by decide +kernel
theorem d_M_tryAnswers_252 : decode b_M_tryAnswers 252 = .ok (.goto 5, 3) := by decide +kernel
theorem d_M_tryAnswers_255 : decode b_M_tryAnswers 255 = .ok (.bipush 17, 2) := by decide +kernel
theorem d_M_tryAnswers_257 : decode b_M_tryAnswers 257 = .ok (.ireturn, 1) := by decide +kernel
theorem d_M_resolve_0 : decode b_M_resolve 0 = .ok (.iconst (-1), 1) := by decide +kernel
theorem d_M_resolve_1 : decode b_M_resolve 1 = .ok (.istore_n 3, 1) := by decide +kernel
theorem d_M_resolve_2 : decode b_M_resolve 2 = .ok (.iconst 0, 1) := by decide +kernel
theorem d_M_resolve_3 : decode b_M_resolve 3 = .ok (.istore 4, 2) := by decide +kernel
theorem d_M_resolve_5 : decode b_M_resolve 5 = .ok (.iload 4, 2) := by decide +kernel
theorem d_M_resolve_7 : decode b_M_resolve 7 = .ok (.aload_n 0, 1) := by decide +kernel
theorem d_M_resolve_8 : decode b_M_resolve 8 = .ok (.getfield 128, 3) := by decide +kernel
theorem d_M_resolve_11 : decode b_M_resolve 11 = .ok (.if_icmp .ge 79, 3) := by decide +kernel
theorem d_M_resolve_14 : decode b_M_resolve 14 = .ok (.aload_n 0, 1) := by decide +kernel
theorem d_M_resolve_15 : decode b_M_resolve 15 = .ok (.getfield 47, 3) := by decide +kernel
theorem d_M_resolve_18 : decode b_M_resolve 18 = .ok (.iload 4, 2) := by decide +kernel
theorem d_M_resolve_20 : decode b_M_resolve 20 = .ok (.iaload, 1) := by decide +kernel
theorem d_M_resolve_21 : decode b_M_resolve 21 = .ok (.iload_n 1, 1) := by decide +kernel
theorem d_M_resolve_22 : decode b_M_resolve 22 = .ok (.if_icmp .eq 17, 3) := by decide +kernel
theorem d_M_resolve_25 : decode b_M_resolve 25 = .ok (.aload_n 0, 1) := by decide +kernel
theorem d_M_resolve_26 : decode b_M_resolve 26 = .ok (.getfield 47, 3) := by decide +kernel
theorem d_M_resolve_29 : decode b_M_resolve 29 = .ok (.iload 4, 2) := by decide +kernel
theorem d_M_resolve_31 : decode b_M_resolve 31 = .ok (.iaload, 1) := by decide +kernel
theorem d_M_resolve_32 : decode b_M_resolve 32 = .ok (.iload_n 1, 1) := by decide +kernel
theorem d_M_resolve_33 : decode b_M_resolve 33 = .ok (.invokestatic 151, 3) := by decide +kernel
theorem d_M_resolve_36 : decode b_M_resolve 36 = .ok (.ifCond .eq 7, 3) := by decide +kernel
theorem d_M_resolve_39 : decode b_M_resolve 39 = .ok (.iconst 1, 1) := by decide +kernel
theorem d_M_resolve_40 : decode b_M_resolve 40 = .ok (.goto 4, 3) := by decide +kernel
theorem d_M_resolve_43 : decode b_M_resolve 43 = .ok (.iconst 0, 1) := by decide +kernel
theorem d_M_resolve_44 : decode b_M_resolve 44 = .ok (.istore 5, 2) := by decide +kernel
theorem d_M_resolve_46 : decode b_M_resolve 46 = .ok (.iload 5, 2) := by decide +kernel
theorem d_M_resolve_48 : decode b_M_resolve 48 = .ok (.ifCond .eq 34, 3) := by decide +kernel
theorem d_M_resolve_51 : decode b_M_resolve 51 = .ok (.iload_n 3, 1) := by decide +kernel
theorem d_M_resolve_52 : decode b_M_resolve 52 = .ok (.ifCond .lt 25, 3) := by decide +kernel
theorem d_M_resolve_55 : decode b_M_resolve 55 = .ok (.aload_n 0, 1) := by decide +kernel
theorem d_M_resolve_56 : decode b_M_resolve 56 = .ok (.getfield 47, 3) := by decide +kernel
theorem d_M_resolve_59 : decode b_M_resolve 59 = .ok (.iload 4, 2) := by decide +kernel
theorem d_M_resolve_61 : decode b_M_resolve 61 = .ok (.iaload, 1) := by decide +kernel
theorem d_M_resolve_62 : decode b_M_resolve 62 = .ok (.invokestatic 61, 3) := by decide +kernel
theorem d_M_resolve_65 : decode b_M_resolve 65 = .ok (.aload_n 0, 1) := by decide +kernel
theorem d_M_resolve_66 : decode b_M_resolve 66 = .ok (.getfield 47, 3) := by decide +kernel
theorem d_M_resolve_69 : decode b_M_resolve 69 = .ok (.iload_n 3, 1) := by decide +kernel
theorem d_M_resolve_70 : decode b_M_resolve 70 = .ok (.iaload, 1) := by decide +kernel
theorem d_M_resolve_71 : decode b_M_resolve 71 = .ok (.invokestatic 61, 3) := by decide +kernel
theorem d_M_resolve_74 : decode b_M_resolve 74 = .ok (.if_icmp .le 8, 3) := by decide +kernel
theorem d_M_resolve_77 : decode b_M_resolve 77 = .ok (.iload 4, 2) := by decide +kernel
theorem d_M_resolve_79 : decode b_M_resolve 79 = .ok (.goto 4, 3) := by decide +kernel
theorem d_M_resolve_82 : decode b_M_resolve 82 = .ok (.iload_n 3, 1) := by decide +kernel
theorem d_M_resolve_83 : decode b_M_resolve 83 = .ok (.istore_n 3, 1) := by decide +kernel
theorem d_M_resolve_84 : decode b_M_resolve 84 = .ok (.iinc 4 1, 3) := by decide +kernel
theorem d_M_resolve_87 : decode b_M_resolve 87 = .ok (.goto (-82), 3) := by decide +kernel
theorem d_M_resolve_90 : decode b_M_resolve 90 = .ok (.iload_n 3, 1) := by decide +kernel
theorem d_M_resolve_91 : decode b_M_resolve 91 = .ok (.ifCond .ge 5, 3) := by decide +kernel
theorem d_M_resolve_94 : decode b_M_resolve 94 = .ok (.iconst 1, 1) := by decide +kernel
theorem d_M_resolve_95 : decode b_M_resolve 95 = .ok (.ireturn, 1) := by decide +kernel
theorem d_M_resolve_96 : decode b_M_resolve 96 = .ok (.aload_n 0, 1) := by decide +kernel
theorem d_M_resolve_97 : decode b_M_resolve 97 = .ok (.getfield 53, 3) := by decide +kernel
theorem d_M_resolve_100 : decode b_M_resolve 100 = .ok (.iconst 0, 1) := by decide +kernel
theorem d_M_resolve_101 : decode b_M_resolve 101 = .ok (.aload_n 0, 1) := by decide +kernel
theorem d_M_resolve_102 : decode b_M_resolve 102 = .ok (.getfield 47, 3) := by decide +kernel
theorem d_M_resolve_105 : decode b_M_resolve 105 = .ok (.iload_n 3, 1) := by decide +kernel
theorem d_M_resolve_106 : decode b_M_resolve 106 = .ok (.iaload, 1) := by decide +kernel
theorem d_M_resolve_107 : decode b_M_resolve 107 = .ok (.iastore, 1) := by decide +kernel
theorem d_M_resolve_108 : decode b_M_resolve 108 = .ok (.aload_n 0, 1) := by decide +kernel
theorem d_M_resolve_109 : decode b_M_resolve 109 = .ok (.iconst 1, 1) := by decide +kernel
theorem d_M_resolve_110 : decode b_M_resolve 110 = .ok (.putfield 135, 3) := by decide +kernel
theorem d_M_resolve_113 : decode b_M_resolve 113 = .ok (.aload_n 0, 1) := by decide +kernel
theorem d_M_resolve_114 : decode b_M_resolve 114 = .ok (.aload_n 0, 1) := by decide +kernel
theorem d_M_resolve_115 : decode b_M_resolve 115 = .ok (.getfield 50, 3) := by decide +kernel
theorem d_M_resolve_118 : decode b_M_resolve 118 = .ok (.iload_n 3, 1) := by decide +kernel
theorem d_M_resolve_119 : decode b_M_resolve 119 = .ok (.iaload, 1) := by decide +kernel
theorem d_M_resolve_120 : decode b_M_resolve 120 = .ok (.putfield 141, 3) := by decide +kernel
theorem d_M_resolve_123 : decode b_M_resolve 123 = .ok (.aload_n 0, 1) := by decide +kernel
theorem d_M_resolve_124 : decode b_M_resolve 124 = .ok (.invokevirtual 175, 3) := by decide +kernel
theorem d_M_resolve_127 : decode b_M_resolve 127 = .ok (.istore 4, 2) := by decide +kernel
theorem d_M_resolve_129 : decode b_M_resolve 129 = .ok (.iload 4, 2) := by decide +kernel
theorem d_M_resolve_131 : decode b_M_resolve 131 = .ok (.ifCond .ne 71, 3) := by decide +kernel
theorem d_M_resolve_134 : decode b_M_resolve 134 = .ok (.aload_n 0, 1) := by decide +kernel
theorem d_M_resolve_135 : decode b_M_resolve 135 = .ok (.iload_n 1, 1) := by decide +kernel
theorem d_M_resolve_136 : decode b_M_resolve 136 = .ok (.iload_n 2, 1) := by decide +kernel
theorem d_M_resolve_137 : decode b_M_resolve 137 = .ok (.invokevirtual 178, 3) := by decide +kernel
theorem d_M_resolve_140 : decode b_M_resolve 140 = .ok (.istore 5, 2) := by decide +kernel
theorem d_M_resolve_142 : decode b_M_resolve 142 = .ok (.iload 5, 2) := by decide +kernel
theorem d_M_resolve_144 : decode b_M_resolve 144 = .ok (.ifCond .ge 10, 3) := by decide +kernel
theorem d_M_resolve_147 : decode b_M_resolve 147 = .ok (.aload_n 0, 1) := by decide +kernel
theorem d_M_resolve_148 : decode b_M_resolve 148 = .ok (.iload_n 1, 1) := by decide +kernel
theorem d_M_resolve_149 : decode b_M_resolve 149 = .ok (.iload_n 2, 1) := by decide +kernel
theorem d_M_resolve_150 : decode b_M_resolve 150 = .ok (.invokevirtual 181, 3) := by decide +kernel
theorem d_M_resolve_153 : decode b_M_resolve 153 = .ok (.ireturn, 1) := by decide +kernel
theorem d_M_resolve_154 : decode b_M_resolve 154 = .ok (.aload_n 0, 1) := by decide +kernel
theorem d_M_resolve_155 : decode b_M_resolve 155 = .ok (.iload 5, 2) := by decide +kernel
theorem d_M_resolve_157 : decode b_M_resolve 157 = .ok (.invokevirtual 184, 3) := by decide +kernel
theorem d_M_resolve_160 : decode b_M_resolve 160 = .ok (.istore 4, 2) := by decide +kernel
theorem d_M_resolve_162 : decode b_M_resolve 162 = .ok (.iload 4, 2) := by decide +kernel
theorem d_M_resolve_164 : decode b_M_resolve 164 = .ok (.ifCond .ne 35, 3) := by decide +kernel
theorem d_M_resolve_167 : decode b_M_resolve 167 = .ok (.aload_n 0, 1) := by decide +kernel
theorem d_M_resolve_168 : decode b_M_resolve 168 = .ok (.getfield 53, 3) := by decide +kernel
theorem d_M_resolve_171 : decode b_M_resolve 171 = .ok (.aload_n 0, 1) := by decide +kernel
theorem d_M_resolve_172 : decode b_M_resolve 172 = .ok (.getfield 135, 3) := by decide +kernel
theorem d_M_resolve_175 : decode b_M_resolve 175 = .ok (.iload 5, 2) := by decide +kernel
theorem d_M_resolve_177 : decode b_M_resolve 177 = .ok (.iastore, 1) := by decide +kernel
theorem d_M_resolve_178 : decode b_M_resolve 178 = .ok (.aload_n 0, 1) := by decide +kernel
theorem d_M_resolve_179 : decode b_M_resolve 179 = .ok (.dup, 1) := by decide +kernel
theorem d_M_resolve_180 : decode b_M_resolve 180 = .ok (.getfield 135, 3) := by decide +kernel
theorem d_M_resolve_183 : decode b_M_resolve 183 = .ok (.iconst 1, 1) := by decide +kernel
theorem d_M_resolve_184 : decode b_M_resolve 184 = .ok (.iadd, 1) := by decide +kernel
theorem d_M_resolve_185 : decode b_M_resolve 185 = .ok (.putfield 135, 3) := by decide +kernel
theorem d_M_resolve_188 : decode b_M_resolve 188 = .ok (.aload_n 0, 1) := by decide +kernel
theorem d_M_resolve_189 : decode b_M_resolve 189 = .ok (.iconst (-1), 1) := by decide +kernel
theorem d_M_resolve_190 : decode b_M_resolve 190 = .ok (.putfield 141, 3) := by decide +kernel
theorem d_M_resolve_193 : decode b_M_resolve 193 = .ok (.aload_n 0, 1) := by decide +kernel
theorem d_M_resolve_194 : decode b_M_resolve 194 = .ok (.invokevirtual 175, 3) := by decide +kernel
theorem d_M_resolve_197 : decode b_M_resolve 197 = .ok (.istore 4, 2) := by decide +kernel
theorem d_M_resolve_199 : decode b_M_resolve 199 = .ok (.goto (-70), 3) := by decide +kernel
theorem d_M_resolve_202 : decode b_M_resolve 202 = .ok (.iload 4, 2) := by decide +kernel
theorem d_M_resolve_204 : decode b_M_resolve 204 = .ok (.ireturn, 1) := by decide +kernel
theorem d_M_ask_0 : decode b_M_ask 0 = .ok (.iload_n 1, 1) := by decide +kernel
theorem d_M_ask_1 : decode b_M_ask 1 = .ok (.invokestatic 78, 3) := by decide +kernel
theorem d_M_ask_4 : decode b_M_ask 4 = .ok (.ifCond .eq 10, 3) := by decide +kernel
theorem d_M_ask_7 : decode b_M_ask 7 = .ok (.iload_n 2, 1) := by decide +kernel
theorem d_M_ask_8 : decode b_M_ask 8 = .ok (.invokestatic 81, 3) := by decide +kernel
theorem d_M_ask_11 : decode b_M_ask 11 = .ok (.ifCond .ne 5, 3) := by decide +kernel
theorem d_M_ask_14 : decode b_M_ask 14 = .ok (.iconst (-1), 1) := by decide +kernel
theorem d_M_ask_15 : decode b_M_ask 15 = .ok (.ireturn, 1) := by decide +kernel
theorem d_M_ask_16 : decode b_M_ask 16 = .ok (.aload_n 0, 1) := by decide +kernel
theorem d_M_ask_17 : decode b_M_ask 17 = .ok (.iload_n 1, 1) := by decide +kernel
theorem d_M_ask_18 : decode b_M_ask 18 = .ok (.putfield 187, 3) := by decide +kernel
theorem d_M_ask_21 : decode b_M_ask 21 = .ok (.aload_n 0, 1) := by decide +kernel
theorem d_M_ask_22 : decode b_M_ask 22 = .ok (.iload_n 2, 1) := by decide +kernel
theorem d_M_ask_23 : decode b_M_ask 23 = .ok (.putfield 190, 3) := by decide +kernel
theorem d_M_ask_26 : decode b_M_ask 26 = .ok (.aload_n 0, 1) := by decide +kernel
theorem d_M_ask_27 : decode b_M_ask 27 = .ok (.iconst 0, 1) := by decide +kernel
theorem d_M_ask_28 : decode b_M_ask 28 = .ok (.putfield 135, 3) := by decide +kernel
theorem d_M_ask_31 : decode b_M_ask 31 = .ok (.aload_n 0, 1) := by decide +kernel
theorem d_M_ask_32 : decode b_M_ask 32 = .ok (.iconst 0, 1) := by decide +kernel
theorem d_M_ask_33 : decode b_M_ask 33 = .ok (.putfield 163, 3) := by decide +kernel
theorem d_M_ask_36 : decode b_M_ask 36 = .ok (.aload_n 0, 1) := by decide +kernel
theorem d_M_ask_37 : decode b_M_ask 37 = .ok (.aload_n 0, 1) := by decide +kernel
theorem d_M_ask_38 : decode b_M_ask 38 = .ok (.iload_n 1, 1) := by decide +kernel
theorem d_M_ask_39 : decode b_M_ask 39 = .ok (.iload_n 2, 1) := by decide +kernel
theorem d_M_ask_40 : decode b_M_ask 40 = .ok (.invokevirtual 193, 3) := by decide +kernel
theorem d_M_ask_43 : decode b_M_ask 43 = .ok (.putfield 196, 3) := by decide +kernel
theorem d_M_ask_46 : decode b_M_ask 46 = .ok (.aload_n 0, 1) := by decide +kernel
theorem d_M_ask_47 : decode b_M_ask 47 = .ok (.getfield 196, 3) := by decide +kernel
theorem d_M_ask_50 : decode b_M_ask 50 = .ok (.bipush 8, 2) := by decide +kernel
theorem d_M_ask_52 : decode b_M_ask 52 = .ok (.if_icmp .eq 39, 3) := by decide +kernel
theorem d_M_ask_55 : decode b_M_ask 55 = .ok (.aload_n 0, 1) := by decide +kernel
theorem d_M_ask_56 : decode b_M_ask 56 = .ok (.getfield 196, 3) := by decide +kernel
theorem d_M_ask_59 : decode b_M_ask 59 = .ok (.bipush 9, 2) := by decide +kernel
theorem d_M_ask_61 : decode b_M_ask 61 = .ok (.if_icmp .eq 30, 3) := by decide +kernel
theorem d_M_ask_64 : decode b_M_ask 64 = .ok (.aload_n 0, 1) := by decide +kernel
theorem d_M_ask_65 : decode b_M_ask 65 = .ok (.getfield 196, 3) := by decide +kernel
theorem d_M_ask_68 : decode b_M_ask 68 = .ok (.bipush 12, 2) := by decide +kernel
theorem d_M_ask_70 : decode b_M_ask 70 = .ok (.if_icmp .eq 21, 3) := by decide +kernel
theorem d_M_ask_73 : decode b_M_ask 73 = .ok (.aload_n 0, 1) := by decide +kernel
theorem d_M_ask_74 : decode b_M_ask 74 = .ok (.getfield 196, 3) := by decide +kernel
theorem d_M_ask_77 : decode b_M_ask 77 = .ok (.bipush 15, 2) := by decide +kernel
theorem d_M_ask_79 : decode b_M_ask 79 = .ok (.if_icmp .eq 12, 3) := by decide +kernel
theorem d_M_ask_82 : decode b_M_ask 82 = .ok (.aload_n 0, 1) := by decide +kernel
theorem d_M_ask_83 : decode b_M_ask 83 = .ok (.getfield 196, 3) := by decide +kernel
theorem d_M_ask_86 : decode b_M_ask 86 = .ok (.bipush 16, 2) := by decide +kernel
theorem d_M_ask_88 : decode b_M_ask 88 = .ok (.if_icmp .ne 7, 3) := by decide +kernel
theorem d_M_ask_91 : decode b_M_ask 91 = .ok (.iconst 1, 1) := by decide +kernel
theorem d_M_ask_92 : decode b_M_ask 92 = .ok (.goto 4, 3) := by decide +kernel
theorem d_M_ask_95 : decode b_M_ask 95 = .ok (.iconst 0, 1) := by decide +kernel
theorem d_M_ask_96 : decode b_M_ask 96 = .ok (.istore_n 3, 1) := by decide +kernel
theorem d_M_ask_97 : decode b_M_ask 97 = .ok (.aload_n 0, 1) := by decide +kernel
theorem d_M_ask_98 : decode b_M_ask 98 = .ok (.getfield 196, 3) := by decide +kernel
theorem d_M_ask_101 : decode b_M_ask 101 = .ok (.iconst 1, 1) := by decide +kernel
theorem d_M_ask_102 : decode b_M_ask 102 = .ok (.if_icmp .ne 7, 3) := by decide +kernel
theorem d_M_ask_105 : decode b_M_ask 105 = .ok (.iconst 3, 1) := by decide +kernel
theorem d_M_ask_106 : decode b_M_ask 106 = .ok (.goto 25, 3) := by decide +kernel
theorem d_M_ask_109 : decode b_M_ask 109 = .ok (.aload_n 0, 1) := by decide +kernel
theorem d_M_ask_110 : decode b_M_ask 110 = .ok (.getfield 196, 3) := by decide +kernel
theorem d_M_ask_113 : decode b_M_ask 113 = .ok (.bipush 6, 2) := by decide +kernel
theorem d_M_ask_115 : decode b_M_ask 115 = .ok (.if_icmp .ne 7, 3) := by decide +kernel
theorem d_M_ask_118 : decode b_M_ask 118 = .ok (.iconst 1, 1) := by decide +kernel
theorem d_M_ask_119 : decode b_M_ask 119 = .ok (.goto 12, 3) := by decide +kernel
theorem d_M_ask_122 : decode b_M_ask 122 = .ok (.iload_n 3, 1) := by decide +kernel
theorem d_M_ask_123 : decode b_M_ask 123 = .ok (.ifCond .eq 7, 3) := by decide +kernel
theorem d_M_ask_126 : decode b_M_ask 126 = .ok (.iconst 0, 1) := by decide +kernel
theorem d_M_ask_127 : decode b_M_ask 127 = .ok (.goto 4, 3) := by decide +kernel
theorem d_M_ask_130 : decode b_M_ask 130 = .ok (.iconst 2, 1) := by decide +kernel
theorem d_M_ask_131 : decode b_M_ask 131 = .ok (.ireturn, 1) := by decide +kernel
theorem d_M_reason_0 : decode b_M_reason 0 = .ok (.aload_n 0, 1) := by decide +kernel
theorem d_M_reason_1 : decode b_M_reason 1 = .ok (.getfield 196, 3) := by decide +kernel
theorem d_M_reason_4 : decode b_M_reason 4 = .ok (.ireturn, 1) := by decide +kernel
theorem d_M_answer_0 : decode b_M_answer 0 = .ok (.aload_n 0, 1) := by decide +kernel
theorem d_M_answer_1 : decode b_M_answer 1 = .ok (.getfield 196, 3) := by decide +kernel
theorem d_M_answer_4 : decode b_M_answer 4 = .ok (.bipush 8, 2) := by decide +kernel
theorem d_M_answer_6 : decode b_M_answer 6 = .ok (.if_icmp .eq 12, 3) := by decide +kernel
theorem d_M_answer_9 : decode b_M_answer 9 = .ok (.aload_n 0, 1) := by decide +kernel
theorem d_M_answer_10 : decode b_M_answer 10 = .ok (.getfield 196, 3) := by decide +kernel
theorem d_M_answer_13 : decode b_M_answer 13 = .ok (.bipush 9, 2) := by decide +kernel
theorem d_M_answer_15 : decode b_M_answer 15 = .ok (.if_icmp .ne 27, 3) := by decide +kernel
theorem d_M_answer_18 : decode b_M_answer 18 = .ok (.iload_n 1, 1) := by decide +kernel
theorem d_M_answer_19 : decode b_M_answer 19 = .ok (.ifCond .lt 23, 3) := by decide +kernel
theorem d_M_answer_22 : decode b_M_answer 22 = .ok (.iload_n 1, 1) := by decide +kernel
theorem d_M_answer_23 : decode b_M_answer 23 = .ok (.aload_n 0, 1) := by decide +kernel
theorem d_M_answer_24 : decode b_M_answer 24 = .ok (.aload_n 0, 1) := by decide +kernel
theorem d_M_answer_25 : decode b_M_answer 25 = .ok (.getfield 187, 3) := by decide +kernel
theorem d_M_answer_28 : decode b_M_answer 28 = .ok (.aload_n 0, 1) := by decide +kernel
theorem d_M_answer_29 : decode b_M_answer 29 = .ok (.getfield 190, 3) := by decide +kernel
theorem d_M_answer_32 : decode b_M_answer 32 = .ok (.invokevirtual 92, 3) := by decide +kernel
theorem d_M_answer_35 : decode b_M_answer 35 = .ok (.if_icmp .ge 7, 3) := by decide +kernel
theorem d_M_answer_38 : decode b_M_answer 38 = .ok (.iconst 1, 1) := by decide +kernel
theorem d_M_answer_39 : decode b_M_answer 39 = .ok (.goto 4, 3) := by decide +kernel
theorem d_M_answer_42 : decode b_M_answer 42 = .ok (.iconst 0, 1) := by decide +kernel
theorem d_M_answer_43 : decode b_M_answer 43 = .ok (.istore_n 2, 1) := by decide +kernel
theorem d_M_answer_44 : decode b_M_answer 44 = .ok (.iload_n 2, 1) := by decide +kernel
theorem d_M_answer_45 : decode b_M_answer 45 = .ok (.ifCond .eq 19, 3) := by decide +kernel
theorem d_M_answer_48 : decode b_M_answer 48 = .ok (.aload_n 0, 1) := by decide +kernel
theorem d_M_answer_49 : decode b_M_answer 49 = .ok (.aload_n 0, 1) := by decide +kernel
theorem d_M_answer_50 : decode b_M_answer 50 = .ok (.getfield 187, 3) := by decide +kernel
theorem d_M_answer_53 : decode b_M_answer 53 = .ok (.aload_n 0, 1) := by decide +kernel
theorem d_M_answer_54 : decode b_M_answer 54 = .ok (.getfield 190, 3) := by decide +kernel
theorem d_M_answer_57 : decode b_M_answer 57 = .ok (.iload_n 1, 1) := by decide +kernel
theorem d_M_answer_58 : decode b_M_answer 58 = .ok (.invokevirtual 115, 3) := by decide +kernel
theorem d_M_answer_61 : decode b_M_answer 61 = .ok (.goto 4, 3) := by decide +kernel
theorem d_M_answer_64 : decode b_M_answer 64 = .ok (.iconst 0, 1) := by decide +kernel
theorem d_M_answer_65 : decode b_M_answer 65 = .ok (.ireturn, 1) := by decide +kernel
theorem d_M_zone_0 : decode b_M_zone 0 = .ok (.iload_n 1, 1) := by decide +kernel
theorem d_M_zone_1 : decode b_M_zone 1 = .ok (.ifCond .lt 20, 3) := by decide +kernel
theorem d_M_zone_4 : decode b_M_zone 4 = .ok (.iload_n 1, 1) := by decide +kernel
theorem d_M_zone_5 : decode b_M_zone 5 = .ok (.aload_n 0, 1) := by decide +kernel
theorem d_M_zone_6 : decode b_M_zone 6 = .ok (.getfield 135, 3) := by decide +kernel
theorem d_M_zone_9 : decode b_M_zone 9 = .ok (.if_icmp .ge 12, 3) := by decide +kernel
theorem d_M_zone_12 : decode b_M_zone 12 = .ok (.aload_n 0, 1) := by decide +kernel
theorem d_M_zone_13 : decode b_M_zone 13 = .ok (.getfield 53, 3) := by decide +kernel
theorem d_M_zone_16 : decode b_M_zone 16 = .ok (.iload_n 1, 1) := by decide +kernel
theorem d_M_zone_17 : decode b_M_zone 17 = .ok (.iaload, 1) := by decide +kernel
theorem d_M_zone_18 : decode b_M_zone 18 = .ok (.goto 4, 3) := by decide +kernel
theorem d_M_zone_21 : decode b_M_zone 21 = .ok (.iconst (-1), 1) := by decide +kernel
theorem d_M_zone_22 : decode b_M_zone 22 = .ok (.ireturn, 1) := by decide +kernel
theorem d_M_figure_0 : decode b_M_figure 0 = .ok (.iload_n 1, 1) := by decide +kernel
theorem d_M_figure_1 : decode b_M_figure 1 = .ok (.ifCond .ne 10, 3) := by decide +kernel
theorem d_M_figure_4 : decode b_M_figure 4 = .ok (.aload_n 0, 1) := by decide +kernel
theorem d_M_figure_5 : decode b_M_figure 5 = .ok (.getfield 69, 3) := by decide +kernel
theorem d_M_figure_8 : decode b_M_figure 8 = .ok (.goto 40, 3) := by decide +kernel
theorem d_M_figure_11 : decode b_M_figure 11 = .ok (.iload_n 1, 1) := by decide +kernel
theorem d_M_figure_12 : decode b_M_figure 12 = .ok (.iconst 1, 1) := by decide +kernel
theorem d_M_figure_13 : decode b_M_figure 13 = .ok (.if_icmp .ne 10, 3) := by decide +kernel
theorem d_M_figure_16 : decode b_M_figure 16 = .ok (.aload_n 0, 1) := by decide +kernel
theorem d_M_figure_17 : decode b_M_figure 17 = .ok (.getfield 122, 3) := by decide +kernel
theorem d_M_figure_20 : decode b_M_figure 20 = .ok (.goto 28, 3) := by decide +kernel
theorem d_M_figure_23 : decode b_M_figure 23 = .ok (.iload_n 1, 1) := by decide +kernel
theorem d_M_figure_24 : decode b_M_figure 24 = .ok (.iconst 2, 1) := by decide +kernel
theorem d_M_figure_25 : decode b_M_figure 25 = .ok (.if_icmp .ne 10, 3) := by decide +kernel
theorem d_M_figure_28 : decode b_M_figure 28 = .ok (.aload_n 0, 1) := by decide +kernel
theorem d_M_figure_29 : decode b_M_figure 29 = .ok (.getfield 132, 3) := by decide +kernel
theorem d_M_figure_32 : decode b_M_figure 32 = .ok (.goto 16, 3) := by decide +kernel
theorem d_M_figure_35 : decode b_M_figure 35 = .ok (.iload_n 1, 1) := by decide +kernel
theorem d_M_figure_36 : decode b_M_figure 36 = .ok (.iconst 3, 1) := by decide +kernel
theorem d_M_figure_37 : decode b_M_figure 37 = .ok (.if_icmp .ne 10, 3) := by decide +kernel
theorem d_M_figure_40 : decode b_M_figure 40 = .ok (.aload_n 0, 1) := by decide +kernel
theorem d_M_figure_41 : decode b_M_figure 41 = .ok (.getfield 163, 3) := by decide +kernel
theorem d_M_figure_44 : decode b_M_figure 44 = .ok (.goto 4, 3) := by decide +kernel
theorem d_M_figure_47 : decode b_M_figure 47 = .ok (.iconst (-1), 1) := by decide +kernel
theorem d_M_figure_48 : decode b_M_figure 48 = .ok (.ireturn, 1) := by decide +kernel
theorem d_M_above_0 : decode b_M_above 0 = .ok (.iload_n 1, 1) := by decide +kernel
theorem d_M_above_1 : decode b_M_above 1 = .ok (.invokestatic 78, 3) := by decide +kernel
theorem d_M_above_4 : decode b_M_above 4 = .ok (.ifCond .eq 10, 3) := by decide +kernel
theorem d_M_above_7 : decode b_M_above 7 = .ok (.iload_n 2, 1) := by decide +kernel
theorem d_M_above_8 : decode b_M_above 8 = .ok (.invokestatic 78, 3) := by decide +kernel
theorem d_M_above_11 : decode b_M_above 11 = .ok (.ifCond .ne 8, 3) := by decide +kernel
theorem d_M_above_14 : decode b_M_above 14 = .ok (.bipush (-2), 2) := by decide +kernel
theorem d_M_above_16 : decode b_M_above 16 = .ok (.goto 25, 3) := by decide +kernel
theorem d_M_above_19 : decode b_M_above 19 = .ok (.iload_n 1, 1) := by decide +kernel
theorem d_M_above_20 : decode b_M_above 20 = .ok (.iload_n 2, 1) := by decide +kernel
theorem d_M_above_21 : decode b_M_above 21 = .ok (.if_icmp .ne 7, 3) := by decide +kernel
theorem d_M_above_24 : decode b_M_above 24 = .ok (.iconst 0, 1) := by decide +kernel
theorem d_M_above_25 : decode b_M_above 25 = .ok (.goto 16, 3) := by decide +kernel
theorem d_M_above_28 : decode b_M_above 28 = .ok (.iload_n 1, 1) := by decide +kernel
theorem d_M_above_29 : decode b_M_above 29 = .ok (.iload_n 2, 1) := by decide +kernel
theorem d_M_above_30 : decode b_M_above 30 = .ok (.invokestatic 151, 3) := by decide +kernel
theorem d_M_above_33 : decode b_M_above 33 = .ok (.ifCond .eq 7, 3) := by decide +kernel
theorem d_M_above_36 : decode b_M_above 36 = .ok (.iconst (-1), 1) := by decide +kernel
theorem d_M_above_37 : decode b_M_above 37 = .ok (.goto 4, 3) := by decide +kernel
theorem d_M_above_40 : decode b_M_above 40 = .ok (.iconst 1, 1) := by decide +kernel
theorem d_M_above_41 : decode b_M_above 41 = .ok (.ireturn, 1) := by decide +kernel

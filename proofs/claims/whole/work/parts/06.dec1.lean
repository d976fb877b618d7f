theorem d_R_init_0 : decode b_R_init 0 = .ok (.aload_n 0, 1) := by decide +kernel
theorem d_R_init_1 : decode b_R_init 1 = .ok (.invokespecial 1, 3) := by decide +kernel
theorem d_R_init_4 : decode b_R_init 4 = .ok (.aload_n 0, 1) := by decide +kernel
theorem d_R_init_5 : decode b_R_init 5 = .ok (.new 7, 3) := by decide +kernel
theorem d_R_init_8 : decode b_R_init 8 = .ok (.dup, 1) := by decide +kernel
theorem d_R_init_9 : decode b_R_init 9 = .ok (.invokespecial 9, 3) := by decide +kernel
theorem d_R_init_12 : decode b_R_init 12 = .ok (.putfield 10, 3) := by decide +kernel
theorem d_R_init_15 : decode b_R_init 15 = .ok (.aload_n 0, 1) := by decide +kernel
theorem d_R_init_16 : decode b_R_init 16 = .ok (.new 16, 3) := by decide +kernel
theorem d_R_init_19 : decode b_R_init 19 = .ok (.dup, 1) := by decide +kernel
theorem d_R_init_20 : decode b_R_init 20 = .ok (.aload_n 0, 1) := by decide +kernel
theorem d_R_init_21 : decode b_R_init 21 = .ok (.getfield 10, 3) := by decide +kernel
theorem d_R_init_24 : decode b_R_init 24 = .ok (.invokespecial 18, 3) := by decide +kernel
theorem d_R_init_27 : decode b_R_init 27 = .ok (.putfield 21, 3) := by decide +kernel
theorem d_R_init_30 : decode b_R_init 30 = .ok (.aload_n 0, 1) := by decide +kernel
theorem d_R_init_31 : decode b_R_init 31 = .ok (.new 25, 3) := by decide +kernel
theorem d_R_init_34 : decode b_R_init 34 = .ok (.dup, 1) := by decide +kernel
theorem d_R_init_35 : decode b_R_init 35 = .ok (.invokespecial 27, 3) := by decide +kernel
theorem d_R_init_38 : decode b_R_init 38 = .ok (.putfield 28, 3) := by decide +kernel
theorem d_R_init_41 : decode b_R_init 41 = .ok (.aload_n 0, 1) := by decide +kernel
theorem d_R_init_42 : decode b_R_init 42 = .ok (.new 32, 3) := by decide +kernel
theorem d_R_init_45 : decode b_R_init 45 = .ok (.dup, 1) := by decide +kernel
theorem d_R_init_46 : decode b_R_init 46 = .ok (.aload_n 0, 1) := by decide +kernel
theorem d_R_init_47 : decode b_R_init 47 = .ok (.getfield 10, 3) := by decide +kernel
theorem d_R_init_50 : decode b_R_init 50 = .ok (.aload_n 0, 1) := by decide +kernel
theorem d_R_init_51 : decode b_R_init 51 = .ok (.getfield 21, 3) := by decide +kernel
theorem d_R_init_54 : decode b_R_init 54 = .ok (.aload_n 0, 1) := by decide +kernel
theorem d_R_init_55 : decode b_R_init 55 = .ok (.getfield 28, 3) := by decide +kernel
theorem d_R_init_58 : decode b_R_init 58 = .ok (.invokespecial 34, 3) := by decide +kernel
theorem d_R_init_61 : decode b_R_init 61 = .ok (.putfield 37, 3) := by decide +kernel
theorem d_R_init_64 : decode b_R_init 64 = .ok (.return_, 1) := by decide +kernel
theorem d_R_add_0 : decode b_R_add 0 = .ok (.iload_n 1, 1) := by decide +kernel
theorem d_R_add_1 : decode b_R_add 1 = .ok (.invokestatic 41, 3) := by decide +kernel
theorem d_R_add_4 : decode b_R_add 4 = .ok (.ifCond .eq 18, 3) := by decide +kernel
theorem d_R_add_7 : decode b_R_add 7 = .ok (.iload_n 2, 1) := by decide +kernel
theorem d_R_add_8 : decode b_R_add 8 = .ok (.invokestatic 47, 3) := by decide +kernel
theorem d_R_add_11 : decode b_R_add 11 = .ok (.ifCond .eq 11, 3) := by decide +kernel
theorem d_R_add_14 : decode b_R_add 14 = .ok (.iload_n 2, 1) := by decide +kernel
theorem d_R_add_15 : decode b_R_add 15 = .ok (.iload_n 3, 1) := by decide +kernel
theorem d_R_add_16 : decode b_R_add 16 = .ok (.invokestatic 50, 3) := by decide +kernel
theorem d_R_add_19 : decode b_R_add 19 = .ok (.ifCond .ne 5, 3) := by decide +kernel
theorem d_R_add_22 : decode b_R_add 22 = .ok (.iconst (-1), 1) := by decide +kernel
theorem d_R_add_23 : decode b_R_add 23 = .ok (.ireturn, 1) := by decide +kernel
theorem d_R_add_24 : decode b_R_add 24 = .ok (.aload_n 0, 1) := by decide +kernel
theorem d_R_add_25 : decode b_R_add 25 = .ok (.getfield 10, 3) := by decide +kernel
theorem d_R_add_28 : decode b_R_add 28 = .ok (.iload_n 1, 1) := by decide +kernel
theorem d_R_add_29 : decode b_R_add 29 = .ok (.iload_n 2, 1) := by decide +kernel
theorem d_R_add_30 : decode b_R_add 30 = .ok (.invokestatic 54, 3) := by decide +kernel
theorem d_R_add_33 : decode b_R_add 33 = .ok (.iload_n 3, 1) := by decide +kernel
theorem d_R_add_34 : decode b_R_add 34 = .ok (.invokevirtual 58, 3) := by decide +kernel
theorem d_R_add_37 : decode b_R_add 37 = .ok (.ireturn, 1) := by decide +kernel
theorem d_R_drop_0 : decode b_R_drop 0 = .ok (.iload_n 1, 1) := by decide +kernel
theorem d_R_drop_1 : decode b_R_drop 1 = .ok (.invokestatic 41, 3) := by decide +kernel
theorem d_R_drop_4 : decode b_R_drop 4 = .ok (.ifCond .eq 10, 3) := by decide +kernel
theorem d_R_drop_7 : decode b_R_drop 7 = .ok (.iload_n 2, 1) := by decide +kernel
theorem d_R_drop_8 : decode b_R_drop 8 = .ok (.invokestatic 47, 3) := by decide +kernel
theorem d_R_drop_11 : decode b_R_drop 11 = .ok (.ifCond .ne 5, 3) := by decide +kernel
theorem d_R_drop_14 : decode b_R_drop 14 = .ok (.iconst (-1), 1) := by decide +kernel
theorem d_R_drop_15 : decode b_R_drop 15 = .ok (.ireturn, 1) := by decide +kernel
theorem d_R_drop_16 : decode b_R_drop 16 = .ok (.aload_n 0, 1) := by decide +kernel
theorem d_R_drop_17 : decode b_R_drop 17 = .ok (.getfield 10, 3) := by decide +kernel
theorem d_R_drop_20 : decode b_R_drop 20 = .ok (.iload_n 1, 1) := by decide +kernel
theorem d_R_drop_21 : decode b_R_drop 21 = .ok (.iload_n 2, 1) := by decide +kernel
theorem d_R_drop_22 : decode b_R_drop 22 = .ok (.invokestatic 54, 3) := by decide +kernel
theorem d_R_drop_25 : decode b_R_drop 25 = .ok (.invokevirtual 61, 3) := by decide +kernel
theorem d_R_drop_28 : decode b_R_drop 28 = .ok (.ireturn, 1) := by decide +kernel
theorem d_R_window_0 : decode b_R_window 0 = .ok (.iload_n 1, 1) := by decide +kernel
theorem d_R_window_1 : decode b_R_window 1 = .ok (.ifCond .lt 8, 3) := by decide +kernel
theorem d_R_window_4 : decode b_R_window 4 = .ok (.iload_n 2, 1) := by decide +kernel
theorem d_R_window_5 : decode b_R_window 5 = .ok (.iload_n 1, 1) := by decide +kernel
theorem d_R_window_6 : decode b_R_window 6 = .ok (.if_icmp .ge 5, 3) := by decide +kernel
theorem d_R_window_9 : decode b_R_window 9 = .ok (.iconst 0, 1) := by decide +kernel
theorem d_R_window_10 : decode b_R_window 10 = .ok (.ireturn, 1) := by decide +kernel
theorem d_R_window_11 : decode b_R_window 11 = .ok (.aload_n 0, 1) := by decide +kernel
theorem d_R_window_12 : decode b_R_window 12 = .ok (.getfield 21, 3) := by decide +kernel
theorem d_R_window_15 : decode b_R_window 15 = .ok (.iload_n 1, 1) := by decide +kernel
theorem d_R_window_16 : decode b_R_window 16 = .ok (.iload_n 2, 1) := by decide +kernel
theorem d_R_window_17 : decode b_R_window 17 = .ok (.invokevirtual 65, 3) := by decide +kernel
theorem d_R_window_20 : decode b_R_window 20 = .ok (.iconst 1, 1) := by decide +kernel
theorem d_R_window_21 : decode b_R_window 21 = .ok (.ireturn, 1) := by decide +kernel
theorem d_R_sign_0 : decode b_R_sign 0 = .ok (.iload_n 1, 1) := by decide +kernel
theorem d_R_sign_1 : decode b_R_sign 1 = .ok (.invokestatic 41, 3) := by decide +kernel
theorem d_R_sign_4 : decode b_R_sign 4 = .ok (.ifCond .eq 25, 3) := by decide +kernel
theorem d_R_sign_7 : decode b_R_sign 7 = .ok (.iload_n 3, 1) := by decide +kernel
theorem d_R_sign_8 : decode b_R_sign 8 = .ok (.invokestatic 41, 3) := by decide +kernel
theorem d_R_sign_11 : decode b_R_sign 11 = .ok (.ifCond .eq 18, 3) := by decide +kernel
theorem d_R_sign_14 : decode b_R_sign 14 = .ok (.iload_n 2, 1) := by decide +kernel
theorem d_R_sign_15 : decode b_R_sign 15 = .ok (.invokestatic 47, 3) := by decide +kernel
theorem d_R_sign_18 : decode b_R_sign 18 = .ok (.ifCond .eq 11, 3) := by decide +kernel
theorem d_R_sign_21 : decode b_R_sign 21 = .ok (.iload 4, 2) := by decide +kernel
theorem d_R_sign_23 : decode b_R_sign 23 = .ok (.invokestatic 69, 3) := by decide +kernel
theorem d_R_sign_26 : decode b_R_sign 26 = .ok (.ifCond .ne 5, 3) := by decide +kernel
theorem d_R_sign_29 : decode b_R_sign 29 = .ok (.iconst (-1), 1) := by decide +kernel
theorem d_R_sign_30 : decode b_R_sign 30 = .ok (.ireturn, 1) := by decide +kernel
theorem d_R_sign_31 : decode b_R_sign 31 = .ok (.iload 5, 2) := by decide +kernel
theorem d_R_sign_33 : decode b_R_sign 33 = .ok (.ifCond .lt 12, 3) := by decide +kernel
theorem d_R_sign_36 : decode b_R_sign 36 = .ok (.iload 5, 2) := by decide +kernel
theorem d_R_sign_38 : decode b_R_sign 38 = .ok (.iload_n 1, 1) := by decide +kernel
theorem d_R_sign_39 : decode b_R_sign 39 = .ok (.invokestatic 72, 3) := by decide +kernel
theorem d_R_sign_42 : decode b_R_sign 42 = .ok (.if_icmp .le 5, 3) := by decide +kernel
theorem d_R_sign_45 : decode b_R_sign 45 = .ok (.iconst (-1), 1) := by decide +kernel
theorem d_R_sign_46 : decode b_R_sign 46 = .ok (.ireturn, 1) := by decide +kernel
theorem d_R_sign_47 : decode b_R_sign 47 = .ok (.iload_n 1, 1) := by decide +kernel
theorem d_R_sign_48 : decode b_R_sign 48 = .ok (.iload_n 2, 1) := by decide +kernel
theorem d_R_sign_49 : decode b_R_sign 49 = .ok (.invokestatic 54, 3) := by decide +kernel
theorem d_R_sign_52 : decode b_R_sign 52 = .ok (.istore 6, 2) := by decide +kernel
theorem d_R_sign_54 : decode b_R_sign 54 = .ok (.aload_n 0, 1) := by decide +kernel
theorem d_R_sign_55 : decode b_R_sign 55 = .ok (.getfield 10, 3) := by decide +kernel
theorem d_R_sign_58 : decode b_R_sign 58 = .ok (.iload 6, 2) := by decide +kernel
theorem d_R_sign_60 : decode b_R_sign 60 = .ok (.invokevirtual 75, 3) := by decide +kernel
theorem d_R_sign_63 : decode b_R_sign 63 = .ok (.ifCond .ne 5, 3) := by decide +kernel
theorem d_R_sign_66 : decode b_R_sign 66 = .ok (.iconst (-1), 1) := by decide +kernel
theorem d_R_sign_67 : decode b_R_sign 67 = .ok (.ireturn, 1) := by decide +kernel
theorem d_R_sign_68 : decode b_R_sign 68 = .ok (.aload_n 0, 1) := by decide +kernel
theorem d_R_sign_69 : decode b_R_sign 69 = .ok (.getfield 21, 3) := by decide +kernel
theorem d_R_sign_72 : decode b_R_sign 72 = .ok (.iload 6, 2) := by decide +kernel
theorem d_R_sign_74 : decode b_R_sign 74 = .ok (.iload_n 3, 1) := by decide +kernel
theorem d_R_sign_75 : decode b_R_sign 75 = .ok (.iload 4, 2) := by decide +kernel
theorem d_R_sign_77 : decode b_R_sign 77 = .ok (.iload 5, 2) := by decide +kernel
theorem d_R_sign_79 : decode b_R_sign 79 = .ok (.invokevirtual 78, 3) := by decide +kernel
theorem d_R_sign_82 : decode b_R_sign 82 = .ok (.ireturn, 1) := by decide +kernel
theorem d_R_spoil_0 : decode b_R_spoil 0 = .ok (.aload_n 0, 1) := by decide +kernel
theorem d_R_spoil_1 : decode b_R_spoil 1 = .ok (.getfield 21, 3) := by decide +kernel
theorem d_R_spoil_4 : decode b_R_spoil 4 = .ok (.iload_n 1, 1) := by decide +kernel
theorem d_R_spoil_5 : decode b_R_spoil 5 = .ok (.iload_n 2, 1) := by decide +kernel
theorem d_R_spoil_6 : decode b_R_spoil 6 = .ok (.invokevirtual 82, 3) := by decide +kernel
theorem d_R_spoil_9 : decode b_R_spoil 9 = .ok (.ireturn, 1) := by decide +kernel
theorem d_R_seal_0 : decode b_R_seal 0 = .ok (.iload_n 1, 1) := by decide +kernel
theorem d_R_seal_1 : decode b_R_seal 1 = .ok (.invokestatic 41, 3) := by decide +kernel
theorem d_R_seal_4 : decode b_R_seal 4 = .ok (.ifCond .eq 10, 3) := by decide +kernel
theorem d_R_seal_7 : decode b_R_seal 7 = .ok (.iload_n 2, 1) := by decide +kernel
theorem d_R_seal_8 : decode b_R_seal 8 = .ok (.invokestatic 69, 3) := by decide +kernel
theorem d_R_seal_11 : decode b_R_seal 11 = .ok (.ifCond .ne 5, 3) := by decide +kernel
theorem d_R_seal_14 : decode b_R_seal 14 = .ok (.iconst (-1), 1) := by decide +kernel
theorem d_R_seal_15 : decode b_R_seal 15 = .ok (.ireturn, 1) := by decide +kernel
theorem d_R_seal_16 : decode b_R_seal 16 = .ok (.iload_n 1, 1) := by decide +kernel
theorem d_R_seal_17 : decode b_R_seal 17 = .ok (.iload_n 2, 1) := by decide +kernel
theorem d_R_seal_18 : decode b_R_seal 18 = .ok (.invokestatic 85, 3) := by decide +kernel
theorem d_R_seal_21 : decode b_R_seal 21 = .ok (.ireturn, 1) := by decide +kernel
theorem d_R_anchor_0 : decode b_R_anchor 0 = .ok (.iload_n 1, 1) := by decide +kernel
theorem d_R_anchor_1 : decode b_R_anchor 1 = .ok (.invokestatic 41, 3) := by decide +kernel
theorem d_R_anchor_4 : decode b_R_anchor 4 = .ok (.ifCond .eq 7, 3) := by decide +kernel
theorem d_R_anchor_7 : decode b_R_anchor 7 = .ok (.iload_n 2, 1) := by decide +kernel
theorem d_R_anchor_8 : decode b_R_anchor 8 = .ok (.ifCond .ge 5, 3) := by decide +kernel
theorem d_R_anchor_11 : decode b_R_anchor 11 = .ok (.iconst (-1), 1) := by decide +kernel
theorem d_R_anchor_12 : decode b_R_anchor 12 = .ok (.ireturn, 1) := by decide +kernel
theorem d_R_anchor_13 : decode b_R_anchor 13 = .ok (.aload_n 0, 1) := by decide +kernel
theorem d_R_anchor_14 : decode b_R_anchor 14 = .ok (.getfield 28, 3) := by decide +kernel
theorem d_R_anchor_17 : decode b_R_anchor 17 = .ok (.iload_n 1, 1) := by decide +kernel
theorem d_R_anchor_18 : decode b_R_anchor 18 = .ok (.iload_n 2, 1) := by decide +kernel
theorem d_R_anchor_19 : decode b_R_anchor 19 = .ok (.invokevirtual 90, 3) := by decide +kernel
theorem d_R_anchor_22 : decode b_R_anchor 22 = .ok (.ireturn, 1) := by decide +kernel
theorem d_R_tick_0 : decode b_R_tick 0 = .ok (.iload_n 1, 1) := by decide +kernel
theorem d_R_tick_1 : decode b_R_tick 1 = .ok (.ifCond .lt 9, 3) := by decide +kernel
theorem d_R_tick_4 : decode b_R_tick 4 = .ok (.iload_n 1, 1) := by decide +kernel
theorem d_R_tick_5 : decode b_R_tick 5 = .ok (.ldc 91, 2) := by decide +kernel
theorem d_R_tick_7 : decode b_R_tick 7 = .ok (.if_icmp .le 5, 3) := by decide +kernel
theorem d_R_tick_10 : decode b_R_tick 10 = .ok (.iconst (-1), 1) := by decide +kernel
theorem d_R_tick_11 : decode b_R_tick 11 = .ok (.ireturn, 1) := by decide +kernel
theorem d_R_tick_12 : decode b_R_tick 12 = .ok (.aload_n 0, 1) := by decide +kernel
theorem d_R_tick_13 : decode b_R_tick 13 = .ok (.getfield 21, 3) := by decide +kernel
theorem d_R_tick_16 : decode b_R_tick 16 = .ok (.iload_n 1, 1) := by decide +kernel
theorem d_R_tick_17 : decode b_R_tick 17 = .ok (.invokevirtual 92, 3) := by decide +kernel
theorem d_R_tick_20 : decode b_R_tick 20 = .ok (.ireturn, 1) := by decide +kernel
theorem d_R_ask_0 : decode b_R_ask 0 = .ok (.iload_n 1, 1) := by decide +kernel
theorem d_R_ask_1 : decode b_R_ask 1 = .ok (.invokestatic 41, 3) := by decide +kernel
theorem d_R_ask_4 : decode b_R_ask 4 = .ok (.ifCond .eq 10, 3) := by decide +kernel
theorem d_R_ask_7 : decode b_R_ask 7 = .ok (.iload_n 2, 1) := by decide +kernel
theorem d_R_ask_8 : decode b_R_ask 8 = .ok (.invokestatic 47, 3) := by decide +kernel
theorem d_R_ask_11 : decode b_R_ask 11 = .ok (.ifCond .ne 5, 3) := by decide +kernel
theorem d_R_ask_14 : decode b_R_ask 14 = .ok (.iconst (-1), 1) := by decide +kernel
theorem d_R_ask_15 : decode b_R_ask 15 = .ok (.ireturn, 1) := by decide +kernel
theorem d_R_ask_16 : decode b_R_ask 16 = .ok (.aload_n 0, 1) := by decide +kernel
theorem d_R_ask_17 : decode b_R_ask 17 = .ok (.getfield 37, 3) := by decide +kernel
theorem d_R_ask_20 : decode b_R_ask 20 = .ok (.iload_n 1, 1) := by decide +kernel
theorem d_R_ask_21 : decode b_R_ask 21 = .ok (.iload_n 2, 1) := by decide +kernel
theorem d_R_ask_22 : decode b_R_ask 22 = .ok (.invokevirtual 95, 3) := by decide +kernel
theorem d_R_ask_25 : decode b_R_ask 25 = .ok (.aload_n 0, 1) := by decide +kernel
theorem d_R_ask_26 : decode b_R_ask 26 = .ok (.getfield 37, 3) := by decide +kernel
theorem d_R_ask_29 : decode b_R_ask 29 = .ok (.getfield 98, 3) := by decide +kernel
theorem d_R_ask_32 : decode b_R_ask 32 = .ok (.invokestatic 102, 3) := by decide +kernel
theorem d_R_ask_35 : decode b_R_ask 35 = .ok (.ireturn, 1) := by decide +kernel
theorem d_R_reason_0 : decode b_R_reason 0 = .ok (.aload_n 0, 1) := by decide +kernel
theorem d_R_reason_1 : decode b_R_reason 1 = .ok (.getfield 37, 3) := by decide +kernel
theorem d_R_reason_4 : decode b_R_reason 4 = .ok (.getfield 98, 3) := by decide +kernel
theorem d_R_reason_7 : decode b_R_reason 7 = .ok (.ireturn, 1) := by decide +kernel
theorem d_R_answer_0 : decode b_R_answer 0 = .ok (.aload_n 0, 1) := by decide +kernel
theorem d_R_answer_1 : decode b_R_answer 1 = .ok (.getfield 37, 3) := by decide +kernel
theorem d_R_answer_4 : decode b_R_answer 4 = .ok (.iload_n 1, 1) := by decide +kernel
theorem d_R_answer_5 : decode b_R_answer 5 = .ok (.invokevirtual 105, 3) := by decide +kernel
theorem d_R_answer_8 : decode b_R_answer 8 = .ok (.ireturn, 1) := by decide +kernel
theorem d_R_zone_0 : decode b_R_zone 0 = .ok (.aload_n 0, 1) := by decide +kernel
theorem d_R_zone_1 : decode b_R_zone 1 = .ok (.getfield 37, 3) := by decide +kernel
theorem d_R_zone_4 : decode b_R_zone 4 = .ok (.iload_n 1, 1) := by decide +kernel
theorem d_R_zone_5 : decode b_R_zone 5 = .ok (.invokevirtual 108, 3) := by decide +kernel
theorem d_R_zone_8 : decode b_R_zone 8 = .ok (.ireturn, 1) := by decide +kernel
theorem d_R_figure_0 : decode b_R_figure 0 = .ok (.iload_n 1, 1) := by decide +kernel
theorem d_R_figure_1 : decode b_R_figure 1 = .ok (.tableswitch 63 0 3 #[31, 39, 47, 55], 31) := by decide +kernel
theorem d_R_figure_32 : decode b_R_figure 32 = .ok (.aload_n 0, 1) := by decide +kernel
theorem d_R_figure_33 : decode b_R_figure 33 = .ok (.getfield 10, 3) := by decide +kernel
theorem d_R_figure_36 : decode b_R_figure 36 = .ok (.getfield 111, 3) := by decide +kernel
theorem d_R_figure_39 : decode b_R_figure 39 = .ok (.ireturn, 1) := by decide +kernel
theorem d_R_figure_40 : decode b_R_figure 40 = .ok (.aload_n 0, 1) := by decide +kernel
theorem d_R_figure_41 : decode b_R_figure 41 = .ok (.getfield 21, 3) := by decide +kernel
theorem d_R_figure_44 : decode b_R_figure 44 = .ok (.getfield 114, 3) := by decide +kernel
theorem d_R_figure_47 : decode b_R_figure 47 = .ok (.ireturn, 1) := by decide +kernel
theorem d_R_figure_48 : decode b_R_figure 48 = .ok (.aload_n 0, 1) := by decide +kernel
theorem d_R_figure_49 : decode b_R_figure 49 = .ok (.getfield 21, 3) := by decide +kernel
theorem d_R_figure_52 : decode b_R_figure 52 = .ok (.getfield 115, 3) := by decide +kernel
theorem d_R_figure_55 : decode b_R_figure 55 = .ok (.ireturn, 1) := by decide +kernel
theorem d_R_figure_56 : decode b_R_figure 56 = .ok (.aload_n 0, 1) := by decide +kernel
theorem d_R_figure_57 : decode b_R_figure 57 = .ok (.getfield 37, 3) := by decide +kernel
theorem d_R_figure_60 : decode b_R_figure 60 = .ok (.getfield 118, 3) := by decide +kernel
theorem d_R_figure_63 : decode b_R_figure 63 = .ok (.ireturn, 1) := by decide +kernel
theorem d_R_figure_64 : decode b_R_figure 64 = .ok (.iconst (-1), 1) := by decide +kernel
theorem d_R_figure_65 : decode b_R_figure 65 = .ok (.ireturn, 1) := by decide +kernel
theorem d_R_above_0 : decode b_R_above 0 = .ok (.iload_n 1, 1) := by decide +kernel
theorem d_R_above_1 : decode b_R_above 1 = .ok (.invokestatic 41, 3) := by decide +kernel
theorem d_R_above_4 : decode b_R_above 4 = .ok (.ifCond .eq 10, 3) := by decide +kernel
theorem d_R_above_7 : decode b_R_above 7 = .ok (.iload_n 2, 1) := by decide +kernel
theorem d_R_above_8 : decode b_R_above 8 = .ok (.invokestatic 41, 3) := by decide +kernel
theorem d_R_above_11 : decode b_R_above 11 = .ok (.ifCond .ne 6, 3) := by decide +kernel
theorem d_R_above_14 : decode b_R_above 14 = .ok (.bipush (-2), 2) := by decide +kernel
theorem d_R_above_16 : decode b_R_above 16 = .ok (.ireturn, 1) := by decide +kernel
theorem d_R_above_17 : decode b_R_above 17 = .ok (.iload_n 1, 1) := by decide +kernel
theorem d_R_above_18 : decode b_R_above 18 = .ok (.iload_n 2, 1) := by decide +kernel
theorem d_R_above_19 : decode b_R_above 19 = .ok (.if_icmp .ne 5, 3) := by decide +kernel
theorem d_R_above_22 : decode b_R_above 22 = .ok (.iconst 0, 1) := by decide +kernel
theorem d_R_above_23 : decode b_R_above 23 = .ok (.ireturn, 1) := by decide +kernel
theorem d_R_above_24 : decode b_R_above 24 = .ok (.iload_n 1, 1) := by decide +kernel
theorem d_R_above_25 : decode b_R_above 25 = .ok (.iload_n 2, 1) := by decide +kernel
theorem d_R_above_26 : decode b_R_above 26 = .ok (.invokestatic 121, 3) := by decide +kernel
theorem d_R_above_29 : decode b_R_above 29 = .ok (.ifCond .eq 7, 3) := by decide +kernel
theorem d_R_above_32 : decode b_R_above 32 = .ok (.iconst (-1), 1) := by decide +kernel
theorem d_R_above_33 : decode b_R_above 33 = .ok (.goto 4, 3) := by decide +kernel
theorem d_R_above_36 : decode b_R_above 36 = .ok (.iconst 1, 1) := by decide +kernel
theorem d_R_above_37 : decode b_R_above 37 = .ok (.ireturn, 1) := by decide +kernel
theorem d_R_isType_0 : decode b_R_isType 0 = .ok (.iload_n 0, 1) := by decide +kernel
theorem d_R_isType_1 : decode b_R_isType 1 = .ok (.iconst 1, 1) := by decide +kernel
theorem d_R_isType_2 : decode b_R_isType 2 = .ok (.if_icmp .lt 12, 3) := by decide +kernel
theorem d_R_isType_5 : decode b_R_isType 5 = .ok (.iload_n 0, 1) := by decide +kernel
theorem d_R_isType_6 : decode b_R_isType 6 = .ok (.iconst 5, 1) := by decide +kernel
theorem d_R_isType_7 : decode b_R_isType 7 = .ok (.if_icmp .gt 7, 3) := by decide +kernel
theorem d_R_isType_10 : decode b_R_isType 10 = .ok (.iconst 1, 1) := by decide +kernel
theorem d_R_isType_11 : decode b_R_isType 11 = .ok (.goto 4, 3) := by decide +kernel
theorem d_R_isType_14 : decode b_R_isType 14 = .ok (.iconst 0, 1) := by decide +kernel
theorem d_R_isType_15 : decode b_R_isType 15 = .ok (.ireturn, 1) := by decide +kernel
theorem d_R_isKey_0 : decode b_R_isKey 0 = .ok (.iload_n 0, 1) := by decide +kernel
theorem d_R_isKey_1 : decode b_R_isKey 1 = .ok (.iconst 1, 1) := by decide +kernel
theorem d_R_isKey_2 : decode b_R_isKey 2 = .ok (.if_icmp .lt 13, 3) := by decide +kernel
theorem d_R_isKey_5 : decode b_R_isKey 5 = .ok (.iload_n 0, 1) := by decide +kernel
theorem d_R_isKey_6 : decode b_R_isKey 6 = .ok (.ldc 124, 2) := by decide +kernel
theorem d_R_isKey_8 : decode b_R_isKey 8 = .ok (.if_icmp .gt 7, 3) := by decide +kernel
theorem d_R_isKey_11 : decode b_R_isKey 11 = .ok (.iconst 1, 1) := by decide +kernel
theorem d_R_isKey_12 : decode b_R_isKey 12 = .ok (.goto 4, 3) := by decide +kernel
theorem d_R_isKey_15 : decode b_R_isKey 15 = .ok (.iconst 0, 1) := by decide +kernel
theorem d_R_isKey_16 : decode b_R_isKey 16 = .ok (.ireturn, 1) := by decide +kernel
theorem d_R_isData_0 : decode b_R_isData 0 = .ok (.iload_n 0, 1) := by decide +kernel
theorem d_R_isData_1 : decode b_R_isData 1 = .ok (.tableswitch 47 3 5 #[27, 37, 42], 27) := by decide +kernel
theorem d_R_isData_28 : decode b_R_isData 28 = .ok (.iload_n 1, 1) := by decide +kernel
theorem d_R_isData_29 : decode b_R_isData 29 = .ok (.ifCond .lt 7, 3) := by decide +kernel
theorem d_R_isData_32 : decode b_R_isData 32 = .ok (.iconst 1, 1) := by decide +kernel
theorem d_R_isData_33 : decode b_R_isData 33 = .ok (.goto 4, 3) := by decide +kernel
theorem d_R_isData_36 : decode b_R_isData 36 = .ok (.iconst 0, 1) := by decide +kernel
theorem d_R_isData_37 : decode b_R_isData 37 = .ok (.ireturn, 1) := by decide +kernel
theorem d_R_isData_38 : decode b_R_isData 38 = .ok (.iload_n 1, 1) := by decide +kernel
theorem d_R_isData_39 : decode b_R_isData 39 = .ok (.invokestatic 69, 3) := by decide +kernel
theorem d_R_isData_42 : decode b_R_isData 42 = .ok (.ireturn, 1) := by decide +kernel
theorem d_R_isData_43 : decode b_R_isData 43 = .ok (.iload_n 1, 1) := by decide +kernel
theorem d_R_isData_44 : decode b_R_isData 44 = .ok (.invokestatic 125, 3) := by decide +kernel
theorem d_R_isData_47 : decode b_R_isData 47 = .ok (.ireturn, 1) := by decide +kernel
theorem d_R_isData_48 : decode b_R_isData 48 = .ok (.iconst 1, 1) := by decide +kernel
theorem d_R_isData_49 : decode b_R_isData 49 = .ok (.ireturn, 1) := by decide +kernel
theorem d_R_verdictOf_0 : decode b_R_verdictOf 0 = .ok (.iload_n 0, 1) := by decide +kernel
theorem d_R_verdictOf_1 : decode b_R_verdictOf 1 = .ok (.tableswitch 85 1 16 #[79, 85, 85, 85, 85, 81, 85, 83, 83, 85, 85, 83, 85, 85, 83, 83], 79) := by decide +kernel
theorem d_R_verdictOf_80 : decode b_R_verdictOf 80 = .ok (.iconst 3, 1) := by decide +kernel
theorem d_R_verdictOf_81 : decode b_R_verdictOf 81 = .ok (.ireturn, 1) := by decide +kernel
theorem d_R_verdictOf_82 : decode b_R_verdictOf 82 = .ok (.iconst 1, 1) := by decide +kernel
theorem d_R_verdictOf_83 : decode b_R_verdictOf 83 = .ok (.ireturn, 1) := by decide +kernel
theorem d_R_verdictOf_84 : decode b_R_verdictOf 84 = .ok (.iconst 0, 1) := by decide +kernel
theorem d_R_verdictOf_85 : decode b_R_verdictOf 85 = .ok (.ireturn, 1) := by decide +kernel
theorem d_R_verdictOf_86 : decode b_R_verdictOf 86 = .ok (.iconst 2, 1) := by decide +kernel
theorem d_R_verdictOf_87 : decode b_R_verdictOf 87 = .ok (.ireturn, 1) := by decide +kernel
theorem d_Na_isName_0 : decode b_Na_isName 0 = .ok (.iload_n 0, 1) := by decide +kernel
theorem d_Na_isName_1 : decode b_Na_isName 1 = .ok (.ifCond .lt 9, 3) := by decide +kernel
theorem d_Na_isName_4 : decode b_Na_isName 4 = .ok (.iload_n 0, 1) := by decide +kernel
theorem d_Na_isName_5 : decode b_Na_isName 5 = .ok (.ldc 9, 2) := by decide +kernel
theorem d_Na_isName_7 : decode b_Na_isName 7 = .ok (.if_icmp .lt 5, 3) := by decide +kernel
theorem d_Na_isName_10 : decode b_Na_isName 10 = .ok (.iconst 0, 1) := by decide +kernel
theorem d_Na_isName_11 : decode b_Na_isName 11 = .ok (.ireturn, 1) := by decide +kernel
theorem d_Na_isName_12 : decode b_Na_isName 12 = .ok (.iconst 0, 1) := by decide +kernel
theorem d_Na_isName_13 : decode b_Na_isName 13 = .ok (.istore_n 1, 1) := by decide +kernel
theorem d_Na_isName_14 : decode b_Na_isName 14 = .ok (.bipush 15, 2) := by decide +kernel
theorem d_Na_isName_16 : decode b_Na_isName 16 = .ok (.istore_n 2, 1) := by decide +kernel
theorem d_Na_isName_17 : decode b_Na_isName 17 = .ok (.iload_n 2, 1) := by decide +kernel
theorem d_Na_isName_18 : decode b_Na_isName 18 = .ok (.ifCond .lt 42, 3) := by decide +kernel
theorem d_Na_isName_21 : decode b_Na_isName 21 = .ok (.iload_n 0, 1) := by decide +kernel
theorem d_Na_isName_22 : decode b_Na_isName 22 = .ok (.iload_n 2, 1) := by decide +kernel
theorem d_Na_isName_23 : decode b_Na_isName 23 = .ok (.ishr, 1) := by decide +kernel
theorem d_Na_isName_24 : decode b_Na_isName 24 = .ok (.bipush 31, 2) := by decide +kernel
theorem d_Na_isName_26 : decode b_Na_isName 26 = .ok (.iand, 1) := by decide +kernel
theorem d_Na_isName_27 : decode b_Na_isName 27 = .ok (.istore_n 3, 1) := by decide +kernel
theorem d_Na_isName_28 : decode b_Na_isName 28 = .ok (.iload_n 3, 1) := by decide +kernel
theorem d_Na_isName_29 : decode b_Na_isName 29 = .ok (.bipush 27, 2) := by decide +kernel
theorem d_Na_isName_31 : decode b_Na_isName 31 = .ok (.if_icmp .gt 11, 3) := by decide +kernel
theorem d_Na_isName_34 : decode b_Na_isName 34 = .ok (.iload_n 1, 1) := by decide +kernel
theorem d_Na_isName_35 : decode b_Na_isName 35 = .ok (.ifCond .eq 9, 3) := by decide +kernel
theorem d_Na_isName_38 : decode b_Na_isName 38 = .ok (.iload_n 3, 1) := by decide +kernel
theorem d_Na_isName_39 : decode b_Na_isName 39 = .ok (.ifCond .eq 5, 3) := by decide +kernel
theorem d_Na_isName_42 : decode b_Na_isName 42 = .ok (.iconst 0, 1) := by decide +kernel
theorem d_Na_isName_43 : decode b_Na_isName 43 = .ok (.ireturn, 1) := by decide +kernel
theorem d_Na_isName_44 : decode b_Na_isName 44 = .ok (.iload_n 3, 1) := by decide +kernel
theorem d_Na_isName_45 : decode b_Na_isName 45 = .ok (.ifCond .ne 7, 3) := by decide +kernel
theorem d_Na_isName_48 : decode b_Na_isName 48 = .ok (.iconst 1, 1) := by decide +kernel
theorem d_Na_isName_49 : decode b_Na_isName 49 = .ok (.goto 4, 3) := by decide +kernel
theorem d_Na_isName_52 : decode b_Na_isName 52 = .ok (.iconst 0, 1) := by decide +kernel
theorem d_Na_isName_53 : decode b_Na_isName 53 = .ok (.istore_n 1, 1) := by decide +kernel
theorem d_Na_isName_54 : decode b_Na_isName 54 = .ok (.iinc 2 (-5), 3) := by decide +kernel
theorem d_Na_isName_57 : decode b_Na_isName 57 = .ok (.goto (-40), 3) := by decide +kernel
theorem d_Na_isName_60 : decode b_Na_isName 60 = .ok (.iconst 1, 1) := by decide +kernel
theorem d_Na_isName_61 : decode b_Na_isName 61 = .ok (.ireturn, 1) := by decide +kernel
theorem d_Na_depth_0 : decode b_Na_depth 0 = .ok (.iconst 0, 1) := by decide +kernel
theorem d_Na_depth_1 : decode b_Na_depth 1 = .ok (.istore_n 1, 1) := by decide +kernel
theorem d_Na_depth_2 : decode b_Na_depth 2 = .ok (.bipush 15, 2) := by decide +kernel
theorem d_Na_depth_4 : decode b_Na_depth 4 = .ok (.istore_n 2, 1) := by decide +kernel
theorem d_Na_depth_5 : decode b_Na_depth 5 = .ok (.iload_n 2, 1) := by decide +kernel
theorem d_Na_depth_6 : decode b_Na_depth 6 = .ok (.ifCond .lt 21, 3) := by decide +kernel
theorem d_Na_depth_9 : decode b_Na_depth 9 = .ok (.iload_n 0, 1) := by decide +kernel
theorem d_Na_depth_10 : decode b_Na_depth 10 = .ok (.iload_n 2, 1) := by decide +kernel
theorem d_Na_depth_11 : decode b_Na_depth 11 = .ok (.ishr, 1) := by decide +kernel
theorem d_Na_depth_12 : decode b_Na_depth 12 = .ok (.bipush 31, 2) := by decide +kernel
theorem d_Na_depth_14 : decode b_Na_depth 14 = .ok (.iand, 1) := by decide +kernel
theorem d_Na_depth_15 : decode b_Na_depth 15 = .ok (.ifCond .eq 6, 3) := by decide +kernel
theorem d_Na_depth_18 : decode b_Na_depth 18 = .ok (.iinc 1 1, 3) := by decide +kernel
theorem d_Na_depth_21 : decode b_Na_depth 21 = .ok (.iinc 2 (-5), 3) := by decide +kernel
theorem d_Na_depth_24 : decode b_Na_depth 24 = .ok (.goto (-19), 3) := by decide +kernel
theorem d_Na_depth_27 : decode b_Na_depth 27 = .ok (.iload_n 1, 1) := by decide +kernel
theorem d_Na_depth_28 : decode b_Na_depth 28 = .ok (.ireturn, 1) := by decide +kernel
theorem d_Na_firstLabels_0 : decode b_Na_firstLabels 0 = .ok (.bipush 20, 2) := by decide +kernel
theorem d_Na_firstLabels_2 : decode b_Na_firstLabels 2 = .ok (.iconst 5, 1) := by decide +kernel
theorem d_Na_firstLabels_3 : decode b_Na_firstLabels 3 = .ok (.iload_n 1, 1) := by decide +kernel
theorem d_Na_firstLabels_4 : decode b_Na_firstLabels 4 = .ok (.imul, 1) := by decide +kernel
theorem d_Na_firstLabels_5 : decode b_Na_firstLabels 5 = .ok (.isub, 1) := by decide +kernel
theorem d_Na_firstLabels_6 : decode b_Na_firstLabels 6 = .ok (.istore_n 2, 1) := by decide +kernel
theorem d_Na_firstLabels_7 : decode b_Na_firstLabels 7 = .ok (.iload_n 0, 1) := by decide +kernel
theorem d_Na_firstLabels_8 : decode b_Na_firstLabels 8 = .ok (.iload_n 2, 1) := by decide +kernel
theorem d_Na_firstLabels_9 : decode b_Na_firstLabels 9 = .ok (.ishr, 1) := by decide +kernel
theorem d_Na_firstLabels_10 : decode b_Na_firstLabels 10 = .ok (.iload_n 2, 1) := by decide +kernel
theorem d_Na_firstLabels_11 : decode b_Na_firstLabels 11 = .ok (.ishl, 1) := by decide +kernel
theorem d_Na_firstLabels_12 : decode b_Na_firstLabels 12 = .ok (.ireturn, 1) := by decide +kernel
theorem d_Na_isOrAbove_0 : decode b_Na_isOrAbove 0 = .ok (.iload_n 1, 1) := by decide +kernel
theorem d_Na_isOrAbove_1 : decode b_Na_isOrAbove 1 = .ok (.iload_n 0, 1) := by decide +kernel
theorem d_Na_isOrAbove_2 : decode b_Na_isOrAbove 2 = .ok (.invokestatic 10, 3) := by decide +kernel
theorem d_Na_isOrAbove_5 : decode b_Na_isOrAbove 5 = .ok (.invokestatic 14, 3) := by decide +kernel
theorem d_Na_isOrAbove_8 : decode b_Na_isOrAbove 8 = .ok (.iload_n 0, 1) := by decide +kernel
theorem d_Na_isOrAbove_9 : decode b_Na_isOrAbove 9 = .ok (.if_icmp .ne 7, 3) := by decide +kernel
theorem d_Na_isOrAbove_12 : decode b_Na_isOrAbove 12 = .ok (.iconst 1, 1) := by decide +kernel
theorem d_Na_isOrAbove_13 : decode b_Na_isOrAbove 13 = .ok (.goto 4, 3) := by decide +kernel
theorem d_Na_isOrAbove_16 : decode b_Na_isOrAbove 16 = .ok (.iconst 0, 1) := by decide +kernel
theorem d_Na_isOrAbove_17 : decode b_Na_isOrAbove 17 = .ok (.ireturn, 1) := by decide +kernel
theorem d_Na_starOf_0 : decode b_Na_starOf 0 = .ok (.iload_n 0, 1) := by decide +kernel
theorem d_Na_starOf_1 : decode b_Na_starOf 1 = .ok (.iconst 1, 1) := by decide +kernel
theorem d_Na_starOf_2 : decode b_Na_starOf 2 = .ok (.bipush 15, 2) := by decide +kernel
theorem d_Na_starOf_4 : decode b_Na_starOf 4 = .ok (.iconst 5, 1) := by decide +kernel
theorem d_Na_starOf_5 : decode b_Na_starOf 5 = .ok (.iload_n 0, 1) := by decide +kernel
theorem d_Na_starOf_6 : decode b_Na_starOf 6 = .ok (.invokestatic 10, 3) := by decide +kernel
theorem d_Na_starOf_9 : decode b_Na_starOf 9 = .ok (.imul, 1) := by decide +kernel
theorem d_Na_starOf_10 : decode b_Na_starOf 10 = .ok (.isub, 1) := by decide +kernel
theorem d_Na_starOf_11 : decode b_Na_starOf 11 = .ok (.ishl, 1) := by decide +kernel
theorem d_Na_starOf_12 : decode b_Na_starOf 12 = .ok (.ior, 1) := by decide +kernel
theorem d_Na_starOf_13 : decode b_Na_starOf 13 = .ok (.ireturn, 1) := by decide +kernel
theorem d_Na_setOf_0 : decode b_Na_setOf 0 = .ok (.iload_n 0, 1) := by decide +kernel
theorem d_Na_setOf_1 : decode b_Na_setOf 1 = .ok (.iconst 3, 1) := by decide +kernel
theorem d_Na_setOf_2 : decode b_Na_setOf 2 = .ok (.ishl, 1) := by decide +kernel
theorem d_Na_setOf_3 : decode b_Na_setOf 3 = .ok (.iload_n 1, 1) := by decide +kernel
theorem d_Na_setOf_4 : decode b_Na_setOf 4 = .ok (.ior, 1) := by decide +kernel
theorem d_Na_setOf_5 : decode b_Na_setOf 5 = .ok (.ireturn, 1) := by decide +kernel
theorem d_Na_ownerOf_0 : decode b_Na_ownerOf 0 = .ok (.iload_n 0, 1) := by decide +kernel
theorem d_Na_ownerOf_1 : decode b_Na_ownerOf 1 = .ok (.iconst 3, 1) := by decide +kernel
theorem d_Na_ownerOf_2 : decode b_Na_ownerOf 2 = .ok (.ishr, 1) := by decide +kernel
theorem d_Na_ownerOf_3 : decode b_Na_ownerOf 3 = .ok (.ireturn, 1) := by decide +kernel
theorem d_Na_typeOf_0 : decode b_Na_typeOf 0 = .ok (.iload_n 0, 1) := by decide +kernel
theorem d_Na_typeOf_1 : decode b_Na_typeOf 1 = .ok (.bipush 7, 2) := by decide +kernel
theorem d_Na_typeOf_3 : decode b_Na_typeOf 3 = .ok (.iand, 1) := by decide +kernel
theorem d_Na_typeOf_4 : decode b_Na_typeOf 4 = .ok (.ireturn, 1) := by decide +kernel
theorem d_To_isTold_0 : decode b_To_isTold 0 = .ok (.iload_n 0, 1) := by decide +kernel
theorem d_To_isTold_1 : decode b_To_isTold 1 = .ok (.ifCond .lt 23, 3) := by decide +kernel
theorem d_To_isTold_4 : decode b_To_isTold 4 = .ok (.iload_n 0, 1) := by decide +kernel
theorem d_To_isTold_5 : decode b_To_isTold 5 = .ok (.ldc 13, 2) := by decide +kernel
theorem d_To_isTold_7 : decode b_To_isTold 7 = .ok (.if_icmp .ge 17, 3) := by decide +kernel
theorem d_To_isTold_10 : decode b_To_isTold 10 = .ok (.iload_n 0, 1) := by decide +kernel
theorem d_To_isTold_11 : decode b_To_isTold 11 = .ok (.invokestatic 14, 3) := by decide +kernel
theorem d_To_isTold_14 : decode b_To_isTold 14 = .ok (.invokestatic 18, 3) := by decide +kernel
theorem d_To_isTold_17 : decode b_To_isTold 17 = .ok (.ifCond .eq 7, 3) := by decide +kernel
theorem d_To_isTold_20 : decode b_To_isTold 20 = .ok (.iconst 1, 1) := by decide +kernel
theorem d_To_isTold_21 : decode b_To_isTold 21 = .ok (.goto 4, 3) := by decide +kernel
theorem d_To_isTold_24 : decode b_To_isTold 24 = .ok (.iconst 0, 1) := by decide +kernel
theorem d_To_isTold_25 : decode b_To_isTold 25 = .ok (.ireturn, 1) := by decide +kernel
theorem d_To_nameIn_0 : decode b_To_nameIn 0 = .ok (.iload_n 0, 1) := by decide +kernel
theorem d_To_nameIn_1 : decode b_To_nameIn 1 = .ok (.ldc 22, 2) := by decide +kernel
theorem d_To_nameIn_3 : decode b_To_nameIn 3 = .ok (.iand, 1) := by decide +kernel
theorem d_To_nameIn_4 : decode b_To_nameIn 4 = .ok (.ireturn, 1) := by decide +kernel
theorem d_To_hasType_0 : decode b_To_hasType 0 = .ok (.iload_n 0, 1) := by decide +kernel
theorem d_To_hasType_1 : decode b_To_hasType 1 = .ok (.bipush 20, 2) := by decide +kernel
theorem d_To_hasType_3 : decode b_To_hasType 3 = .ok (.iload_n 1, 1) := by decide +kernel
theorem d_To_hasType_4 : decode b_To_hasType 4 = .ok (.iadd, 1) := by decide +kernel
theorem d_To_hasType_5 : decode b_To_hasType 5 = .ok (.iconst 1, 1) := by decide +kernel
theorem d_To_hasType_6 : decode b_To_hasType 6 = .ok (.isub, 1) := by decide +kernel
theorem d_To_hasType_7 : decode b_To_hasType 7 = .ok (.ishr, 1) := by decide +kernel
theorem d_To_hasType_8 : decode b_To_hasType 8 = .ok (.iconst 1, 1) := by decide +kernel
theorem d_To_hasType_9 : decode b_To_hasType 9 = .ok (.iand, 1) := by decide +kernel
theorem d_To_hasType_10 : decode b_To_hasType 10 = .ok (.ifCond .eq 7, 3) := by decide +kernel
theorem d_To_hasType_13 : decode b_To_hasType 13 = .ok (.iconst 1, 1) := by decide +kernel
theorem d_To_hasType_14 : decode b_To_hasType 14 = .ok (.goto 4, 3) := by decide +kernel
theorem d_To_hasType_17 : decode b_To_hasType 17 = .ok (.iconst 0, 1) := by decide +kernel
theorem d_To_hasType_18 : decode b_To_hasType 18 = .ok (.ireturn, 1) := by decide +kernel
theorem d_Di_mix_0 : decode b_Di_mix 0 = .ok (.lload_n 0, 1) := by decide +kernel
theorem d_Di_mix_1 : decode b_Di_mix 1 = .ok (.iload_n 2, 1) := by decide +kernel
theorem d_Di_mix_2 : decode b_Di_mix 2 = .ok (.i2l, 1) := by decide +kernel
theorem d_Di_mix_3 : decode b_Di_mix 3 = .ok (.lxor, 1) := by decide +kernel
theorem d_Di_mix_4 : decode b_Di_mix 4 = .ok (.ldc2_w 9, 3) := by decide +kernel
theorem d_Di_mix_7 : decode b_Di_mix 7 = .ok (.lmul, 1) := by decide +kernel
theorem d_Di_mix_8 : decode b_Di_mix 8 = .ok (.lstore_n 3, 1) := by decide +kernel
theorem d_Di_mix_9 : decode b_Di_mix 9 = .ok (.lload_n 3, 1) := by decide +kernel
theorem d_Di_mix_10 : decode b_Di_mix 10 = .ok (.lload_n 3, 1) := by decide +kernel
theorem d_Di_mix_11 : decode b_Di_mix 11 = .ok (.bipush 30, 2) := by decide +kernel
theorem d_Di_mix_13 : decode b_Di_mix 13 = .ok (.lushr, 1) := by decide +kernel
theorem d_Di_mix_14 : decode b_Di_mix 14 = .ok (.lxor, 1) := by decide +kernel
theorem d_Di_mix_15 : decode b_Di_mix 15 = .ok (.lreturn, 1) := by decide +kernel
theorem d_Di_end_0 : decode b_Di_end 0 = .ok (.lload_n 0, 1) := by decide +kernel
theorem d_Di_end_1 : decode b_Di_end 1 = .ok (.bipush 33, 2) := by decide +kernel
theorem d_Di_end_3 : decode b_Di_end 3 = .ok (.lushr, 1) := by decide +kernel
theorem d_Di_end_4 : decode b_Di_end 4 = .ok (.l2i, 1) := by decide +kernel
theorem d_Di_end_5 : decode b_Di_end 5 = .ok (.ireturn, 1) := by decide +kernel
theorem d_Di_sealOf_0 : decode b_Di_sealOf 0 = .ok (.lconst 0, 1) := by decide +kernel
theorem d_Di_sealOf_1 : decode b_Di_sealOf 1 = .ok (.bipush 77, 2) := by decide +kernel
theorem d_Di_sealOf_3 : decode b_Di_sealOf 3 = .ok (.invokestatic 11, 3) := by decide +kernel
theorem d_Di_sealOf_6 : decode b_Di_sealOf 6 = .ok (.iload_n 0, 1) := by decide +kernel
theorem d_Di_sealOf_7 : decode b_Di_sealOf 7 = .ok (.invokestatic 11, 3) := by decide +kernel
theorem d_Di_sealOf_10 : decode b_Di_sealOf 10 = .ok (.iload_n 1, 1) := by decide +kernel
theorem d_Di_sealOf_11 : decode b_Di_sealOf 11 = .ok (.invokestatic 11, 3) := by decide +kernel
theorem d_Di_sealOf_14 : decode b_Di_sealOf 14 = .ok (.invokestatic 15, 3) := by decide +kernel
theorem d_Di_sealOf_17 : decode b_Di_sealOf 17 = .ok (.ireturn, 1) := by decide +kernel
theorem d_Re_init_0 : decode b_Re_init 0 = .ok (.aload_n 0, 1) := by decide +kernel
theorem d_Re_init_1 : decode b_Re_init 1 = .ok (.invokespecial 3, 3) := by decide +kernel
theorem d_Re_init_4 : decode b_Re_init 4 = .ok (.aload_n 0, 1) := by decide +kernel
theorem d_Re_init_5 : decode b_Re_init 5 = .ok (.bipush 48, 2) := by decide +kernel
theorem d_Re_init_7 : decode b_Re_init 7 = .ok (.newarray .int, 2) := by decide +kernel
theorem d_Re_init_9 : decode b_Re_init 9 = .ok (.putfield 9, 3) := by decide +kernel
theorem d_Re_init_12 : decode b_Re_init 12 = .ok (.aload_n 0, 1) := by decide +kernel
theorem d_Re_init_13 : decode b_Re_init 13 = .ok (.bipush 48, 2) := by decide +kernel
theorem d_Re_init_15 : decode b_Re_init 15 = .ok (.newarray .int, 2) := by decide +kernel
theorem d_Re_init_17 : decode b_Re_init 17 = .ok (.putfield 15, 3) := by decide +kernel
theorem d_Re_init_20 : decode b_Re_init 20 = .ok (.aload_n 0, 1) := by decide +kernel
theorem d_Re_init_21 : decode b_Re_init 21 = .ok (.iconst 0, 1) := by decide +kernel
theorem d_Re_init_22 : decode b_Re_init 22 = .ok (.putfield 18, 3) := by decide +kernel
theorem d_Re_init_25 : decode b_Re_init 25 = .ok (.return_, 1) := by decide +kernel
theorem d_Re_put_0 : decode b_Re_put 0 = .ok (.aload_n 0, 1) := by decide +kernel
theorem d_Re_put_1 : decode b_Re_put 1 = .ok (.iload_n 1, 1) := by decide +kernel
theorem d_Re_put_2 : decode b_Re_put 2 = .ok (.iload_n 2, 1) := by decide +kernel
theorem d_Re_put_3 : decode b_Re_put 3 = .ok (.invokevirtual 22, 3) := by decide +kernel
theorem d_Re_put_6 : decode b_Re_put 6 = .ok (.istore_n 3, 1) := by decide +kernel
theorem d_Re_put_7 : decode b_Re_put 7 = .ok (.iload_n 3, 1) := by decide +kernel
theorem d_Re_put_8 : decode b_Re_put 8 = .ok (.aload_n 0, 1) := by decide +kernel
theorem d_Re_put_9 : decode b_Re_put 9 = .ok (.getfield 18, 3) := by decide +kernel
theorem d_Re_put_12 : decode b_Re_put 12 = .ok (.if_icmp .ge 29, 3) := by decide +kernel
theorem d_Re_put_15 : decode b_Re_put 15 = .ok (.aload_n 0, 1) := by decide +kernel
theorem d_Re_put_16 : decode b_Re_put 16 = .ok (.getfield 9, 3) := by decide +kernel
theorem d_Re_put_19 : decode b_Re_put 19 = .ok (.iload_n 3, 1) := by decide +kernel
theorem d_Re_put_20 : decode b_Re_put 20 = .ok (.iaload, 1) := by decide +kernel
theorem d_Re_put_21 : decode b_Re_put 21 = .ok (.iload_n 1, 1) := by decide +kernel
theorem d_Re_put_22 : decode b_Re_put 22 = .ok (.if_icmp .ne 19, 3) := by decide +kernel
theorem d_Re_put_25 : decode b_Re_put 25 = .ok (.aload_n 0, 1) := by decide +kernel
theorem d_Re_put_26 : decode b_Re_put 26 = .ok (.getfield 15, 3) := by decide +kernel
theorem d_Re_put_29 : decode b_Re_put 29 = .ok (.iload_n 3, 1) := by decide +kernel
theorem d_Re_put_30 : decode b_Re_put 30 = .ok (.iaload, 1) := by decide +kernel
theorem d_Re_put_31 : decode b_Re_put 31 = .ok (.iload_n 2, 1) := by decide +kernel
theorem d_Re_put_32 : decode b_Re_put 32 = .ok (.if_icmp .ne 9, 3) := by decide +kernel
theorem d_Re_put_35 : decode b_Re_put 35 = .ok (.aload_n 0, 1) := by decide +kernel
theorem d_Re_put_36 : decode b_Re_put 36 = .ok (.iload_n 1, 1) := by decide +kernel
theorem d_Re_put_37 : decode b_Re_put 37 = .ok (.invokevirtual 26, 3) := by decide +kernel
theorem d_Re_put_40 : decode b_Re_put 40 = .ok (.ireturn, 1) := by decide +kernel
theorem d_Re_put_41 : decode b_Re_put 41 = .ok (.aload_n 0, 1) := by decide +kernel
theorem d_Re_put_42 : decode b_Re_put 42 = .ok (.getfield 18, 3) := by decide +kernel
theorem d_Re_put_45 : decode b_Re_put 45 = .ok (.bipush 48, 2) := by decide +kernel
theorem d_Re_put_47 : decode b_Re_put 47 = .ok (.if_icmp .lt 6, 3) := by decide +kernel
theorem d_Re_put_50 : decode b_Re_put 50 = .ok (.bipush (-2), 2) := by decide +kernel
theorem d_Re_put_52 : decode b_Re_put 52 = .ok (.ireturn, 1) := by decide +kernel
theorem d_Re_put_53 : decode b_Re_put 53 = .ok (.aload_n 0, 1) := by decide +kernel
theorem d_Re_put_54 : decode b_Re_put 54 = .ok (.getfield 18, 3) := by decide +kernel
theorem d_Re_put_57 : decode b_Re_put 57 = .ok (.istore 4, 2) := by decide +kernel
theorem d_Re_put_59 : decode b_Re_put 59 = .ok (.iload 4, 2) := by decide +kernel
theorem d_Re_put_61 : decode b_Re_put 61 = .ok (.iload_n 3, 1) := by decide +kernel
theorem d_Re_put_62 : decode b_Re_put 62 = .ok (.if_icmp .le 41, 3) := by decide +kernel
theorem d_Re_put_65 : decode b_Re_put 65 = .ok (.aload_n 0, 1) := by decide +kernel
theorem d_Re_put_66 : decode b_Re_put 66 = .ok (.getfield 9, 3) := by decide +kernel
theorem d_Re_put_69 : decode b_Re_put 69 = .ok (.iload 4, 2) := by decide +kernel
theorem d_Re_put_71 : decode b_Re_put 71 = .ok (.aload_n 0, 1) := by decide +kernel
theorem d_Re_put_72 : decode b_Re_put 72 = .ok (.getfield 9, 3) := by decide +kernel
theorem d_Re_put_75 : decode b_Re_put 75 = .ok (.iload 4, 2) := by decide +kernel
theorem d_Re_put_77 : decode b_Re_put 77 = .ok (.iconst 1, 1) := by decide +kernel
theorem d_Re_put_78 : decode b_Re_put 78 = .ok (.isub, 1) := by decide +kernel
theorem d_Re_put_79 : decode b_Re_put 79 = .ok (.iaload, 1) := by decide +kernel
theorem d_Re_put_80 : decode b_Re_put 80 = .ok (.iastore, 1) := by decide +kernel
theorem d_Re_put_81 : decode b_Re_put 81 = .ok (.aload_n 0, 1) := by decide +kernel
theorem d_Re_put_82 : decode b_Re_put 82 = .ok (.getfield 15, 3) := by decide +kernel
theorem d_Re_put_85 : decode b_Re_put 85 = .ok (.iload 4, 2) := by decide +kernel
theorem d_Re_put_87 : decode b_Re_put 87 = .ok (.aload_n 0, 1) := by decide +kernel
theorem d_Re_put_88 : decode b_Re_put 88 = .ok (.getfield 15, 3) := by decide +kernel
theorem d_Re_put_91 : decode b_Re_put 91 = .ok (.iload 4, 2) := by decide +kernel
theorem d_Re_put_93 : decode b_Re_put 93 = .ok (.iconst 1, 1) := by decide +kernel
theorem d_Re_put_94 : decode b_Re_put 94 = .ok (.isub, 1) := by decide +kernel
theorem d_Re_put_95 : decode b_Re_put 95 = .ok (.iaload, 1) := by decide +kernel
theorem d_Re_put_96 : decode b_Re_put 96 = .ok (.iastore, 1) := by decide +kernel
theorem d_Re_put_97 : decode b_Re_put 97 = .ok (.iinc 4 (-1), 3) := by decide +kernel
theorem d_Re_put_100 : decode b_Re_put 100 = .ok (.goto (-41), 3) := by decide +kernel
theorem d_Re_put_103 : decode b_Re_put 103 = .ok (.aload_n 0, 1) := by decide +kernel
theorem d_Re_put_104 : decode b_Re_put 104 = .ok (.getfield 9, 3) := by decide +kernel
theorem d_Re_put_107 : decode b_Re_put 107 = .ok (.iload_n 3, 1) := by decide +kernel
theorem d_Re_put_108 : decode b_Re_put 108 = .ok (.iload_n 1, 1) := by decide +kernel
theorem d_Re_put_109 : decode b_Re_put 109 = .ok (.iastore, 1) := by decide +kernel
theorem d_Re_put_110 : decode b_Re_put 110 = .ok (.aload_n 0, 1) := by decide +kernel
theorem d_Re_put_111 : decode b_Re_put 111 = .ok (.getfield 15, 3) := by decide +kernel
theorem d_Re_put_114 : decode b_Re_put 114 = .ok (.iload_n 3, 1) := by decide +kernel
theorem d_Re_put_115 : decode b_Re_put 115 = .ok (.iload_n 2, 1) := by decide +kernel
theorem d_Re_put_116 : decode b_Re_put 116 = .ok (.iastore, 1) := by decide +kernel
theorem d_Re_put_117 : decode b_Re_put 117 = .ok (.aload_n 0, 1) := by decide +kernel
theorem d_Re_put_118 : decode b_Re_put 118 = .ok (.dup, 1) := by decide +kernel
theorem d_Re_put_119 : decode b_Re_put 119 = .ok (.getfield 18, 3) := by decide +kernel
theorem d_Re_put_122 : decode b_Re_put 122 = .ok (.iconst 1, 1) := by decide +kernel
theorem d_Re_put_123 : decode b_Re_put 123 = .ok (.iadd, 1) := by decide +kernel
theorem d_Re_put_124 : decode b_Re_put 124 = .ok (.putfield 18, 3) := by decide +kernel
theorem d_Re_put_127 : decode b_Re_put 127 = .ok (.aload_n 0, 1) := by decide +kernel
theorem d_Re_put_128 : decode b_Re_put 128 = .ok (.iload_n 1, 1) := by decide +kernel
theorem d_Re_put_129 : decode b_Re_put 129 = .ok (.invokevirtual 26, 3) := by decide +kernel
theorem d_Re_put_132 : decode b_Re_put 132 = .ok (.ireturn, 1) := by decide +kernel
theorem d_Re_empty_0 : decode b_Re_empty 0 = .ok (.iconst 0, 1) := by decide +kernel
theorem d_Re_empty_1 : decode b_Re_empty 1 = .ok (.istore_n 2, 1) := by decide +kernel
theorem d_Re_empty_2 : decode b_Re_empty 2 = .ok (.iconst 0, 1) := by decide +kernel
theorem d_Re_empty_3 : decode b_Re_empty 3 = .ok (.istore_n 3, 1) := by decide +kernel
theorem d_Re_empty_4 : decode b_Re_empty 4 = .ok (.iload_n 3, 1) := by decide +kernel
theorem d_Re_empty_5 : decode b_Re_empty 5 = .ok (.aload_n 0, 1) := by decide +kernel
theorem d_Re_empty_6 : decode b_Re_empty 6 = .ok (.getfield 18, 3) := by decide +kernel
theorem d_Re_empty_9 : decode b_Re_empty 9 = .ok (.if_icmp .ge 46, 3) := by decide +kernel
theorem d_Re_empty_12 : decode b_Re_empty 12 = .ok (.aload_n 0, 1) := by decide +kernel
theorem d_Re_empty_13 : decode b_Re_empty 13 = .ok (.getfield 9, 3) := by decide +kernel
theorem d_Re_empty_16 : decode b_Re_empty 16 = .ok (.iload_n 3, 1) := by decide +kernel
theorem d_Re_empty_17 : decode b_Re_empty 17 = .ok (.iaload, 1) := by decide +kernel
theorem d_Re_empty_18 : decode b_Re_empty 18 = .ok (.iload_n 1, 1) := by decide +kernel
theorem d_Re_empty_19 : decode b_Re_empty 19 = .ok (.if_icmp .eq 30, 3) := by decide +kernel
theorem d_Re_empty_22 : decode b_Re_empty 22 = .ok (.aload_n 0, 1) := by decide +kernel
theorem d_Re_empty_23 : decode b_Re_empty 23 = .ok (.getfield 9, 3) := by decide +kernel
theorem d_Re_empty_26 : decode b_Re_empty 26 = .ok (.iload_n 2, 1) := by decide +kernel
theorem d_Re_empty_27 : decode b_Re_empty 27 = .ok (.aload_n 0, 1) := by decide +kernel
theorem d_Re_empty_28 : decode b_Re_empty 28 = .ok (.getfield 9, 3) := by decide +kernel
theorem d_Re_empty_31 : decode b_Re_empty 31 = .ok (.iload_n 3, 1) := by decide +kernel
theorem d_Re_empty_32 : decode b_Re_empty 32 = .ok (.iaload, 1) := by decide +kernel
theorem d_Re_empty_33 : decode b_Re_empty 33 = .ok (.iastore, 1) := by decide +kernel
theorem d_Re_empty_34 : decode b_Re_empty 34 = .ok (.aload_n 0, 1) := by decide +kernel
theorem d_Re_empty_35 : decode b_Re_empty 35 = .ok (.getfield 15, 3) := by decide +kernel
theorem d_Re_empty_38 : decode b_Re_empty 38 = .ok (.iload_n 2, 1) := by decide +kernel
theorem d_Re_empty_39 : decode b_Re_empty 39 = .ok (.aload_n 0, 1) := by decide +kernel
theorem d_Re_empty_40 : decode b_Re_empty 40 = .ok (.getfield 15, 3) := by decide +kernel
theorem d_Re_empty_43 : decode b_Re_empty 43 = .ok (.iload_n 3, 1) := by decide +kernel
theorem d_Re_empty_44 : decode b_Re_empty 44 = .ok (.iaload, 1) := by decide +kernel
theorem d_Re_empty_45 : decode b_Re_empty 45 = .ok (.iastore, 1) := by decide +kernel
theorem d_Re_empty_46 : decode b_Re_empty 46 = .ok (.iinc 2 1, 3) := by decide +kernel
theorem d_Re_empty_49 : decode b_Re_empty 49 = .ok (.iinc 3 1, 3) := by decide +kernel
theorem d_Re_empty_52 : decode b_Re_empty 52 = .ok (.goto (-48), 3) := by decide +kernel
theorem d_Re_empty_55 : decode b_Re_empty 55 = .ok (.aload_n 0, 1) := by decide +kernel
theorem d_Re_empty_56 : decode b_Re_empty 56 = .ok (.getfield 18, 3) := by decide +kernel
theorem d_Re_empty_59 : decode b_Re_empty 59 = .ok (.iload_n 2, 1) := by decide +kernel
theorem d_Re_empty_60 : decode b_Re_empty 60 = .ok (.isub, 1) := by decide +kernel
theorem d_Re_empty_61 : decode b_Re_empty 61 = .ok (.istore_n 3, 1) := by decide +kernel
theorem d_Re_empty_62 : decode b_Re_empty 62 = .ok (.aload_n 0, 1) := by decide +kernel
theorem d_Re_empty_63 : decode b_Re_empty 63 = .ok (.iload_n 2, 1) := by decide +kernel
theorem d_Re_empty_64 : decode b_Re_empty 64 = .ok (.putfield 18, 3) := by decide +kernel
theorem d_Re_empty_67 : decode b_Re_empty 67 = .ok (.iload_n 3, 1) := by decide +kernel
theorem d_Re_empty_68 : decode b_Re_empty 68 = .ok (.ireturn, 1) := by decide +kernel
theorem d_Re_sizeOf_0 : decode b_Re_sizeOf 0 = .ok (.iconst 0, 1) := by decide +kernel
theorem d_Re_sizeOf_1 : decode b_Re_sizeOf 1 = .ok (.istore_n 2, 1) := by decide +kernel
theorem d_Re_sizeOf_2 : decode b_Re_sizeOf 2 = .ok (.iconst 0, 1) := by decide +kernel
theorem d_Re_sizeOf_3 : decode b_Re_sizeOf 3 = .ok (.istore_n 3, 1) := by decide +kernel
theorem d_Re_sizeOf_4 : decode b_Re_sizeOf 4 = .ok (.iload_n 3, 1) := by decide +kernel
theorem d_Re_sizeOf_5 : decode b_Re_sizeOf 5 = .ok (.aload_n 0, 1) := by decide +kernel
theorem d_Re_sizeOf_6 : decode b_Re_sizeOf 6 = .ok (.getfield 18, 3) := by decide +kernel
theorem d_Re_sizeOf_9 : decode b_Re_sizeOf 9 = .ok (.if_icmp .ge 22, 3) := by decide +kernel
theorem d_Re_sizeOf_12 : decode b_Re_sizeOf 12 = .ok (.aload_n 0, 1) := by decide +kernel
theorem d_Re_sizeOf_13 : decode b_Re_sizeOf 13 = .ok (.getfield 9, 3) := by decide +kernel
theorem d_Re_sizeOf_16 : decode b_Re_sizeOf 16 = .ok (.iload_n 3, 1) := by decide +kernel
theorem d_Re_sizeOf_17 : decode b_Re_sizeOf 17 = .ok (.iaload, 1) := by decide +kernel
theorem d_Re_sizeOf_18 : decode b_Re_sizeOf 18 = .ok (.iload_n 1, 1) := by decide +kernel
theorem d_Re_sizeOf_19 : decode b_Re_sizeOf 19 = .ok (.if_icmp .ne 6, 3) := by decide +kernel
theorem d_Re_sizeOf_22 : decode b_Re_sizeOf 22 = .ok (.iinc 2 1, 3) := by decide +kernel
theorem d_Re_sizeOf_25 : decode b_Re_sizeOf 25 = .ok (.iinc 3 1, 3) := by decide +kernel
theorem d_Re_sizeOf_28 : decode b_Re_sizeOf 28 = .ok (.goto (-24), 3) := by decide +kernel
theorem d_Re_sizeOf_31 : decode b_Re_sizeOf 31 = .ok (.iload_n 2, 1) := by decide +kernel
theorem d_Re_sizeOf_32 : decode b_Re_sizeOf 32 = .ok (.ireturn, 1) := by decide +kernel
theorem d_Re_startOf_0 : decode b_Re_startOf 0 = .ok (.iconst 0, 1) := by decide +kernel
theorem d_Re_startOf_1 : decode b_Re_startOf 1 = .ok (.istore_n 2, 1) := by decide +kernel
theorem d_Re_startOf_2 : decode b_Re_startOf 2 = .ok (.iload_n 2, 1) := by decide +kernel
theorem d_Re_startOf_3 : decode b_Re_startOf 3 = .ok (.aload_n 0, 1) := by decide +kernel
theorem d_Re_startOf_4 : decode b_Re_startOf 4 = .ok (.getfield 18, 3) := by decide +kernel
theorem d_Re_startOf_7 : decode b_Re_startOf 7 = .ok (.if_icmp .ge 19, 3) := by decide +kernel
theorem d_Re_startOf_10 : decode b_Re_startOf 10 = .ok (.aload_n 0, 1) := by decide +kernel
theorem d_Re_startOf_11 : decode b_Re_startOf 11 = .ok (.getfield 9, 3) := by decide +kernel
theorem d_Re_startOf_14 : decode b_Re_startOf 14 = .ok (.iload_n 2, 1) := by decide +kernel
theorem d_Re_startOf_15 : decode b_Re_startOf 15 = .ok (.iaload, 1) := by decide +kernel
theorem d_Re_startOf_16 : decode b_Re_startOf 16 = .ok (.iload_n 1, 1) := by decide +kernel
theorem d_Re_startOf_17 : decode b_Re_startOf 17 = .ok (.if_icmp .ge 9, 3) := by decide +kernel
theorem d_Re_startOf_20 : decode b_Re_startOf 20 = .ok (.iinc 2 1, 3) := by decide +kernel
theorem d_Re_startOf_23 : decode b_Re_startOf 23 = .ok (.goto (-21), 3) := by decide +kernel
theorem d_Re_startOf_26 : decode b_Re_startOf 26 = .ok (.iload_n 2, 1) := by decide +kernel
theorem d_Re_startOf_27 : decode b_Re_startOf 27 = .ok (.ireturn, 1) := by decide +kernel
theorem d_Re_setAt_0 : decode b_Re_setAt 0 = .ok (.iload_n 1, 1) := by decide +kernel
theorem d_Re_setAt_1 : decode b_Re_setAt 1 = .ok (.ifCond .lt 20, 3) := by decide +kernel
theorem d_Re_setAt_4 : decode b_Re_setAt 4 = .ok (.iload_n 1, 1) := by decide +kernel
theorem d_Re_setAt_5 : decode b_Re_setAt 5 = .ok (.aload_n 0, 1) := by decide +kernel
theorem d_Re_setAt_6 : decode b_Re_setAt 6 = .ok (.getfield 18, 3) := by decide +kernel
theorem d_Re_setAt_9 : decode b_Re_setAt 9 = .ok (.if_icmp .ge 12, 3) := by decide +kernel
theorem d_Re_setAt_12 : decode b_Re_setAt 12 = .ok (.aload_n 0, 1) := by decide +kernel
theorem d_Re_setAt_13 : decode b_Re_setAt 13 = .ok (.getfield 9, 3) := by decide +kernel
theorem d_Re_setAt_16 : decode b_Re_setAt 16 = .ok (.iload_n 1, 1) := by decide +kernel
theorem d_Re_setAt_17 : decode b_Re_setAt 17 = .ok (.iaload, 1) := by decide +kernel
theorem d_Re_setAt_18 : decode b_Re_setAt 18 = .ok (.goto 4, 3) := by decide +kernel
theorem d_Re_setAt_21 : decode b_Re_setAt 21 = .ok (.iconst (-1), 1) := by decide +kernel
theorem d_Re_setAt_22 : decode b_Re_setAt 22 = .ok (.ireturn, 1) := by decide +kernel
theorem d_Re_dataAt_0 : decode b_Re_dataAt 0 = .ok (.iload_n 1, 1) := by decide +kernel
theorem d_Re_dataAt_1 : decode b_Re_dataAt 1 = .ok (.ifCond .lt 20, 3) := by decide +kernel
theorem d_Re_dataAt_4 : decode b_Re_dataAt 4 = .ok (.iload_n 1, 1) := by decide +kernel
theorem d_Re_dataAt_5 : decode b_Re_dataAt 5 = .ok (.aload_n 0, 1) := by decide +kernel
theorem d_Re_dataAt_6 : decode b_Re_dataAt 6 = .ok (.getfield 18, 3) := by decide +kernel
theorem d_Re_dataAt_9 : decode b_Re_dataAt 9 = .ok (.if_icmp .ge 12, 3) := by decide +kernel
theorem d_Re_dataAt_12 : decode b_Re_dataAt 12 = .ok (.aload_n 0, 1) := by decide +kernel
theorem d_Re_dataAt_13 : decode b_Re_dataAt 13 = .ok (.getfield 15, 3) := by decide +kernel
theorem d_Re_dataAt_16 : decode b_Re_dataAt 16 = .ok (.iload_n 1, 1) := by decide +kernel
theorem d_Re_dataAt_17 : decode b_Re_dataAt 17 = .ok (.iaload, 1) := by decide +kernel
theorem d_Re_dataAt_18 : decode b_Re_dataAt 18 = .ok (.goto 4, 3) := by decide +kernel
theorem d_Re_dataAt_21 : decode b_Re_dataAt 21 = .ok (.iconst 0, 1) := by decide +kernel
theorem d_Re_dataAt_22 : decode b_Re_dataAt 22 = .ok (.ireturn, 1) := by decide +kernel
theorem d_Re_leastOf_0 : decode b_Re_leastOf 0 = .ok (.aload_n 0, 1) := by decide +kernel
theorem d_Re_leastOf_1 : decode b_Re_leastOf 1 = .ok (.aload_n 0, 1) := by decide +kernel
theorem d_Re_leastOf_2 : decode b_Re_leastOf 2 = .ok (.iload_n 1, 1) := by decide +kernel
theorem d_Re_leastOf_3 : decode b_Re_leastOf 3 = .ok (.invokevirtual 30, 3) := by decide +kernel
theorem d_Re_leastOf_6 : decode b_Re_leastOf 6 = .ok (.invokevirtual 33, 3) := by decide +kernel
theorem d_Re_leastOf_9 : decode b_Re_leastOf 9 = .ok (.ireturn, 1) := by decide +kernel
theorem d_Re_rowFor_0 : decode b_Re_rowFor 0 = .ok (.aload_n 0, 1) := by decide +kernel
theorem d_Re_rowFor_1 : decode b_Re_rowFor 1 = .ok (.iload_n 1, 1) := by decide +kernel
theorem d_Re_rowFor_2 : decode b_Re_rowFor 2 = .ok (.invokevirtual 30, 3) := by decide +kernel
theorem d_Re_rowFor_5 : decode b_Re_rowFor 5 = .ok (.istore_n 3, 1) := by decide +kernel
theorem d_Re_rowFor_6 : decode b_Re_rowFor 6 = .ok (.iload_n 3, 1) := by decide +kernel
theorem d_Re_rowFor_7 : decode b_Re_rowFor 7 = .ok (.aload_n 0, 1) := by decide +kernel
theorem d_Re_rowFor_8 : decode b_Re_rowFor 8 = .ok (.getfield 18, 3) := by decide +kernel
theorem d_Re_rowFor_11 : decode b_Re_rowFor 11 = .ok (.if_icmp .ge 29, 3) := by decide +kernel
theorem d_Re_rowFor_14 : decode b_Re_rowFor 14 = .ok (.aload_n 0, 1) := by decide +kernel
theorem d_Re_rowFor_15 : decode b_Re_rowFor 15 = .ok (.getfield 9, 3) := by decide +kernel
theorem d_Re_rowFor_18 : decode b_Re_rowFor 18 = .ok (.iload_n 3, 1) := by decide +kernel
theorem d_Re_rowFor_19 : decode b_Re_rowFor 19 = .ok (.iaload, 1) := by decide +kernel
theorem d_Re_rowFor_20 : decode b_Re_rowFor 20 = .ok (.iload_n 1, 1) := by decide +kernel
theorem d_Re_rowFor_21 : decode b_Re_rowFor 21 = .ok (.if_icmp .ne 19, 3) := by decide +kernel
theorem d_Re_rowFor_24 : decode b_Re_rowFor 24 = .ok (.aload_n 0, 1) := by decide +kernel
theorem d_Re_rowFor_25 : decode b_Re_rowFor 25 = .ok (.getfield 15, 3) := by decide +kernel
theorem d_Re_rowFor_28 : decode b_Re_rowFor 28 = .ok (.iload_n 3, 1) := by decide +kernel
theorem d_Re_rowFor_29 : decode b_Re_rowFor 29 = .ok (.iaload, 1) := by decide +kernel
theorem d_Re_rowFor_30 : decode b_Re_rowFor 30 = .ok (.iload_n 2, 1) := by decide +kernel
theorem d_Re_rowFor_31 : decode b_Re_rowFor 31 = .ok (.if_icmp .ge 9, 3) := by decide +kernel
theorem d_Re_rowFor_34 : decode b_Re_rowFor 34 = .ok (.iinc 3 1, 3) := by decide +kernel
theorem d_Re_rowFor_37 : decode b_Re_rowFor 37 = .ok (.goto (-31), 3) := by decide +kernel
theorem d_Re_rowFor_40 : decode b_Re_rowFor 40 = .ok (.iload_n 3, 1) := by decide +kernel
theorem d_Re_rowFor_41 : decode b_Re_rowFor 41 = .ok (.ireturn, 1) := by decide +kernel
theorem d_Nu_init_0 : decode b_Nu_init 0 = .ok (.aload_n 0, 1) := by decide +kernel
theorem d_Nu_init_1 : decode b_Nu_init 1 = .ok (.invokespecial 3, 3) := by decide +kernel
theorem d_Nu_init_4 : decode b_Nu_init 4 = .ok (.aload_n 0, 1) := by decide +kernel
theorem d_Nu_init_5 : decode b_Nu_init 5 = .ok (.bipush 48, 2) := by decide +kernel
theorem d_Nu_init_7 : decode b_Nu_init 7 = .ok (.newarray .int, 2) := by decide +kernel
theorem d_Nu_init_9 : decode b_Nu_init 9 = .ok (.putfield 9, 3) := by decide +kernel
theorem d_Nu_init_12 : decode b_Nu_init 12 = .ok (.aload_n 0, 1) := by decide +kernel
theorem d_Nu_init_13 : decode b_Nu_init 13 = .ok (.iconst 0, 1) := by decide +kernel
theorem d_Nu_init_14 : decode b_Nu_init 14 = .ok (.putfield 15, 3) := by decide +kernel
theorem d_Nu_init_17 : decode b_Nu_init 17 = .ok (.return_, 1) := by decide +kernel
theorem d_Nu_clear_0 : decode b_Nu_clear 0 = .ok (.aload_n 0, 1) := by decide +kernel
theorem d_Nu_clear_1 : decode b_Nu_clear 1 = .ok (.iconst 0, 1) := by decide +kernel
theorem d_Nu_clear_2 : decode b_Nu_clear 2 = .ok (.putfield 15, 3) := by decide +kernel
theorem d_Nu_clear_5 : decode b_Nu_clear 5 = .ok (.return_, 1) := by decide +kernel
theorem d_Nu_put_0 : decode b_Nu_put 0 = .ok (.aload_n 0, 1) := by decide +kernel
theorem d_Nu_put_1 : decode b_Nu_put 1 = .ok (.getfield 15, 3) := by decide +kernel
theorem d_Nu_put_4 : decode b_Nu_put 4 = .ok (.bipush 48, 2) := by decide +kernel
theorem d_Nu_put_6 : decode b_Nu_put 6 = .ok (.if_icmp .ge 23, 3) := by decide +kernel
theorem d_Nu_put_9 : decode b_Nu_put 9 = .ok (.aload_n 0, 1) := by decide +kernel
theorem d_Nu_put_10 : decode b_Nu_put 10 = .ok (.getfield 9, 3) := by decide +kernel
theorem d_Nu_put_13 : decode b_Nu_put 13 = .ok (.aload_n 0, 1) := by decide +kernel
theorem d_Nu_put_14 : decode b_Nu_put 14 = .ok (.getfield 15, 3) := by decide +kernel
theorem d_Nu_put_17 : decode b_Nu_put 17 = .ok (.iload_n 1, 1) := by decide +kernel
theorem d_Nu_put_18 : decode b_Nu_put 18 = .ok (.iastore, 1) := by decide +kernel
theorem d_Nu_put_19 : decode b_Nu_put 19 = .ok (.aload_n 0, 1) := by decide +kernel
theorem d_Nu_put_20 : decode b_Nu_put 20 = .ok (.dup, 1) := by decide +kernel
theorem d_Nu_put_21 : decode b_Nu_put 21 = .ok (.getfield 15, 3) := by decide +kernel
theorem d_Nu_put_24 : decode b_Nu_put 24 = .ok (.iconst 1, 1) := by decide +kernel
theorem d_Nu_put_25 : decode b_Nu_put 25 = .ok (.iadd, 1) := by decide +kernel
theorem d_Nu_put_26 : decode b_Nu_put 26 = .ok (.putfield 15, 3) := by decide +kernel
theorem d_Nu_put_29 : decode b_Nu_put 29 = .ok (.return_, 1) := by decide +kernel
theorem d_Nu_has_0 : decode b_Nu_has 0 = .ok (.iconst 0, 1) := by decide +kernel
theorem d_Nu_has_1 : decode b_Nu_has 1 = .ok (.istore_n 2, 1) := by decide +kernel
theorem d_Nu_has_2 : decode b_Nu_has 2 = .ok (.iload_n 2, 1) := by decide +kernel
theorem d_Nu_has_3 : decode b_Nu_has 3 = .ok (.aload_n 0, 1) := by decide +kernel
theorem d_Nu_has_4 : decode b_Nu_has 4 = .ok (.getfield 15, 3) := by decide +kernel
theorem d_Nu_has_7 : decode b_Nu_has 7 = .ok (.if_icmp .ge 21, 3) := by decide +kernel
theorem d_Nu_has_10 : decode b_Nu_has 10 = .ok (.aload_n 0, 1) := by decide +kernel
theorem d_Nu_has_11 : decode b_Nu_has 11 = .ok (.getfield 9, 3) := by decide +kernel
theorem d_Nu_has_14 : decode b_Nu_has 14 = .ok (.iload_n 2, 1) := by decide +kernel
theorem d_Nu_has_15 : decode b_Nu_has 15 = .ok (.iaload, 1) := by decide +kernel
theorem d_Nu_has_16 : decode b_Nu_has 16 = .ok (.iload_n 1, 1) := by decide +kernel
theorem d_Nu_has_17 : decode b_Nu_has 17 = .ok (.if_icmp .ne 5, 3) := by decide +kernel
theorem d_Nu_has_20 : decode b_Nu_has 20 = .ok (.iconst 1, 1) := by decide +kernel
theorem d_Nu_has_21 : decode b_Nu_has 21 = .ok (.ireturn, 1) := by decide +kernel
theorem d_Nu_has_22 : decode b_Nu_has 22 = .ok (.iinc 2 1, 3) := by decide +kernel
theorem d_Nu_has_25 : decode b_Nu_has 25 = .ok (.goto (-23), 3) := by decide +kernel
theorem d_Nu_has_28 : decode b_Nu_has 28 = .ok (.iconst 0, 1) := by decide +kernel
theorem d_Nu_has_29 : decode b_Nu_has 29 = .ok (.ireturn, 1) := by decide +kernel
theorem d_An_init_0 : decode b_An_init 0 = .ok (.aload_n 0, 1) := by decide +kernel
theorem d_An_init_1 : decode b_An_init 1 = .ok (.invokespecial 3, 3) := by decide +kernel
theorem d_An_init_4 : decode b_An_init 4 = .ok (.aload_n 0, 1) := by decide +kernel
theorem d_An_init_5 : decode b_An_init 5 = .ok (.iconst 4, 1) := by decide +kernel
theorem d_An_init_6 : decode b_An_init 6 = .ok (.newarray .int, 2) := by decide +kernel
theorem d_An_init_8 : decode b_An_init 8 = .ok (.putfield 9, 3) := by decide +kernel
theorem d_An_init_11 : decode b_An_init 11 = .ok (.aload_n 0, 1) := by decide +kernel
theorem d_An_init_12 : decode b_An_init 12 = .ok (.iconst 4, 1) := by decide +kernel
theorem d_An_init_13 : decode b_An_init 13 = .ok (.newarray .int, 2) := by decide +kernel
theorem d_An_init_15 : decode b_An_init 15 = .ok (.putfield 15, 3) := by decide +kernel
theorem d_An_init_18 : decode b_An_init 18 = .ok (.aload_n 0, 1) := by decide +kernel
theorem d_An_init_19 : decode b_An_init 19 = .ok (.iconst 0, 1) := by decide +kernel
theorem d_An_init_20 : decode b_An_init 20 = .ok (.putfield 18, 3) := by decide +kernel
theorem d_An_init_23 : decode b_An_init 23 = .ok (.return_, 1) := by decide +kernel
theorem d_An_put_0 : decode b_An_put 0 = .ok (.iconst 0, 1) := by decide +kernel
theorem d_An_put_1 : decode b_An_put 1 = .ok (.istore_n 3, 1) := by decide +kernel
theorem d_An_put_2 : decode b_An_put 2 = .ok (.iload_n 3, 1) := by decide +kernel
theorem d_An_put_3 : decode b_An_put 3 = .ok (.aload_n 0, 1) := by decide +kernel
theorem d_An_put_4 : decode b_An_put 4 = .ok (.getfield 18, 3) := by decide +kernel
theorem d_An_put_7 : decode b_An_put 7 = .ok (.if_icmp .ge 19, 3) := by decide +kernel
theorem d_An_put_10 : decode b_An_put 10 = .ok (.aload_n 0, 1) := by decide +kernel
theorem d_An_put_11 : decode b_An_put 11 = .ok (.getfield 9, 3) := by decide +kernel
theorem d_An_put_14 : decode b_An_put 14 = .ok (.iload_n 3, 1) := by decide +kernel
theorem d_An_put_15 : decode b_An_put 15 = .ok (.iaload, 1) := by decide +kernel
theorem d_An_put_16 : decode b_An_put 16 = .ok (.iload_n 1, 1) := by decide +kernel
theorem d_An_put_17 : decode b_An_put 17 = .ok (.if_icmp .eq 9, 3) := by decide +kernel
theorem d_An_put_20 : decode b_An_put 20 = .ok (.iinc 3 1, 3) := by decide +kernel
theorem d_An_put_23 : decode b_An_put 23 = .ok (.goto (-21), 3) := by decide +kernel
theorem d_An_put_26 : decode b_An_put 26 = .ok (.iload_n 3, 1) := by decide +kernel
theorem d_An_put_27 : decode b_An_put 27 = .ok (.iconst 4, 1) := by decide +kernel
theorem d_An_put_28 : decode b_An_put 28 = .ok (.if_icmp .lt 6, 3) := by decide +kernel
theorem d_An_put_31 : decode b_An_put 31 = .ok (.bipush (-2), 2) := by decide +kernel
theorem d_An_put_33 : decode b_An_put 33 = .ok (.ireturn, 1) := by decide +kernel
theorem d_An_put_34 : decode b_An_put 34 = .ok (.aload_n 0, 1) := by decide +kernel
theorem d_An_put_35 : decode b_An_put 35 = .ok (.getfield 9, 3) := by decide +kernel
theorem d_An_put_38 : decode b_An_put 38 = .ok (.iload_n 3, 1) := by decide +kernel
theorem d_An_put_39 : decode b_An_put 39 = .ok (.iload_n 1, 1) := by decide +kernel
theorem d_An_put_40 : decode b_An_put 40 = .ok (.iastore, 1) := by decide +kernel
theorem d_An_put_41 : decode b_An_put 41 = .ok (.aload_n 0, 1) := by decide +kernel
theorem d_An_put_42 : decode b_An_put 42 = .ok (.getfield 15, 3) := by decide +kernel
theorem d_An_put_45 : decode b_An_put 45 = .ok (.iload_n 3, 1) := by decide +kernel
theorem d_An_put_46 : decode b_An_put 46 = .ok (.iload_n 2, 1) := by decide +kernel
theorem d_An_put_47 : decode b_An_put 47 = .ok (.iastore, 1) := by decide +kernel
theorem d_An_put_48 : decode b_An_put 48 = .ok (.iload_n 3, 1) := by decide +kernel
theorem d_An_put_49 : decode b_An_put 49 = .ok (.aload_n 0, 1) := by decide +kernel
theorem d_An_put_50 : decode b_An_put 50 = .ok (.getfield 18, 3) := by decide +kernel
theorem d_An_put_53 : decode b_An_put 53 = .ok (.if_icmp .ne 13, 3) := by decide +kernel
theorem d_An_put_56 : decode b_An_put 56 = .ok (.aload_n 0, 1) := by decide +kernel
theorem d_An_put_57 : decode b_An_put 57 = .ok (.dup, 1) := by decide +kernel
theorem d_An_put_58 : decode b_An_put 58 = .ok (.getfield 18, 3) := by decide +kernel
theorem d_An_put_61 : decode b_An_put 61 = .ok (.iconst 1, 1) := by decide +kernel
theorem d_An_put_62 : decode b_An_put 62 = .ok (.iadd, 1) := by decide +kernel
theorem d_An_put_63 : decode b_An_put 63 = .ok (.putfield 18, 3) := by decide +kernel
theorem d_An_put_66 : decode b_An_put 66 = .ok (.aload_n 0, 1) := by decide +kernel
theorem d_An_put_67 : decode b_An_put 67 = .ok (.getfield 18, 3) := by decide +kernel
theorem d_An_put_70 : decode b_An_put 70 = .ok (.ireturn, 1) := by decide +kernel
theorem d_An_deepestFor_0 : decode b_An_deepestFor 0 = .ok (.iconst (-1), 1) := by decide +kernel
theorem d_An_deepestFor_1 : decode b_An_deepestFor 1 = .ok (.istore_n 2, 1) := by decide +kernel
theorem d_An_deepestFor_2 : decode b_An_deepestFor 2 = .ok (.iconst 0, 1) := by decide +kernel
theorem d_An_deepestFor_3 : decode b_An_deepestFor 3 = .ok (.istore_n 3, 1) := by decide +kernel
theorem d_An_deepestFor_4 : decode b_An_deepestFor 4 = .ok (.iload_n 3, 1) := by decide +kernel
theorem d_An_deepestFor_5 : decode b_An_deepestFor 5 = .ok (.aload_n 0, 1) := by decide +kernel
theorem d_An_deepestFor_6 : decode b_An_deepestFor 6 = .ok (.getfield 18, 3) := by decide +kernel
theorem d_An_deepestFor_9 : decode b_An_deepestFor 9 = .ok (.if_icmp .ge 39, 3) := by decide +kernel
theorem d_An_deepestFor_12 : decode b_An_deepestFor 12 = .ok (.aload_n 0, 1) := by decide +kernel
theorem d_An_deepestFor_13 : decode b_An_deepestFor 13 = .ok (.getfield 9, 3) := by decide +kernel
theorem d_An_deepestFor_16 : decode b_An_deepestFor 16 = .ok (.iload_n 3, 1) := by decide +kernel
theorem d_An_deepestFor_17 : decode b_An_deepestFor 17 = .ok (.iaload, 1) := by decide +kernel
theorem d_An_deepestFor_18 : decode b_An_deepestFor 18 = .ok (.iload_n 1, 1) := by decide +kernel
theorem d_An_deepestFor_19 : decode b_An_deepestFor 19 = .ok (.invokestatic 22, 3) := by decide +kernel
theorem d_An_deepestFor_22 : decode b_An_deepestFor 22 = .ok (.ifCond .eq 20, 3) := by decide +kernel
theorem d_An_deepestFor_25 : decode b_An_deepestFor 25 = .ok (.aload_n 0, 1) := by decide +kernel
theorem d_An_deepestFor_26 : decode b_An_deepestFor 26 = .ok (.getfield 9, 3) := by decide +kernel
theorem d_An_deepestFor_29 : decode b_An_deepestFor 29 = .ok (.iload_n 3, 1) := by decide +kernel
theorem d_An_deepestFor_30 : decode b_An_deepestFor 30 = .ok (.iaload, 1) := by decide +kernel
theorem d_An_deepestFor_31 : decode b_An_deepestFor 31 = .ok (.iload_n 2, 1) := by decide +kernel
theorem d_An_deepestFor_32 : decode b_An_deepestFor 32 = .ok (.if_icmp .le 10, 3) := by decide +kernel
theorem d_An_deepestFor_35 : decode b_An_deepestFor 35 = .ok (.aload_n 0, 1) := by decide +kernel
theorem d_An_deepestFor_36 : decode b_An_deepestFor 36 = .ok (.getfield 9, 3) := by decide +kernel
theorem d_An_deepestFor_39 : decode b_An_deepestFor 39 = .ok (.iload_n 3, 1) := by decide +kernel
theorem d_An_deepestFor_40 : decode b_An_deepestFor 40 = .ok (.iaload, 1) := by decide +kernel
theorem d_An_deepestFor_41 : decode b_An_deepestFor 41 = .ok (.istore_n 2, 1) := by decide +kernel
theorem d_An_deepestFor_42 : decode b_An_deepestFor 42 = .ok (.iinc 3 1, 3) := by decide +kernel
theorem d_An_deepestFor_45 : decode b_An_deepestFor 45 = .ok (.goto (-41), 3) := by decide +kernel
theorem d_An_deepestFor_48 : decode b_An_deepestFor 48 = .ok (.iload_n 2, 1) := by decide +kernel
theorem d_An_deepestFor_49 : decode b_An_deepestFor 49 = .ok (.ireturn, 1) := by decide +kernel
theorem d_An_digestOf_0 : decode b_An_digestOf 0 = .ok (.iconst 0, 1) := by decide +kernel
theorem d_An_digestOf_1 : decode b_An_digestOf 1 = .ok (.istore_n 2, 1) := by decide +kernel
theorem d_An_digestOf_2 : decode b_An_digestOf 2 = .ok (.iload_n 2, 1) := by decide +kernel
theorem d_An_digestOf_3 : decode b_An_digestOf 3 = .ok (.aload_n 0, 1) := by decide +kernel
theorem d_An_digestOf_4 : decode b_An_digestOf 4 = .ok (.getfield 18, 3) := by decide +kernel
theorem d_An_digestOf_7 : decode b_An_digestOf 7 = .ok (.if_icmp .ge 26, 3) := by decide +kernel
theorem d_An_digestOf_10 : decode b_An_digestOf 10 = .ok (.aload_n 0, 1) := by decide +kernel
theorem d_An_digestOf_11 : decode b_An_digestOf 11 = .ok (.getfield 9, 3) := by decide +kernel
theorem d_An_digestOf_14 : decode b_An_digestOf 14 = .ok (.iload_n 2, 1) := by decide +kernel
theorem d_An_digestOf_15 : decode b_An_digestOf 15 = .ok (.iaload, 1) := by decide +kernel
theorem d_An_digestOf_16 : decode b_An_digestOf 16 = .ok (.iload_n 1, 1) := by decide +kernel
theorem d_An_digestOf_17 : decode b_An_digestOf 17 = .ok (.if_icmp .ne 10, 3) := by decide +kernel
theorem d_An_digestOf_20 : decode b_An_digestOf 20 = .ok (.aload_n 0, 1) := by decide +kernel
theorem d_An_digestOf_21 : decode b_An_digestOf 21 = .ok (.getfield 15, 3) := by decide +kernel
theorem d_An_digestOf_24 : decode b_An_digestOf 24 = .ok (.iload_n 2, 1) := by decide +kernel
theorem d_An_digestOf_25 : decode b_An_digestOf 25 = .ok (.iaload, 1) := by decide +kernel
theorem d_An_digestOf_26 : decode b_An_digestOf 26 = .ok (.ireturn, 1) := by decide +kernel
theorem d_An_digestOf_27 : decode b_An_digestOf 27 = .ok (.iinc 2 1, 3) := by decide +kernel
theorem d_An_digestOf_30 : decode b_An_digestOf 30 = .ok (.goto (-28), 3) := by decide +kernel
theorem d_An_digestOf_33 : decode b_An_digestOf 33 = .ok (.iconst (-1), 1) := by decide +kernel
theorem d_An_digestOf_34 : decode b_An_digestOf 34 = .ok (.ireturn, 1) := by decide +kernel

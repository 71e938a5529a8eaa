theorem d_W_init_0 : decode prog_1_method_1_code 0 = .ok (.aload_n 0, 1) := by decide +kernel
theorem d_W_init_1 : decode prog_1_method_1_code 1 = .ok (.invokespecial 1, 3) := by decide +kernel
theorem d_W_init_4 : decode prog_1_method_1_code 4 = .ok (.aload_n 0, 1) := by decide +kernel
theorem d_W_init_5 : decode prog_1_method_1_code 5 = .ok (.iload_n 1, 1) := by decide +kernel
theorem d_W_init_6 : decode prog_1_method_1_code 6 = .ok (.putfield 7, 3) := by decide +kernel
theorem d_W_init_9 : decode prog_1_method_1_code 9 = .ok (.aload_n 0, 1) := by decide +kernel
theorem d_W_init_10 : decode prog_1_method_1_code 10 = .ok (.sipush 256, 3) := by decide +kernel
theorem d_W_init_13 : decode prog_1_method_1_code 13 = .ok (.newarray .int, 2) := by decide +kernel
theorem d_W_init_15 : decode prog_1_method_1_code 15 = .ok (.putfield 13, 3) := by decide +kernel
theorem d_W_init_18 : decode prog_1_method_1_code 18 = .ok (.aload_n 0, 1) := by decide +kernel
theorem d_W_init_19 : decode prog_1_method_1_code 19 = .ok (.bipush 16, 2) := by decide +kernel
theorem d_W_init_21 : decode prog_1_method_1_code 21 = .ok (.newarray .int, 2) := by decide +kernel
theorem d_W_init_23 : decode prog_1_method_1_code 23 = .ok (.putfield 17, 3) := by decide +kernel
theorem d_W_init_26 : decode prog_1_method_1_code 26 = .ok (.iconst 0, 1) := by decide +kernel
theorem d_W_init_27 : decode prog_1_method_1_code 27 = .ok (.istore_n 2, 1) := by decide +kernel
theorem d_W_init_28 : decode prog_1_method_1_code 28 = .ok (.iload_n 2, 1) := by decide +kernel
theorem d_W_init_29 : decode prog_1_method_1_code 29 = .ok (.bipush 16, 2) := by decide +kernel
theorem d_W_init_31 : decode prog_1_method_1_code 31 = .ok (.if_icmp .ge 26, 3) := by decide +kernel
theorem d_W_init_34 : decode prog_1_method_1_code 34 = .ok (.aload_n 0, 1) := by decide +kernel
theorem d_W_init_35 : decode prog_1_method_1_code 35 = .ok (.getfield 17, 3) := by decide +kernel
theorem d_W_init_38 : decode prog_1_method_1_code 38 = .ok (.iload_n 2, 1) := by decide +kernel
theorem d_W_init_39 : decode prog_1_method_1_code 39 = .ok (.iload_n 2, 1) := by decide +kernel
theorem d_W_init_40 : decode prog_1_method_1_code 40 = .ok (.bipush 8, 2) := by decide +kernel
theorem d_W_init_42 : decode prog_1_method_1_code 42 = .ok (.if_icmp .ge 7, 3) := by decide +kernel
theorem d_W_init_45 : decode prog_1_method_1_code 45 = .ok (.iconst 1, 1) := by decide +kernel
theorem d_W_init_46 : decode prog_1_method_1_code 46 = .ok (.goto 4, 3) := by decide +kernel
theorem d_W_init_49 : decode prog_1_method_1_code 49 = .ok (.iconst 0, 1) := by decide +kernel
theorem d_W_init_50 : decode prog_1_method_1_code 50 = .ok (.iastore, 1) := by decide +kernel
theorem d_W_init_51 : decode prog_1_method_1_code 51 = .ok (.iinc 2 1, 3) := by decide +kernel
theorem d_W_init_54 : decode prog_1_method_1_code 54 = .ok (.goto (-26), 3) := by decide +kernel
theorem d_W_init_57 : decode prog_1_method_1_code 57 = .ok (.aload_n 0, 1) := by decide +kernel
theorem d_W_init_58 : decode prog_1_method_1_code 58 = .ok (.iconst 3, 1) := by decide +kernel
theorem d_W_init_59 : decode prog_1_method_1_code 59 = .ok (.anewarray 20, 3) := by decide +kernel
theorem d_W_init_62 : decode prog_1_method_1_code 62 = .ok (.putfield 22, 3) := by decide +kernel
theorem d_W_init_65 : decode prog_1_method_1_code 65 = .ok (.iconst 0, 1) := by decide +kernel
theorem d_W_init_66 : decode prog_1_method_1_code 66 = .ok (.istore_n 2, 1) := by decide +kernel
theorem d_W_init_67 : decode prog_1_method_1_code 67 = .ok (.iload_n 2, 1) := by decide +kernel
theorem d_W_init_68 : decode prog_1_method_1_code 68 = .ok (.iconst 3, 1) := by decide +kernel
theorem d_W_init_69 : decode prog_1_method_1_code 69 = .ok (.if_icmp .ge 22, 3) := by decide +kernel
theorem d_W_init_72 : decode prog_1_method_1_code 72 = .ok (.aload_n 0, 1) := by decide +kernel
theorem d_W_init_73 : decode prog_1_method_1_code 73 = .ok (.getfield 22, 3) := by decide +kernel
theorem d_W_init_76 : decode prog_1_method_1_code 76 = .ok (.iload_n 2, 1) := by decide +kernel
theorem d_W_init_77 : decode prog_1_method_1_code 77 = .ok (.new 20, 3) := by decide +kernel
theorem d_W_init_80 : decode prog_1_method_1_code 80 = .ok (.dup, 1) := by decide +kernel
theorem d_W_init_81 : decode prog_1_method_1_code 81 = .ok (.invokespecial 26, 3) := by decide +kernel
theorem d_W_init_84 : decode prog_1_method_1_code 84 = .ok (.aastore, 1) := by decide +kernel
theorem d_W_init_85 : decode prog_1_method_1_code 85 = .ok (.iinc 2 1, 3) := by decide +kernel
theorem d_W_init_88 : decode prog_1_method_1_code 88 = .ok (.goto (-21), 3) := by decide +kernel
theorem d_W_init_91 : decode prog_1_method_1_code 91 = .ok (.aload_n 0, 1) := by decide +kernel
theorem d_W_init_92 : decode prog_1_method_1_code 92 = .ok (.new 27, 3) := by decide +kernel
theorem d_W_init_95 : decode prog_1_method_1_code 95 = .ok (.dup, 1) := by decide +kernel
theorem d_W_init_96 : decode prog_1_method_1_code 96 = .ok (.invokespecial 29, 3) := by decide +kernel
theorem d_W_init_99 : decode prog_1_method_1_code 99 = .ok (.putfield 30, 3) := by decide +kernel
theorem d_W_init_102 : decode prog_1_method_1_code 102 = .ok (.aload_n 0, 1) := by decide +kernel
theorem d_W_init_103 : decode prog_1_method_1_code 103 = .ok (.iconst 5, 1) := by decide +kernel
theorem d_W_init_104 : decode prog_1_method_1_code 104 = .ok (.newarray .int, 2) := by decide +kernel
theorem d_W_init_106 : decode prog_1_method_1_code 106 = .ok (.putfield 34, 3) := by decide +kernel
theorem d_W_init_109 : decode prog_1_method_1_code 109 = .ok (.aload_n 0, 1) := by decide +kernel
theorem d_W_init_110 : decode prog_1_method_1_code 110 = .ok (.iconst 0, 1) := by decide +kernel
theorem d_W_init_111 : decode prog_1_method_1_code 111 = .ok (.putfield 37, 3) := by decide +kernel
theorem d_W_init_114 : decode prog_1_method_1_code 114 = .ok (.aload_n 0, 1) := by decide +kernel
theorem d_W_init_115 : decode prog_1_method_1_code 115 = .ok (.iconst (-1), 1) := by decide +kernel
theorem d_W_init_116 : decode prog_1_method_1_code 116 = .ok (.putfield 41, 3) := by decide +kernel
theorem d_W_init_119 : decode prog_1_method_1_code 119 = .ok (.aload_n 0, 1) := by decide +kernel
theorem d_W_init_120 : decode prog_1_method_1_code 120 = .ok (.iconst 0, 1) := by decide +kernel
theorem d_W_init_121 : decode prog_1_method_1_code 121 = .ok (.putfield 44, 3) := by decide +kernel
theorem d_W_init_124 : decode prog_1_method_1_code 124 = .ok (.aload_n 0, 1) := by decide +kernel
theorem d_W_init_125 : decode prog_1_method_1_code 125 = .ok (.iconst 0, 1) := by decide +kernel
theorem d_W_init_126 : decode prog_1_method_1_code 126 = .ok (.putfield 47, 3) := by decide +kernel
theorem d_W_init_129 : decode prog_1_method_1_code 129 = .ok (.return_, 1) := by decide +kernel
theorem d_W_poke_0 : decode prog_1_method_2_code 0 = .ok (.aload_n 0, 1) := by decide +kernel
theorem d_W_poke_1 : decode prog_1_method_2_code 1 = .ok (.iload_n 1, 1) := by decide +kernel
theorem d_W_poke_2 : decode prog_1_method_2_code 2 = .ok (.invokevirtual 50, 3) := by decide +kernel
theorem d_W_poke_5 : decode prog_1_method_2_code 5 = .ok (.ifCond .ne 5, 3) := by decide +kernel
theorem d_W_poke_8 : decode prog_1_method_2_code 8 = .ok (.iconst 0, 1) := by decide +kernel
theorem d_W_poke_9 : decode prog_1_method_2_code 9 = .ok (.ireturn, 1) := by decide +kernel
theorem d_W_poke_10 : decode prog_1_method_2_code 10 = .ok (.aload_n 0, 1) := by decide +kernel
theorem d_W_poke_11 : decode prog_1_method_2_code 11 = .ok (.getfield 13, 3) := by decide +kernel
theorem d_W_poke_14 : decode prog_1_method_2_code 14 = .ok (.iload_n 1, 1) := by decide +kernel
theorem d_W_poke_15 : decode prog_1_method_2_code 15 = .ok (.iload_n 2, 1) := by decide +kernel
theorem d_W_poke_16 : decode prog_1_method_2_code 16 = .ok (.iastore, 1) := by decide +kernel
theorem d_W_poke_17 : decode prog_1_method_2_code 17 = .ok (.iconst 1, 1) := by decide +kernel
theorem d_W_poke_18 : decode prog_1_method_2_code 18 = .ok (.ireturn, 1) := by decide +kernel
theorem d_W_peek_0 : decode prog_1_method_3_code 0 = .ok (.aload_n 0, 1) := by decide +kernel
theorem d_W_peek_1 : decode prog_1_method_3_code 1 = .ok (.iload_n 1, 1) := by decide +kernel
theorem d_W_peek_2 : decode prog_1_method_3_code 2 = .ok (.invokevirtual 50, 3) := by decide +kernel
theorem d_W_peek_5 : decode prog_1_method_3_code 5 = .ok (.ifCond .eq 12, 3) := by decide +kernel
theorem d_W_peek_8 : decode prog_1_method_3_code 8 = .ok (.aload_n 0, 1) := by decide +kernel
theorem d_W_peek_9 : decode prog_1_method_3_code 9 = .ok (.getfield 13, 3) := by decide +kernel
theorem d_W_peek_12 : decode prog_1_method_3_code 12 = .ok (.iload_n 1, 1) := by decide +kernel
theorem d_W_peek_13 : decode prog_1_method_3_code 13 = .ok (.iaload, 1) := by decide +kernel
theorem d_W_peek_14 : decode prog_1_method_3_code 14 = .ok (.goto 4, 3) := by decide +kernel
theorem d_W_peek_17 : decode prog_1_method_3_code 17 = .ok (.iconst 0, 1) := by decide +kernel
theorem d_W_peek_18 : decode prog_1_method_3_code 18 = .ok (.ireturn, 1) := by decide +kernel
theorem d_W_bare_0 : decode prog_1_method_4_code 0 = .ok (.iload_n 1, 1) := by decide +kernel
theorem d_W_bare_1 : decode prog_1_method_4_code 1 = .ok (.invokestatic 54, 3) := by decide +kernel
theorem d_W_bare_4 : decode prog_1_method_4_code 4 = .ok (.ifCond .eq 12, 3) := by decide +kernel
theorem d_W_bare_7 : decode prog_1_method_4_code 7 = .ok (.aload_n 0, 1) := by decide +kernel
theorem d_W_bare_8 : decode prog_1_method_4_code 8 = .ok (.getfield 13, 3) := by decide +kernel
theorem d_W_bare_11 : decode prog_1_method_4_code 11 = .ok (.iload_n 1, 1) := by decide +kernel
theorem d_W_bare_12 : decode prog_1_method_4_code 12 = .ok (.iaload, 1) := by decide +kernel
theorem d_W_bare_13 : decode prog_1_method_4_code 13 = .ok (.goto 4, 3) := by decide +kernel
theorem d_W_bare_16 : decode prog_1_method_4_code 16 = .ok (.iconst 0, 1) := by decide +kernel
theorem d_W_bare_17 : decode prog_1_method_4_code 17 = .ok (.ireturn, 1) := by decide +kernel
theorem d_W_give_0 : decode prog_1_method_5_code 0 = .ok (.iload_n 1, 1) := by decide +kernel
theorem d_W_give_1 : decode prog_1_method_5_code 1 = .ok (.iconst 1, 1) := by decide +kernel
theorem d_W_give_2 : decode prog_1_method_5_code 2 = .ok (.if_icmp .lt 17, 3) := by decide +kernel
theorem d_W_give_5 : decode prog_1_method_5_code 5 = .ok (.iload_n 1, 1) := by decide +kernel
theorem d_W_give_6 : decode prog_1_method_5_code 6 = .ok (.bipush 8, 2) := by decide +kernel
theorem d_W_give_8 : decode prog_1_method_5_code 8 = .ok (.if_icmp .ge 11, 3) := by decide +kernel
theorem d_W_give_11 : decode prog_1_method_5_code 11 = .ok (.aload_n 0, 1) := by decide +kernel
theorem d_W_give_12 : decode prog_1_method_5_code 12 = .ok (.getfield 41, 3) := by decide +kernel
theorem d_W_give_15 : decode prog_1_method_5_code 15 = .ok (.iconst (-1), 1) := by decide +kernel
theorem d_W_give_16 : decode prog_1_method_5_code 16 = .ok (.if_icmp .eq 5, 3) := by decide +kernel
theorem d_W_give_19 : decode prog_1_method_5_code 19 = .ok (.iconst 0, 1) := by decide +kernel
theorem d_W_give_20 : decode prog_1_method_5_code 20 = .ok (.ireturn, 1) := by decide +kernel
theorem d_W_give_21 : decode prog_1_method_5_code 21 = .ok (.aload_n 0, 1) := by decide +kernel
theorem d_W_give_22 : decode prog_1_method_5_code 22 = .ok (.getfield 30, 3) := by decide +kernel
theorem d_W_give_25 : decode prog_1_method_5_code 25 = .ok (.iload_n 1, 1) := by decide +kernel
theorem d_W_give_26 : decode prog_1_method_5_code 26 = .ok (.iload_n 2, 1) := by decide +kernel
theorem d_W_give_27 : decode prog_1_method_5_code 27 = .ok (.invokevirtual 57, 3) := by decide +kernel
theorem d_W_give_30 : decode prog_1_method_5_code 30 = .ok (.iconst 1, 1) := by decide +kernel
theorem d_W_give_31 : decode prog_1_method_5_code 31 = .ok (.ireturn, 1) := by decide +kernel
theorem d_W_register_0 : decode prog_1_method_6_code 0 = .ok (.aload_n 0, 1) := by decide +kernel
theorem d_W_register_1 : decode prog_1_method_6_code 1 = .ok (.getfield 30, 3) := by decide +kernel
theorem d_W_register_4 : decode prog_1_method_6_code 4 = .ok (.iload_n 1, 1) := by decide +kernel
theorem d_W_register_5 : decode prog_1_method_6_code 5 = .ok (.invokevirtual 61, 3) := by decide +kernel
theorem d_W_register_8 : decode prog_1_method_6_code 8 = .ok (.ireturn, 1) := by decide +kernel
theorem d_W_pc_0 : decode prog_1_method_7_code 0 = .ok (.aload_n 0, 1) := by decide +kernel
theorem d_W_pc_1 : decode prog_1_method_7_code 1 = .ok (.getfield 30, 3) := by decide +kernel
theorem d_W_pc_4 : decode prog_1_method_7_code 4 = .ok (.getfield 65, 3) := by decide +kernel
theorem d_W_pc_7 : decode prog_1_method_7_code 7 = .ok (.ireturn, 1) := by decide +kernel
theorem d_W_boot_0 : decode prog_1_method_8_code 0 = .ok (.aload_n 0, 1) := by decide +kernel
theorem d_W_boot_1 : decode prog_1_method_8_code 1 = .ok (.getfield 41, 3) := by decide +kernel
theorem d_W_boot_4 : decode prog_1_method_8_code 4 = .ok (.iconst (-1), 1) := by decide +kernel
theorem d_W_boot_5 : decode prog_1_method_8_code 5 = .ok (.if_icmp .eq 5, 3) := by decide +kernel
theorem d_W_boot_8 : decode prog_1_method_8_code 8 = .ok (.iconst 0, 1) := by decide +kernel
theorem d_W_boot_9 : decode prog_1_method_8_code 9 = .ok (.ireturn, 1) := by decide +kernel
theorem d_W_boot_10 : decode prog_1_method_8_code 10 = .ok (.aload_n 0, 1) := by decide +kernel
theorem d_W_boot_11 : decode prog_1_method_8_code 11 = .ok (.getfield 30, 3) := by decide +kernel
theorem d_W_boot_14 : decode prog_1_method_8_code 14 = .ok (.iload_n 1, 1) := by decide +kernel
theorem d_W_boot_15 : decode prog_1_method_8_code 15 = .ok (.putfield 65, 3) := by decide +kernel
theorem d_W_boot_18 : decode prog_1_method_8_code 18 = .ok (.aload_n 0, 1) := by decide +kernel
theorem d_W_boot_19 : decode prog_1_method_8_code 19 = .ok (.iconst 0, 1) := by decide +kernel
theorem d_W_boot_20 : decode prog_1_method_8_code 20 = .ok (.putfield 37, 3) := by decide +kernel
theorem d_W_boot_23 : decode prog_1_method_8_code 23 = .ok (.iconst 1, 1) := by decide +kernel
theorem d_W_boot_24 : decode prog_1_method_8_code 24 = .ok (.ireturn, 1) := by decide +kernel
theorem d_W_halted_0 : decode prog_1_method_9_code 0 = .ok (.aload_n 0, 1) := by decide +kernel
theorem d_W_halted_1 : decode prog_1_method_9_code 1 = .ok (.getfield 37, 3) := by decide +kernel
theorem d_W_halted_4 : decode prog_1_method_9_code 4 = .ok (.ireturn, 1) := by decide +kernel
theorem d_W_call_0 : decode prog_1_method_10_code 0 = .ok (.aload_n 0, 1) := by decide +kernel
theorem d_W_call_1 : decode prog_1_method_10_code 1 = .ok (.getfield 41, 3) := by decide +kernel
theorem d_W_call_4 : decode prog_1_method_10_code 4 = .ok (.iconst (-1), 1) := by decide +kernel
theorem d_W_call_5 : decode prog_1_method_10_code 5 = .ok (.if_icmp .ne 15, 3) := by decide +kernel
theorem d_W_call_8 : decode prog_1_method_10_code 8 = .ok (.aload_n 0, 1) := by decide +kernel
theorem d_W_call_9 : decode prog_1_method_10_code 9 = .ok (.iload_n 1, 1) := by decide +kernel
theorem d_W_call_10 : decode prog_1_method_10_code 10 = .ok (.iload_n 2, 1) := by decide +kernel
theorem d_W_call_11 : decode prog_1_method_10_code 11 = .ok (.iload_n 3, 1) := by decide +kernel
theorem d_W_call_12 : decode prog_1_method_10_code 12 = .ok (.iload 4, 2) := by decide +kernel
theorem d_W_call_14 : decode prog_1_method_10_code 14 = .ok (.invokevirtual 68, 3) := by decide +kernel
theorem d_W_call_17 : decode prog_1_method_10_code 17 = .ok (.goto 5, 3) := by decide +kernel
theorem d_W_call_20 : decode prog_1_method_10_code 20 = .ok (.bipush (-6), 2) := by decide +kernel
theorem d_W_call_22 : decode prog_1_method_10_code 22 = .ok (.ireturn, 1) := by decide +kernel
theorem d_W_run_0 : decode prog_1_method_11_code 0 = .ok (.iload_n 1, 1) := by decide +kernel
theorem d_W_run_1 : decode prog_1_method_11_code 1 = .ok (.ifCond .lt 10, 3) := by decide +kernel
theorem d_W_run_4 : decode prog_1_method_11_code 4 = .ok (.iload_n 1, 1) := by decide +kernel
theorem d_W_run_5 : decode prog_1_method_11_code 5 = .ok (.sipush 1000, 3) := by decide +kernel
theorem d_W_run_8 : decode prog_1_method_11_code 8 = .ok (.if_icmp .le 5, 3) := by decide +kernel
theorem d_W_run_11 : decode prog_1_method_11_code 11 = .ok (.iconst 0, 1) := by decide +kernel
theorem d_W_run_12 : decode prog_1_method_11_code 12 = .ok (.ireturn, 1) := by decide +kernel
theorem d_W_run_13 : decode prog_1_method_11_code 13 = .ok (.iconst 0, 1) := by decide +kernel
theorem d_W_run_14 : decode prog_1_method_11_code 14 = .ok (.istore_n 2, 1) := by decide +kernel
theorem d_W_run_15 : decode prog_1_method_11_code 15 = .ok (.iload_n 2, 1) := by decide +kernel
theorem d_W_run_16 : decode prog_1_method_11_code 16 = .ok (.iload_n 1, 1) := by decide +kernel
theorem d_W_run_17 : decode prog_1_method_11_code 17 = .ok (.if_icmp .ge 30, 3) := by decide +kernel
theorem d_W_run_20 : decode prog_1_method_11_code 20 = .ok (.aload_n 0, 1) := by decide +kernel
theorem d_W_run_21 : decode prog_1_method_11_code 21 = .ok (.getfield 37, 3) := by decide +kernel
theorem d_W_run_24 : decode prog_1_method_11_code 24 = .ok (.ifCond .eq 13, 3) := by decide +kernel
theorem d_W_run_27 : decode prog_1_method_11_code 27 = .ok (.aload_n 0, 1) := by decide +kernel
theorem d_W_run_28 : decode prog_1_method_11_code 28 = .ok (.getfield 41, 3) := by decide +kernel
theorem d_W_run_31 : decode prog_1_method_11_code 31 = .ok (.iconst (-1), 1) := by decide +kernel
theorem d_W_run_32 : decode prog_1_method_11_code 32 = .ok (.if_icmp .ne 5, 3) := by decide +kernel
theorem d_W_run_35 : decode prog_1_method_11_code 35 = .ok (.iload_n 2, 1) := by decide +kernel
theorem d_W_run_36 : decode prog_1_method_11_code 36 = .ok (.ireturn, 1) := by decide +kernel
theorem d_W_run_37 : decode prog_1_method_11_code 37 = .ok (.aload_n 0, 1) := by decide +kernel
theorem d_W_run_38 : decode prog_1_method_11_code 38 = .ok (.invokevirtual 72, 3) := by decide +kernel
theorem d_W_run_41 : decode prog_1_method_11_code 41 = .ok (.iinc 2 1, 3) := by decide +kernel
theorem d_W_run_44 : decode prog_1_method_11_code 44 = .ok (.goto (-29), 3) := by decide +kernel
theorem d_W_run_47 : decode prog_1_method_11_code 47 = .ok (.iload_n 1, 1) := by decide +kernel
theorem d_W_run_48 : decode prog_1_method_11_code 48 = .ok (.ireturn, 1) := by decide +kernel
theorem d_W_period_0 : decode prog_1_method_12_code 0 = .ok (.aload_n 0, 1) := by decide +kernel
theorem d_W_period_1 : decode prog_1_method_12_code 1 = .ok (.iload_n 1, 1) := by decide +kernel
theorem d_W_period_2 : decode prog_1_method_12_code 2 = .ok (.putfield 44, 3) := by decide +kernel
theorem d_W_period_5 : decode prog_1_method_12_code 5 = .ok (.return_, 1) := by decide +kernel
theorem d_W_tick_0 : decode prog_1_method_13_code 0 = .ok (.aload_n 0, 1) := by decide +kernel
theorem d_W_tick_1 : decode prog_1_method_13_code 1 = .ok (.getfield 47, 3) := by decide +kernel
theorem d_W_tick_4 : decode prog_1_method_13_code 4 = .ok (.ireturn, 1) := by decide +kernel
theorem d_W_running_0 : decode prog_1_method_14_code 0 = .ok (.aload_n 0, 1) := by decide +kernel
theorem d_W_running_1 : decode prog_1_method_14_code 1 = .ok (.getfield 41, 3) := by decide +kernel
theorem d_W_running_4 : decode prog_1_method_14_code 4 = .ok (.ireturn, 1) := by decide +kernel
theorem d_W_region_0 : decode prog_1_method_15_code 0 = .ok (.iload_n 1, 1) := by decide +kernel
theorem d_W_region_1 : decode prog_1_method_15_code 1 = .ok (.invokestatic 75, 3) := by decide +kernel
theorem d_W_region_4 : decode prog_1_method_15_code 4 = .ok (.ifCond .eq 12, 3) := by decide +kernel
theorem d_W_region_7 : decode prog_1_method_15_code 7 = .ok (.aload_n 0, 1) := by decide +kernel
theorem d_W_region_8 : decode prog_1_method_15_code 8 = .ok (.getfield 17, 3) := by decide +kernel
theorem d_W_region_11 : decode prog_1_method_15_code 11 = .ok (.iload_n 1, 1) := by decide +kernel
theorem d_W_region_12 : decode prog_1_method_15_code 12 = .ok (.iaload, 1) := by decide +kernel
theorem d_W_region_13 : decode prog_1_method_15_code 13 = .ok (.goto 4, 3) := by decide +kernel
theorem d_W_region_16 : decode prog_1_method_15_code 16 = .ok (.iconst (-1), 1) := by decide +kernel
theorem d_W_region_17 : decode prog_1_method_15_code 17 = .ok (.ireturn, 1) := by decide +kernel
theorem d_W_enclave_0 : decode prog_1_method_16_code 0 = .ok (.iload_n 1, 1) := by decide +kernel
theorem d_W_enclave_1 : decode prog_1_method_16_code 1 = .ok (.invokestatic 78, 3) := by decide +kernel
theorem d_W_enclave_4 : decode prog_1_method_16_code 4 = .ok (.ifCond .eq 15, 3) := by decide +kernel
theorem d_W_enclave_7 : decode prog_1_method_16_code 7 = .ok (.aload_n 0, 1) := by decide +kernel
theorem d_W_enclave_8 : decode prog_1_method_16_code 8 = .ok (.getfield 22, 3) := by decide +kernel
theorem d_W_enclave_11 : decode prog_1_method_16_code 11 = .ok (.iload_n 1, 1) := by decide +kernel
theorem d_W_enclave_12 : decode prog_1_method_16_code 12 = .ok (.aaload, 1) := by decide +kernel
theorem d_W_enclave_13 : decode prog_1_method_16_code 13 = .ok (.getfield 81, 3) := by decide +kernel
theorem d_W_enclave_16 : decode prog_1_method_16_code 16 = .ok (.goto 4, 3) := by decide +kernel
theorem d_W_enclave_19 : decode prog_1_method_16_code 19 = .ok (.iconst (-1), 1) := by decide +kernel
theorem d_W_enclave_20 : decode prog_1_method_16_code 20 = .ok (.ireturn, 1) := by decide +kernel
theorem d_W_thread_0 : decode prog_1_method_17_code 0 = .ok (.iload_n 1, 1) := by decide +kernel
theorem d_W_thread_1 : decode prog_1_method_17_code 1 = .ok (.invokestatic 78, 3) := by decide +kernel
theorem d_W_thread_4 : decode prog_1_method_17_code 4 = .ok (.ifCond .eq 27, 3) := by decide +kernel
theorem d_W_thread_7 : decode prog_1_method_17_code 7 = .ok (.iload_n 2, 1) := by decide +kernel
theorem d_W_thread_8 : decode prog_1_method_17_code 8 = .ok (.invokestatic 84, 3) := by decide +kernel
theorem d_W_thread_11 : decode prog_1_method_17_code 11 = .ok (.ifCond .eq 20, 3) := by decide +kernel
theorem d_W_thread_14 : decode prog_1_method_17_code 14 = .ok (.aload_n 0, 1) := by decide +kernel
theorem d_W_thread_15 : decode prog_1_method_17_code 15 = .ok (.getfield 22, 3) := by decide +kernel
theorem d_W_thread_18 : decode prog_1_method_17_code 18 = .ok (.iload_n 1, 1) := by decide +kernel
theorem d_W_thread_19 : decode prog_1_method_17_code 19 = .ok (.aaload, 1) := by decide +kernel
theorem d_W_thread_20 : decode prog_1_method_17_code 20 = .ok (.getfield 87, 3) := by decide +kernel
theorem d_W_thread_23 : decode prog_1_method_17_code 23 = .ok (.iload_n 2, 1) := by decide +kernel
theorem d_W_thread_24 : decode prog_1_method_17_code 24 = .ok (.aaload, 1) := by decide +kernel
theorem d_W_thread_25 : decode prog_1_method_17_code 25 = .ok (.getfield 91, 3) := by decide +kernel
theorem d_W_thread_28 : decode prog_1_method_17_code 28 = .ok (.goto 4, 3) := by decide +kernel
theorem d_W_thread_31 : decode prog_1_method_17_code 31 = .ok (.iconst 0, 1) := by decide +kernel
theorem d_W_thread_32 : decode prog_1_method_17_code 32 = .ok (.ireturn, 1) := by decide +kernel
theorem d_W_kept_0 : decode prog_1_method_18_code 0 = .ok (.iload_n 1, 1) := by decide +kernel
theorem d_W_kept_1 : decode prog_1_method_18_code 1 = .ok (.invokestatic 78, 3) := by decide +kernel
theorem d_W_kept_4 : decode prog_1_method_18_code 4 = .ok (.ifCond .eq 10, 3) := by decide +kernel
theorem d_W_kept_7 : decode prog_1_method_18_code 7 = .ok (.iload_n 2, 1) := by decide +kernel
theorem d_W_kept_8 : decode prog_1_method_18_code 8 = .ok (.invokestatic 84, 3) := by decide +kernel
theorem d_W_kept_11 : decode prog_1_method_18_code 11 = .ok (.ifCond .ne 5, 3) := by decide +kernel
theorem d_W_kept_14 : decode prog_1_method_18_code 14 = .ok (.iconst 0, 1) := by decide +kernel
theorem d_W_kept_15 : decode prog_1_method_18_code 15 = .ok (.ireturn, 1) := by decide +kernel
theorem d_W_kept_16 : decode prog_1_method_18_code 16 = .ok (.aload_n 0, 1) := by decide +kernel
theorem d_W_kept_17 : decode prog_1_method_18_code 17 = .ok (.getfield 22, 3) := by decide +kernel
theorem d_W_kept_20 : decode prog_1_method_18_code 20 = .ok (.iload_n 1, 1) := by decide +kernel
theorem d_W_kept_21 : decode prog_1_method_18_code 21 = .ok (.aaload, 1) := by decide +kernel
theorem d_W_kept_22 : decode prog_1_method_18_code 22 = .ok (.getfield 87, 3) := by decide +kernel
theorem d_W_kept_25 : decode prog_1_method_18_code 25 = .ok (.iload_n 2, 1) := by decide +kernel
theorem d_W_kept_26 : decode prog_1_method_18_code 26 = .ok (.aaload, 1) := by decide +kernel
theorem d_W_kept_27 : decode prog_1_method_18_code 27 = .ok (.astore 4, 2) := by decide +kernel
theorem d_W_kept_29 : decode prog_1_method_18_code 29 = .ok (.aload 4, 2) := by decide +kernel
theorem d_W_kept_31 : decode prog_1_method_18_code 31 = .ok (.getfield 91, 3) := by decide +kernel
theorem d_W_kept_34 : decode prog_1_method_18_code 34 = .ok (.iconst 2, 1) := by decide +kernel
theorem d_W_kept_35 : decode prog_1_method_18_code 35 = .ok (.if_icmp .eq 14, 3) := by decide +kernel
theorem d_W_kept_38 : decode prog_1_method_18_code 38 = .ok (.aload 4, 2) := by decide +kernel
theorem d_W_kept_40 : decode prog_1_method_18_code 40 = .ok (.getfield 91, 3) := by decide +kernel
theorem d_W_kept_43 : decode prog_1_method_18_code 43 = .ok (.iconst 3, 1) := by decide +kernel
theorem d_W_kept_44 : decode prog_1_method_18_code 44 = .ok (.if_icmp .eq 5, 3) := by decide +kernel
theorem d_W_kept_47 : decode prog_1_method_18_code 47 = .ok (.iconst 0, 1) := by decide +kernel
theorem d_W_kept_48 : decode prog_1_method_18_code 48 = .ok (.ireturn, 1) := by decide +kernel
theorem d_W_kept_49 : decode prog_1_method_18_code 49 = .ok (.iload_n 3, 1) := by decide +kernel
theorem d_W_kept_50 : decode prog_1_method_18_code 50 = .ok (.bipush 8, 2) := by decide +kernel
theorem d_W_kept_52 : decode prog_1_method_18_code 52 = .ok (.if_icmp .ne 14, 3) := by decide +kernel
theorem d_W_kept_55 : decode prog_1_method_18_code 55 = .ok (.aload 4, 2) := by decide +kernel
theorem d_W_kept_57 : decode prog_1_method_18_code 57 = .ok (.getfield 94, 3) := by decide +kernel
theorem d_W_kept_60 : decode prog_1_method_18_code 60 = .ok (.getfield 65, 3) := by decide +kernel
theorem d_W_kept_63 : decode prog_1_method_18_code 63 = .ok (.goto 12, 3) := by decide +kernel
theorem d_W_kept_66 : decode prog_1_method_18_code 66 = .ok (.aload 4, 2) := by decide +kernel
theorem d_W_kept_68 : decode prog_1_method_18_code 68 = .ok (.getfield 94, 3) := by decide +kernel
theorem d_W_kept_71 : decode prog_1_method_18_code 71 = .ok (.iload_n 3, 1) := by decide +kernel
theorem d_W_kept_72 : decode prog_1_method_18_code 72 = .ok (.invokevirtual 61, 3) := by decide +kernel
theorem d_W_kept_75 : decode prog_1_method_18_code 75 = .ok (.ireturn, 1) := by decide +kernel
theorem d_W_measure_0 : decode prog_1_method_19_code 0 = .ok (.iload_n 1, 1) := by decide +kernel
theorem d_W_measure_1 : decode prog_1_method_19_code 1 = .ok (.invokestatic 78, 3) := by decide +kernel
theorem d_W_measure_4 : decode prog_1_method_19_code 4 = .ok (.ifCond .eq 15, 3) := by decide +kernel
theorem d_W_measure_7 : decode prog_1_method_19_code 7 = .ok (.aload_n 0, 1) := by decide +kernel
theorem d_W_measure_8 : decode prog_1_method_19_code 8 = .ok (.getfield 22, 3) := by decide +kernel
theorem d_W_measure_11 : decode prog_1_method_19_code 11 = .ok (.iload_n 1, 1) := by decide +kernel
theorem d_W_measure_12 : decode prog_1_method_19_code 12 = .ok (.aaload, 1) := by decide +kernel
theorem d_W_measure_13 : decode prog_1_method_19_code 13 = .ok (.getfield 97, 3) := by decide +kernel
theorem d_W_measure_16 : decode prog_1_method_19_code 16 = .ok (.goto 4, 3) := by decide +kernel
theorem d_W_measure_19 : decode prog_1_method_19_code 19 = .ok (.iconst 0, 1) := by decide +kernel
theorem d_W_measure_20 : decode prog_1_method_19_code 20 = .ok (.ireturn, 1) := by decide +kernel
theorem d_W_vouch_0 : decode prog_1_method_20_code 0 = .ok (.aload_n 0, 1) := by decide +kernel
theorem d_W_vouch_1 : decode prog_1_method_20_code 1 = .ok (.iload_n 1, 1) := by decide +kernel
theorem d_W_vouch_2 : decode prog_1_method_20_code 2 = .ok (.iload_n 2, 1) := by decide +kernel
theorem d_W_vouch_3 : decode prog_1_method_20_code 3 = .ok (.invokevirtual 100, 3) := by decide +kernel
theorem d_W_vouch_6 : decode prog_1_method_20_code 6 = .ok (.iload_n 3, 1) := by decide +kernel
theorem d_W_vouch_7 : decode prog_1_method_20_code 7 = .ok (.if_icmp .ne 7, 3) := by decide +kernel
theorem d_W_vouch_10 : decode prog_1_method_20_code 10 = .ok (.iconst 1, 1) := by decide +kernel
theorem d_W_vouch_11 : decode prog_1_method_20_code 11 = .ok (.goto 4, 3) := by decide +kernel
theorem d_W_vouch_14 : decode prog_1_method_20_code 14 = .ok (.iconst 0, 1) := by decide +kernel
theorem d_W_vouch_15 : decode prog_1_method_20_code 15 = .ok (.ireturn, 1) := by decide +kernel
theorem d_W_exit_0 : decode prog_1_method_21_code 0 = .ok (.iload_n 1, 1) := by decide +kernel
theorem d_W_exit_1 : decode prog_1_method_21_code 1 = .ok (.ifCond .lt 21, 3) := by decide +kernel
theorem d_W_exit_4 : decode prog_1_method_21_code 4 = .ok (.iload_n 1, 1) := by decide +kernel
theorem d_W_exit_5 : decode prog_1_method_21_code 5 = .ok (.aload_n 0, 1) := by decide +kernel
theorem d_W_exit_6 : decode prog_1_method_21_code 6 = .ok (.getfield 34, 3) := by decide +kernel
theorem d_W_exit_9 : decode prog_1_method_21_code 9 = .ok (.arraylength, 1) := by decide +kernel
theorem d_W_exit_10 : decode prog_1_method_21_code 10 = .ok (.if_icmp .ge 12, 3) := by decide +kernel
theorem d_W_exit_13 : decode prog_1_method_21_code 13 = .ok (.aload_n 0, 1) := by decide +kernel
theorem d_W_exit_14 : decode prog_1_method_21_code 14 = .ok (.getfield 34, 3) := by decide +kernel
theorem d_W_exit_17 : decode prog_1_method_21_code 17 = .ok (.iload_n 1, 1) := by decide +kernel
theorem d_W_exit_18 : decode prog_1_method_21_code 18 = .ok (.iaload, 1) := by decide +kernel
theorem d_W_exit_19 : decode prog_1_method_21_code 19 = .ok (.goto 4, 3) := by decide +kernel
theorem d_W_exit_22 : decode prog_1_method_21_code 22 = .ok (.iconst 0, 1) := by decide +kernel
theorem d_W_exit_23 : decode prog_1_method_21_code 23 = .ok (.ireturn, 1) := by decide +kernel
theorem d_W_isAddress_0 : decode prog_1_method_22_code 0 = .ok (.iload_n 0, 1) := by decide +kernel
theorem d_W_isAddress_1 : decode prog_1_method_22_code 1 = .ok (.ifCond .lt 14, 3) := by decide +kernel
theorem d_W_isAddress_4 : decode prog_1_method_22_code 4 = .ok (.iload_n 0, 1) := by decide +kernel
theorem d_W_isAddress_5 : decode prog_1_method_22_code 5 = .ok (.sipush 256, 3) := by decide +kernel
theorem d_W_isAddress_8 : decode prog_1_method_22_code 8 = .ok (.if_icmp .ge 7, 3) := by decide +kernel
theorem d_W_isAddress_11 : decode prog_1_method_22_code 11 = .ok (.iconst 1, 1) := by decide +kernel
theorem d_W_isAddress_12 : decode prog_1_method_22_code 12 = .ok (.goto 4, 3) := by decide +kernel
theorem d_W_isAddress_15 : decode prog_1_method_22_code 15 = .ok (.iconst 0, 1) := by decide +kernel
theorem d_W_isAddress_16 : decode prog_1_method_22_code 16 = .ok (.ireturn, 1) := by decide +kernel
theorem d_W_isRegion_0 : decode prog_1_method_23_code 0 = .ok (.iload_n 0, 1) := by decide +kernel
theorem d_W_isRegion_1 : decode prog_1_method_23_code 1 = .ok (.ifCond .lt 13, 3) := by decide +kernel
theorem d_W_isRegion_4 : decode prog_1_method_23_code 4 = .ok (.iload_n 0, 1) := by decide +kernel
theorem d_W_isRegion_5 : decode prog_1_method_23_code 5 = .ok (.bipush 16, 2) := by decide +kernel
theorem d_W_isRegion_7 : decode prog_1_method_23_code 7 = .ok (.if_icmp .ge 7, 3) := by decide +kernel
theorem d_W_isRegion_10 : decode prog_1_method_23_code 10 = .ok (.iconst 1, 1) := by decide +kernel
theorem d_W_isRegion_11 : decode prog_1_method_23_code 11 = .ok (.goto 4, 3) := by decide +kernel
theorem d_W_isRegion_14 : decode prog_1_method_23_code 14 = .ok (.iconst 0, 1) := by decide +kernel
theorem d_W_isRegion_15 : decode prog_1_method_23_code 15 = .ok (.ireturn, 1) := by decide +kernel
theorem d_W_isEnclave_0 : decode prog_1_method_24_code 0 = .ok (.iload_n 0, 1) := by decide +kernel
theorem d_W_isEnclave_1 : decode prog_1_method_24_code 1 = .ok (.ifCond .lt 12, 3) := by decide +kernel
theorem d_W_isEnclave_4 : decode prog_1_method_24_code 4 = .ok (.iload_n 0, 1) := by decide +kernel
theorem d_W_isEnclave_5 : decode prog_1_method_24_code 5 = .ok (.iconst 3, 1) := by decide +kernel
theorem d_W_isEnclave_6 : decode prog_1_method_24_code 6 = .ok (.if_icmp .ge 7, 3) := by decide +kernel
theorem d_W_isEnclave_9 : decode prog_1_method_24_code 9 = .ok (.iconst 1, 1) := by decide +kernel
theorem d_W_isEnclave_10 : decode prog_1_method_24_code 10 = .ok (.goto 4, 3) := by decide +kernel
theorem d_W_isEnclave_13 : decode prog_1_method_24_code 13 = .ok (.iconst 0, 1) := by decide +kernel
theorem d_W_isEnclave_14 : decode prog_1_method_24_code 14 = .ok (.ireturn, 1) := by decide +kernel
theorem d_W_isThread_0 : decode prog_1_method_25_code 0 = .ok (.iload_n 0, 1) := by decide +kernel
theorem d_W_isThread_1 : decode prog_1_method_25_code 1 = .ok (.ifCond .lt 12, 3) := by decide +kernel
theorem d_W_isThread_4 : decode prog_1_method_25_code 4 = .ok (.iload_n 0, 1) := by decide +kernel
theorem d_W_isThread_5 : decode prog_1_method_25_code 5 = .ok (.iconst 2, 1) := by decide +kernel
theorem d_W_isThread_6 : decode prog_1_method_25_code 6 = .ok (.if_icmp .ge 7, 3) := by decide +kernel
theorem d_W_isThread_9 : decode prog_1_method_25_code 9 = .ok (.iconst 1, 1) := by decide +kernel
theorem d_W_isThread_10 : decode prog_1_method_25_code 10 = .ok (.goto 4, 3) := by decide +kernel
theorem d_W_isThread_13 : decode prog_1_method_25_code 13 = .ok (.iconst 0, 1) := by decide +kernel
theorem d_W_isThread_14 : decode prog_1_method_25_code 14 = .ok (.ireturn, 1) := by decide +kernel
theorem d_W_mix_0 : decode prog_1_method_26_code 0 = .ok (.iload_n 0, 1) := by decide +kernel
theorem d_W_mix_1 : decode prog_1_method_26_code 1 = .ok (.iload_n 1, 1) := by decide +kernel
theorem d_W_mix_2 : decode prog_1_method_26_code 2 = .ok (.ixor, 1) := by decide +kernel
theorem d_W_mix_3 : decode prog_1_method_26_code 3 = .ok (.ldc 104, 2) := by decide +kernel
theorem d_W_mix_5 : decode prog_1_method_26_code 5 = .ok (.imul, 1) := by decide +kernel
theorem d_W_mix_6 : decode prog_1_method_26_code 6 = .ok (.istore_n 2, 1) := by decide +kernel
theorem d_W_mix_7 : decode prog_1_method_26_code 7 = .ok (.iload_n 2, 1) := by decide +kernel
theorem d_W_mix_8 : decode prog_1_method_26_code 8 = .ok (.iload_n 2, 1) := by decide +kernel
theorem d_W_mix_9 : decode prog_1_method_26_code 9 = .ok (.bipush 15, 2) := by decide +kernel
theorem d_W_mix_11 : decode prog_1_method_26_code 11 = .ok (.iushr, 1) := by decide +kernel
theorem d_W_mix_12 : decode prog_1_method_26_code 12 = .ok (.ixor, 1) := by decide +kernel
theorem d_W_mix_13 : decode prog_1_method_26_code 13 = .ok (.ireturn, 1) := by decide +kernel
theorem d_W_macOf_0 : decode prog_1_method_27_code 0 = .ok (.aload_n 0, 1) := by decide +kernel
theorem d_W_macOf_1 : decode prog_1_method_27_code 1 = .ok (.getfield 7, 3) := by decide +kernel
theorem d_W_macOf_4 : decode prog_1_method_27_code 4 = .ok (.iload_n 1, 1) := by decide +kernel
theorem d_W_macOf_5 : decode prog_1_method_27_code 5 = .ok (.invokestatic 105, 3) := by decide +kernel
theorem d_W_macOf_8 : decode prog_1_method_27_code 8 = .ok (.iload_n 2, 1) := by decide +kernel
theorem d_W_macOf_9 : decode prog_1_method_27_code 9 = .ok (.invokestatic 105, 3) := by decide +kernel
theorem d_W_macOf_12 : decode prog_1_method_27_code 12 = .ok (.aload_n 0, 1) := by decide +kernel
theorem d_W_macOf_13 : decode prog_1_method_27_code 13 = .ok (.getfield 7, 3) := by decide +kernel
theorem d_W_macOf_16 : decode prog_1_method_27_code 16 = .ok (.invokestatic 105, 3) := by decide +kernel
theorem d_W_macOf_19 : decode prog_1_method_27_code 19 = .ok (.ireturn, 1) := by decide +kernel
theorem d_W_systemMayUse_0 : decode prog_1_method_28_code 0 = .ok (.iload_n 1, 1) := by decide +kernel
theorem d_W_systemMayUse_1 : decode prog_1_method_28_code 1 = .ok (.invokestatic 54, 3) := by decide +kernel
theorem d_W_systemMayUse_4 : decode prog_1_method_28_code 4 = .ok (.ifCond .ne 5, 3) := by decide +kernel
theorem d_W_systemMayUse_7 : decode prog_1_method_28_code 7 = .ok (.iconst 0, 1) := by decide +kernel
theorem d_W_systemMayUse_8 : decode prog_1_method_28_code 8 = .ok (.ireturn, 1) := by decide +kernel
theorem d_W_systemMayUse_9 : decode prog_1_method_28_code 9 = .ok (.aload_n 0, 1) := by decide +kernel
theorem d_W_systemMayUse_10 : decode prog_1_method_28_code 10 = .ok (.getfield 17, 3) := by decide +kernel
theorem d_W_systemMayUse_13 : decode prog_1_method_28_code 13 = .ok (.iload_n 1, 1) := by decide +kernel
theorem d_W_systemMayUse_14 : decode prog_1_method_28_code 14 = .ok (.bipush 16, 2) := by decide +kernel
theorem d_W_systemMayUse_16 : decode prog_1_method_28_code 16 = .ok (.idiv, 1) := by decide +kernel
theorem d_W_systemMayUse_17 : decode prog_1_method_28_code 17 = .ok (.iaload, 1) := by decide +kernel
theorem d_W_systemMayUse_18 : decode prog_1_method_28_code 18 = .ok (.istore_n 2, 1) := by decide +kernel
theorem d_W_systemMayUse_19 : decode prog_1_method_28_code 19 = .ok (.iload_n 2, 1) := by decide +kernel
theorem d_W_systemMayUse_20 : decode prog_1_method_28_code 20 = .ok (.iconst 1, 1) := by decide +kernel
theorem d_W_systemMayUse_21 : decode prog_1_method_28_code 21 = .ok (.if_icmp .eq 8, 3) := by decide +kernel
theorem d_W_systemMayUse_24 : decode prog_1_method_28_code 24 = .ok (.iload_n 2, 1) := by decide +kernel
theorem d_W_systemMayUse_25 : decode prog_1_method_28_code 25 = .ok (.iconst 5, 1) := by decide +kernel
theorem d_W_systemMayUse_26 : decode prog_1_method_28_code 26 = .ok (.if_icmp .lt 7, 3) := by decide +kernel
theorem d_W_systemMayUse_29 : decode prog_1_method_28_code 29 = .ok (.iconst 1, 1) := by decide +kernel
theorem d_W_systemMayUse_30 : decode prog_1_method_28_code 30 = .ok (.goto 4, 3) := by decide +kernel
theorem d_W_systemMayUse_33 : decode prog_1_method_28_code 33 = .ok (.iconst 0, 1) := by decide +kernel
theorem d_W_systemMayUse_34 : decode prog_1_method_28_code 34 = .ok (.ireturn, 1) := by decide +kernel
theorem d_W_enclaveMayUse_0 : decode prog_1_method_29_code 0 = .ok (.iload_n 2, 1) := by decide +kernel
theorem d_W_enclaveMayUse_1 : decode prog_1_method_29_code 1 = .ok (.invokestatic 54, 3) := by decide +kernel
theorem d_W_enclaveMayUse_4 : decode prog_1_method_29_code 4 = .ok (.ifCond .ne 5, 3) := by decide +kernel
theorem d_W_enclaveMayUse_7 : decode prog_1_method_29_code 7 = .ok (.iconst 0, 1) := by decide +kernel
theorem d_W_enclaveMayUse_8 : decode prog_1_method_29_code 8 = .ok (.ireturn, 1) := by decide +kernel
theorem d_W_enclaveMayUse_9 : decode prog_1_method_29_code 9 = .ok (.aload_n 0, 1) := by decide +kernel
theorem d_W_enclaveMayUse_10 : decode prog_1_method_29_code 10 = .ok (.getfield 17, 3) := by decide +kernel
theorem d_W_enclaveMayUse_13 : decode prog_1_method_29_code 13 = .ok (.iload_n 2, 1) := by decide +kernel
theorem d_W_enclaveMayUse_14 : decode prog_1_method_29_code 14 = .ok (.bipush 16, 2) := by decide +kernel
theorem d_W_enclaveMayUse_16 : decode prog_1_method_29_code 16 = .ok (.idiv, 1) := by decide +kernel
theorem d_W_enclaveMayUse_17 : decode prog_1_method_29_code 17 = .ok (.iaload, 1) := by decide +kernel
theorem d_W_enclaveMayUse_18 : decode prog_1_method_29_code 18 = .ok (.istore_n 3, 1) := by decide +kernel
theorem d_W_enclaveMayUse_19 : decode prog_1_method_29_code 19 = .ok (.iload_n 3, 1) := by decide +kernel
theorem d_W_enclaveMayUse_20 : decode prog_1_method_29_code 20 = .ok (.iconst 2, 1) := by decide +kernel
theorem d_W_enclaveMayUse_21 : decode prog_1_method_29_code 21 = .ok (.iload_n 1, 1) := by decide +kernel
theorem d_W_enclaveMayUse_22 : decode prog_1_method_29_code 22 = .ok (.iadd, 1) := by decide +kernel
theorem d_W_enclaveMayUse_23 : decode prog_1_method_29_code 23 = .ok (.if_icmp .eq 10, 3) := by decide +kernel
theorem d_W_enclaveMayUse_26 : decode prog_1_method_29_code 26 = .ok (.iload_n 3, 1) := by decide +kernel
theorem d_W_enclaveMayUse_27 : decode prog_1_method_29_code 27 = .ok (.iconst 5, 1) := by decide +kernel
theorem d_W_enclaveMayUse_28 : decode prog_1_method_29_code 28 = .ok (.iload_n 1, 1) := by decide +kernel
theorem d_W_enclaveMayUse_29 : decode prog_1_method_29_code 29 = .ok (.iadd, 1) := by decide +kernel
theorem d_W_enclaveMayUse_30 : decode prog_1_method_29_code 30 = .ok (.if_icmp .ne 7, 3) := by decide +kernel
theorem d_W_enclaveMayUse_33 : decode prog_1_method_29_code 33 = .ok (.iconst 1, 1) := by decide +kernel
theorem d_W_enclaveMayUse_34 : decode prog_1_method_29_code 34 = .ok (.goto 4, 3) := by decide +kernel
theorem d_W_enclaveMayUse_37 : decode prog_1_method_29_code 37 = .ok (.iconst 0, 1) := by decide +kernel
theorem d_W_enclaveMayUse_38 : decode prog_1_method_29_code 38 = .ok (.ireturn, 1) := by decide +kernel
theorem d_W_runnerMayUse_0 : decode prog_1_method_30_code 0 = .ok (.aload_n 0, 1) := by decide +kernel
theorem d_W_runnerMayUse_1 : decode prog_1_method_30_code 1 = .ok (.getfield 41, 3) := by decide +kernel
theorem d_W_runnerMayUse_4 : decode prog_1_method_30_code 4 = .ok (.iconst (-1), 1) := by decide +kernel
theorem d_W_runnerMayUse_5 : decode prog_1_method_30_code 5 = .ok (.if_icmp .ne 11, 3) := by decide +kernel
theorem d_W_runnerMayUse_8 : decode prog_1_method_30_code 8 = .ok (.aload_n 0, 1) := by decide +kernel
theorem d_W_runnerMayUse_9 : decode prog_1_method_30_code 9 = .ok (.iload_n 1, 1) := by decide +kernel
theorem d_W_runnerMayUse_10 : decode prog_1_method_30_code 10 = .ok (.invokevirtual 50, 3) := by decide +kernel
theorem d_W_runnerMayUse_13 : decode prog_1_method_30_code 13 = .ok (.goto 14, 3) := by decide +kernel
theorem d_W_runnerMayUse_16 : decode prog_1_method_30_code 16 = .ok (.aload_n 0, 1) := by decide +kernel
theorem d_W_runnerMayUse_17 : decode prog_1_method_30_code 17 = .ok (.aload_n 0, 1) := by decide +kernel
theorem d_W_runnerMayUse_18 : decode prog_1_method_30_code 18 = .ok (.getfield 41, 3) := by decide +kernel
theorem d_W_runnerMayUse_21 : decode prog_1_method_30_code 21 = .ok (.iconst 2, 1) := by decide +kernel
theorem d_W_runnerMayUse_22 : decode prog_1_method_30_code 22 = .ok (.idiv, 1) := by decide +kernel
theorem d_W_runnerMayUse_23 : decode prog_1_method_30_code 23 = .ok (.iload_n 1, 1) := by decide +kernel
theorem d_W_runnerMayUse_24 : decode prog_1_method_30_code 24 = .ok (.invokevirtual 108, 3) := by decide +kernel
theorem d_W_runnerMayUse_27 : decode prog_1_method_30_code 27 = .ok (.ireturn, 1) := by decide +kernel
theorem d_W_runningThread_0 : decode prog_1_method_31_code 0 = .ok (.aload_n 0, 1) := by decide +kernel
theorem d_W_runningThread_1 : decode prog_1_method_31_code 1 = .ok (.getfield 22, 3) := by decide +kernel
theorem d_W_runningThread_4 : decode prog_1_method_31_code 4 = .ok (.aload_n 0, 1) := by decide +kernel
theorem d_W_runningThread_5 : decode prog_1_method_31_code 5 = .ok (.getfield 41, 3) := by decide +kernel
theorem d_W_runningThread_8 : decode prog_1_method_31_code 8 = .ok (.iconst 2, 1) := by decide +kernel
theorem d_W_runningThread_9 : decode prog_1_method_31_code 9 = .ok (.idiv, 1) := by decide +kernel
theorem d_W_runningThread_10 : decode prog_1_method_31_code 10 = .ok (.aaload, 1) := by decide +kernel
theorem d_W_runningThread_11 : decode prog_1_method_31_code 11 = .ok (.getfield 87, 3) := by decide +kernel
theorem d_W_runningThread_14 : decode prog_1_method_31_code 14 = .ok (.aload_n 0, 1) := by decide +kernel
theorem d_W_runningThread_15 : decode prog_1_method_31_code 15 = .ok (.getfield 41, 3) := by decide +kernel
theorem d_W_runningThread_18 : decode prog_1_method_31_code 18 = .ok (.iconst 2, 1) := by decide +kernel
theorem d_W_runningThread_19 : decode prog_1_method_31_code 19 = .ok (.irem, 1) := by decide +kernel
theorem d_W_runningThread_20 : decode prog_1_method_31_code 20 = .ok (.aaload, 1) := by decide +kernel
theorem d_W_runningThread_21 : decode prog_1_method_31_code 21 = .ok (.areturn, 1) := by decide +kernel
theorem d_W_step_0 : decode prog_1_method_32_code 0 = .ok (.aload_n 0, 1) := by decide +kernel
theorem d_W_step_1 : decode prog_1_method_32_code 1 = .ok (.dup, 1) := by decide +kernel
theorem d_W_step_2 : decode prog_1_method_32_code 2 = .ok (.getfield 47, 3) := by decide +kernel
theorem d_W_step_5 : decode prog_1_method_32_code 5 = .ok (.iconst 1, 1) := by decide +kernel
theorem d_W_step_6 : decode prog_1_method_32_code 6 = .ok (.iadd, 1) := by decide +kernel
theorem d_W_step_7 : decode prog_1_method_32_code 7 = .ok (.putfield 47, 3) := by decide +kernel
theorem d_W_step_10 : decode prog_1_method_32_code 10 = .ok (.aload_n 0, 1) := by decide +kernel
theorem d_W_step_11 : decode prog_1_method_32_code 11 = .ok (.getfield 41, 3) := by decide +kernel
theorem d_W_step_14 : decode prog_1_method_32_code 14 = .ok (.iconst (-1), 1) := by decide +kernel
theorem d_W_step_15 : decode prog_1_method_32_code 15 = .ok (.if_icmp .eq 30, 3) := by decide +kernel
theorem d_W_step_18 : decode prog_1_method_32_code 18 = .ok (.aload_n 0, 1) := by decide +kernel
theorem d_W_step_19 : decode prog_1_method_32_code 19 = .ok (.getfield 44, 3) := by decide +kernel
theorem d_W_step_22 : decode prog_1_method_32_code 22 = .ok (.ifCond .le 23, 3) := by decide +kernel
theorem d_W_step_25 : decode prog_1_method_32_code 25 = .ok (.aload_n 0, 1) := by decide +kernel
theorem d_W_step_26 : decode prog_1_method_32_code 26 = .ok (.getfield 47, 3) := by decide +kernel
theorem d_W_step_29 : decode prog_1_method_32_code 29 = .ok (.aload_n 0, 1) := by decide +kernel
theorem d_W_step_30 : decode prog_1_method_32_code 30 = .ok (.getfield 44, 3) := by decide +kernel
theorem d_W_step_33 : decode prog_1_method_32_code 33 = .ok (.irem, 1) := by decide +kernel
theorem d_W_step_34 : decode prog_1_method_32_code 34 = .ok (.ifCond .ne 11, 3) := by decide +kernel
theorem d_W_step_37 : decode prog_1_method_32_code 37 = .ok (.aload_n 0, 1) := by decide +kernel
theorem d_W_step_38 : decode prog_1_method_32_code 38 = .ok (.iconst 3, 1) := by decide +kernel
theorem d_W_step_39 : decode prog_1_method_32_code 39 = .ok (.iconst 2, 1) := by decide +kernel
theorem d_W_step_40 : decode prog_1_method_32_code 40 = .ok (.iconst 0, 1) := by decide +kernel
theorem d_W_step_41 : decode prog_1_method_32_code 41 = .ok (.invokevirtual 112, 3) := by decide +kernel
theorem d_W_step_44 : decode prog_1_method_32_code 44 = .ok (.return_, 1) := by decide +kernel
theorem d_W_step_45 : decode prog_1_method_32_code 45 = .ok (.aload_n 0, 1) := by decide +kernel
theorem d_W_step_46 : decode prog_1_method_32_code 46 = .ok (.getfield 41, 3) := by decide +kernel
theorem d_W_step_49 : decode prog_1_method_32_code 49 = .ok (.iconst (-1), 1) := by decide +kernel
theorem d_W_step_50 : decode prog_1_method_32_code 50 = .ok (.if_icmp .ne 10, 3) := by decide +kernel
theorem d_W_step_53 : decode prog_1_method_32_code 53 = .ok (.aload_n 0, 1) := by decide +kernel
theorem d_W_step_54 : decode prog_1_method_32_code 54 = .ok (.getfield 30, 3) := by decide +kernel
theorem d_W_step_57 : decode prog_1_method_32_code 57 = .ok (.goto 10, 3) := by decide +kernel
theorem d_W_step_60 : decode prog_1_method_32_code 60 = .ok (.aload_n 0, 1) := by decide +kernel
theorem d_W_step_61 : decode prog_1_method_32_code 61 = .ok (.invokevirtual 116, 3) := by decide +kernel
theorem d_W_step_64 : decode prog_1_method_32_code 64 = .ok (.getfield 94, 3) := by decide +kernel
theorem d_W_step_67 : decode prog_1_method_32_code 67 = .ok (.astore_n 1, 1) := by decide +kernel
theorem d_W_step_68 : decode prog_1_method_32_code 68 = .ok (.aload_n 0, 1) := by decide +kernel
theorem d_W_step_69 : decode prog_1_method_32_code 69 = .ok (.aload_n 1, 1) := by decide +kernel
theorem d_W_step_70 : decode prog_1_method_32_code 70 = .ok (.getfield 65, 3) := by decide +kernel
theorem d_W_step_73 : decode prog_1_method_32_code 73 = .ok (.invokevirtual 120, 3) := by decide +kernel
theorem d_W_step_76 : decode prog_1_method_32_code 76 = .ok (.ifCond .ne 9, 3) := by decide +kernel
theorem d_W_step_79 : decode prog_1_method_32_code 79 = .ok (.aload_n 0, 1) := by decide +kernel
theorem d_W_step_80 : decode prog_1_method_32_code 80 = .ok (.iconst 3, 1) := by decide +kernel
theorem d_W_step_81 : decode prog_1_method_32_code 81 = .ok (.invokevirtual 123, 3) := by decide +kernel
theorem d_W_step_84 : decode prog_1_method_32_code 84 = .ok (.return_, 1) := by decide +kernel
theorem d_W_step_85 : decode prog_1_method_32_code 85 = .ok (.aload_n 0, 1) := by decide +kernel
theorem d_W_step_86 : decode prog_1_method_32_code 86 = .ok (.getfield 13, 3) := by decide +kernel
theorem d_W_step_89 : decode prog_1_method_32_code 89 = .ok (.aload_n 1, 1) := by decide +kernel
theorem d_W_step_90 : decode prog_1_method_32_code 90 = .ok (.getfield 65, 3) := by decide +kernel
theorem d_W_step_93 : decode prog_1_method_32_code 93 = .ok (.iaload, 1) := by decide +kernel
theorem d_W_step_94 : decode prog_1_method_32_code 94 = .ok (.istore_n 2, 1) := by decide +kernel
theorem d_W_step_95 : decode prog_1_method_32_code 95 = .ok (.iload_n 2, 1) := by decide +kernel
theorem d_W_step_96 : decode prog_1_method_32_code 96 = .ok (.bipush 15, 2) := by decide +kernel
theorem d_W_step_98 : decode prog_1_method_32_code 98 = .ok (.iand, 1) := by decide +kernel
theorem d_W_step_99 : decode prog_1_method_32_code 99 = .ok (.bipush 11, 2) := by decide +kernel
theorem d_W_step_101 : decode prog_1_method_32_code 101 = .ok (.if_icmp .ne 15, 3) := by decide +kernel
theorem d_W_step_104 : decode prog_1_method_32_code 104 = .ok (.aload_n 0, 1) := by decide +kernel
theorem d_W_step_105 : decode prog_1_method_32_code 105 = .ok (.aload_n 1, 1) := by decide +kernel
theorem d_W_step_106 : decode prog_1_method_32_code 106 = .ok (.iload_n 2, 1) := by decide +kernel
theorem d_W_step_107 : decode prog_1_method_32_code 107 = .ok (.bipush 16, 2) := by decide +kernel
theorem d_W_step_109 : decode prog_1_method_32_code 109 = .ok (.ishr, 1) := by decide +kernel
theorem d_W_step_110 : decode prog_1_method_32_code 110 = .ok (.invokevirtual 127, 3) := by decide +kernel
theorem d_W_step_113 : decode prog_1_method_32_code 113 = .ok (.goto 9, 3) := by decide +kernel
theorem d_W_step_116 : decode prog_1_method_32_code 116 = .ok (.aload_n 0, 1) := by decide +kernel
theorem d_W_step_117 : decode prog_1_method_32_code 117 = .ok (.aload_n 1, 1) := by decide +kernel
theorem d_W_step_118 : decode prog_1_method_32_code 118 = .ok (.iload_n 2, 1) := by decide +kernel
theorem d_W_step_119 : decode prog_1_method_32_code 119 = .ok (.invokevirtual 131, 3) := by decide +kernel
theorem d_W_step_122 : decode prog_1_method_32_code 122 = .ok (.return_, 1) := by decide +kernel
theorem d_W_obey_0 : decode prog_1_method_33_code 0 = .ok (.iload_n 2, 1) := by decide +kernel
theorem d_W_obey_1 : decode prog_1_method_33_code 1 = .ok (.bipush 15, 2) := by decide +kernel
theorem d_W_obey_3 : decode prog_1_method_33_code 3 = .ok (.iand, 1) := by decide +kernel
theorem d_W_obey_4 : decode prog_1_method_33_code 4 = .ok (.istore_n 3, 1) := by decide +kernel
theorem d_W_obey_5 : decode prog_1_method_33_code 5 = .ok (.iload_n 2, 1) := by decide +kernel
theorem d_W_obey_6 : decode prog_1_method_33_code 6 = .ok (.iconst 4, 1) := by decide +kernel
theorem d_W_obey_7 : decode prog_1_method_33_code 7 = .ok (.ishr, 1) := by decide +kernel
theorem d_W_obey_8 : decode prog_1_method_33_code 8 = .ok (.bipush 7, 2) := by decide +kernel
theorem d_W_obey_10 : decode prog_1_method_33_code 10 = .ok (.iand, 1) := by decide +kernel
theorem d_W_obey_11 : decode prog_1_method_33_code 11 = .ok (.istore 4, 2) := by decide +kernel
theorem d_W_obey_13 : decode prog_1_method_33_code 13 = .ok (.aload_n 1, 1) := by decide +kernel
theorem d_W_obey_14 : decode prog_1_method_33_code 14 = .ok (.iload_n 2, 1) := by decide +kernel
theorem d_W_obey_15 : decode prog_1_method_33_code 15 = .ok (.bipush 7, 2) := by decide +kernel
theorem d_W_obey_17 : decode prog_1_method_33_code 17 = .ok (.ishr, 1) := by decide +kernel
theorem d_W_obey_18 : decode prog_1_method_33_code 18 = .ok (.bipush 7, 2) := by decide +kernel
theorem d_W_obey_20 : decode prog_1_method_33_code 20 = .ok (.iand, 1) := by decide +kernel
theorem d_W_obey_21 : decode prog_1_method_33_code 21 = .ok (.invokevirtual 61, 3) := by decide +kernel
theorem d_W_obey_24 : decode prog_1_method_33_code 24 = .ok (.istore 5, 2) := by decide +kernel
theorem d_W_obey_26 : decode prog_1_method_33_code 26 = .ok (.aload_n 1, 1) := by decide +kernel
theorem d_W_obey_27 : decode prog_1_method_33_code 27 = .ok (.iload_n 2, 1) := by decide +kernel
theorem d_W_obey_28 : decode prog_1_method_33_code 28 = .ok (.bipush 10, 2) := by decide +kernel
theorem d_W_obey_30 : decode prog_1_method_33_code 30 = .ok (.ishr, 1) := by decide +kernel
theorem d_W_obey_31 : decode prog_1_method_33_code 31 = .ok (.bipush 7, 2) := by decide +kernel
theorem d_W_obey_33 : decode prog_1_method_33_code 33 = .ok (.iand, 1) := by decide +kernel
theorem d_W_obey_34 : decode prog_1_method_33_code 34 = .ok (.invokevirtual 61, 3) := by decide +kernel
theorem d_W_obey_37 : decode prog_1_method_33_code 37 = .ok (.istore 6, 2) := by decide +kernel
theorem d_W_obey_39 : decode prog_1_method_33_code 39 = .ok (.iload_n 2, 1) := by decide +kernel
theorem d_W_obey_40 : decode prog_1_method_33_code 40 = .ok (.bipush 16, 2) := by decide +kernel
theorem d_W_obey_42 : decode prog_1_method_33_code 42 = .ok (.ishr, 1) := by decide +kernel
theorem d_W_obey_43 : decode prog_1_method_33_code 43 = .ok (.istore 7, 2) := by decide +kernel
theorem d_W_obey_45 : decode prog_1_method_33_code 45 = .ok (.iload_n 3, 1) := by decide +kernel
theorem d_W_obey_46 : decode prog_1_method_33_code 46 = .ok (.iconst 1, 1) := by decide +kernel
theorem d_W_obey_47 : decode prog_1_method_33_code 47 = .ok (.if_icmp .lt 9, 3) := by decide +kernel
theorem d_W_obey_50 : decode prog_1_method_33_code 50 = .ok (.iload_n 3, 1) := by decide +kernel
theorem d_W_obey_51 : decode prog_1_method_33_code 51 = .ok (.bipush 10, 2) := by decide +kernel
theorem d_W_obey_53 : decode prog_1_method_33_code 53 = .ok (.if_icmp .le 9, 3) := by decide +kernel
theorem d_W_obey_56 : decode prog_1_method_33_code 56 = .ok (.aload_n 0, 1) := by decide +kernel
theorem d_W_obey_57 : decode prog_1_method_33_code 57 = .ok (.iconst 4, 1) := by decide +kernel
theorem d_W_obey_58 : decode prog_1_method_33_code 58 = .ok (.invokevirtual 123, 3) := by decide +kernel
theorem d_W_obey_61 : decode prog_1_method_33_code 61 = .ok (.return_, 1) := by decide +kernel
theorem d_W_obey_62 : decode prog_1_method_33_code 62 = .ok (.iload_n 3, 1) := by decide +kernel
theorem d_W_obey_63 : decode prog_1_method_33_code 63 = .ok (.bipush 7, 2) := by decide +kernel
theorem d_W_obey_65 : decode prog_1_method_33_code 65 = .ok (.if_icmp .eq 9, 3) := by decide +kernel
theorem d_W_obey_68 : decode prog_1_method_33_code 68 = .ok (.iload_n 3, 1) := by decide +kernel
theorem d_W_obey_69 : decode prog_1_method_33_code 69 = .ok (.bipush 8, 2) := by decide +kernel
theorem d_W_obey_71 : decode prog_1_method_33_code 71 = .ok (.if_icmp .ne 21, 3) := by decide +kernel
theorem d_W_obey_74 : decode prog_1_method_33_code 74 = .ok (.aload_n 0, 1) := by decide +kernel
theorem d_W_obey_75 : decode prog_1_method_33_code 75 = .ok (.iload 5, 2) := by decide +kernel
theorem d_W_obey_77 : decode prog_1_method_33_code 77 = .ok (.iload 7, 2) := by decide +kernel
theorem d_W_obey_79 : decode prog_1_method_33_code 79 = .ok (.iadd, 1) := by decide +kernel
theorem d_W_obey_80 : decode prog_1_method_33_code 80 = .ok (.invokevirtual 120, 3) := by decide +kernel
theorem d_W_obey_83 : decode prog_1_method_33_code 83 = .ok (.ifCond .ne 9, 3) := by decide +kernel
theorem d_W_obey_86 : decode prog_1_method_33_code 86 = .ok (.aload_n 0, 1) := by decide +kernel
theorem d_W_obey_87 : decode prog_1_method_33_code 87 = .ok (.iconst 3, 1) := by decide +kernel
theorem d_W_obey_88 : decode prog_1_method_33_code 88 = .ok (.invokevirtual 123, 3) := by decide +kernel
theorem d_W_obey_91 : decode prog_1_method_33_code 91 = .ok (.return_, 1) := by decide +kernel
theorem d_W_obey_92 : decode prog_1_method_33_code 92 = .ok (.aload_n 1, 1) := by decide +kernel
theorem d_W_obey_93 : decode prog_1_method_33_code 93 = .ok (.dup, 1) := by decide +kernel
theorem d_W_obey_94 : decode prog_1_method_33_code 94 = .ok (.getfield 65, 3) := by decide +kernel
theorem d_W_obey_97 : decode prog_1_method_33_code 97 = .ok (.iconst 1, 1) := by decide +kernel
theorem d_W_obey_98 : decode prog_1_method_33_code 98 = .ok (.iadd, 1) := by decide +kernel
theorem d_W_obey_99 : decode prog_1_method_33_code 99 = .ok (.putfield 65, 3) := by decide +kernel
theorem d_W_obey_102 : decode prog_1_method_33_code 102 = .ok (.iload_n 3, 1) := by decide +kernel
theorem d_W_obey_103 : decode prog_1_method_33_code 103 = .ok (.tableswitch 193 1 9 #[49, 60, 74, 88, 102, 116, 130, 149, 168], 49) := by decide +kernel
theorem d_W_obey_152 : decode prog_1_method_33_code 152 = .ok (.aload_n 1, 1) := by decide +kernel
theorem d_W_obey_153 : decode prog_1_method_33_code 153 = .ok (.iload 4, 2) := by decide +kernel
theorem d_W_obey_155 : decode prog_1_method_33_code 155 = .ok (.iload 7, 2) := by decide +kernel
theorem d_W_obey_157 : decode prog_1_method_33_code 157 = .ok (.invokevirtual 57, 3) := by decide +kernel
theorem d_W_obey_160 : decode prog_1_method_33_code 160 = .ok (.goto 158, 3) := by decide +kernel
theorem d_W_obey_163 : decode prog_1_method_33_code 163 = .ok (.aload_n 1, 1) := by decide +kernel
theorem d_W_obey_164 : decode prog_1_method_33_code 164 = .ok (.iload 4, 2) := by decide +kernel
theorem d_W_obey_166 : decode prog_1_method_33_code 166 = .ok (.iload 5, 2) := by decide +kernel
theorem d_W_obey_168 : decode prog_1_method_33_code 168 = .ok (.iload 7, 2) := by decide +kernel
theorem d_W_obey_170 : decode prog_1_method_33_code 170 = .ok (.iadd, 1) := by decide +kernel
theorem d_W_obey_171 : decode prog_1_method_33_code 171 = .ok (.invokevirtual 57, 3) := by decide +kernel
theorem d_W_obey_174 : decode prog_1_method_33_code 174 = .ok (.goto 144, 3) := by decide +kernel
theorem d_W_obey_177 : decode prog_1_method_33_code 177 = .ok (.aload_n 1, 1) := by decide +kernel
theorem d_W_obey_178 : decode prog_1_method_33_code 178 = .ok (.iload 4, 2) := by decide +kernel
theorem d_W_obey_180 : decode prog_1_method_33_code 180 = .ok (.iload 5, 2) := by decide +kernel
theorem d_W_obey_182 : decode prog_1_method_33_code 182 = .ok (.iload 6, 2) := by decide +kernel
theorem d_W_obey_184 : decode prog_1_method_33_code 184 = .ok (.iadd, 1) := by decide +kernel
theorem d_W_obey_185 : decode prog_1_method_33_code 185 = .ok (.invokevirtual 57, 3) := by decide +kernel
theorem d_W_obey_188 : decode prog_1_method_33_code 188 = .ok (.goto 130, 3) := by decide +kernel
theorem d_W_obey_191 : decode prog_1_method_33_code 191 = .ok (.aload_n 1, 1) := by decide +kernel
theorem d_W_obey_192 : decode prog_1_method_33_code 192 = .ok (.iload 4, 2) := by decide +kernel
theorem d_W_obey_194 : decode prog_1_method_33_code 194 = .ok (.iload 5, 2) := by decide +kernel
theorem d_W_obey_196 : decode prog_1_method_33_code 196 = .ok (.iload 6, 2) := by decide +kernel
theorem d_W_obey_198 : decode prog_1_method_33_code 198 = .ok (.isub, 1) := by decide +kernel
theorem d_W_obey_199 : decode prog_1_method_33_code 199 = .ok (.invokevirtual 57, 3) := by decide +kernel
theorem d_W_obey_202 : decode prog_1_method_33_code 202 = .ok (.goto 116, 3) := by decide +kernel
theorem d_W_obey_205 : decode prog_1_method_33_code 205 = .ok (.aload_n 1, 1) := by decide +kernel
theorem d_W_obey_206 : decode prog_1_method_33_code 206 = .ok (.iload 4, 2) := by decide +kernel
theorem d_W_obey_208 : decode prog_1_method_33_code 208 = .ok (.iload 5, 2) := by decide +kernel
theorem d_W_obey_210 : decode prog_1_method_33_code 210 = .ok (.iload 6, 2) := by decide +kernel
theorem d_W_obey_212 : decode prog_1_method_33_code 212 = .ok (.imul, 1) := by decide +kernel
theorem d_W_obey_213 : decode prog_1_method_33_code 213 = .ok (.invokevirtual 57, 3) := by decide +kernel
theorem d_W_obey_216 : decode prog_1_method_33_code 216 = .ok (.goto 102, 3) := by decide +kernel
theorem d_W_obey_219 : decode prog_1_method_33_code 219 = .ok (.aload_n 1, 1) := by decide +kernel
theorem d_W_obey_220 : decode prog_1_method_33_code 220 = .ok (.iload 4, 2) := by decide +kernel
theorem d_W_obey_222 : decode prog_1_method_33_code 222 = .ok (.iload 5, 2) := by decide +kernel
theorem d_W_obey_224 : decode prog_1_method_33_code 224 = .ok (.iload 6, 2) := by decide +kernel
theorem d_W_obey_226 : decode prog_1_method_33_code 226 = .ok (.ixor, 1) := by decide +kernel
theorem d_W_obey_227 : decode prog_1_method_33_code 227 = .ok (.invokevirtual 57, 3) := by decide +kernel
theorem d_W_obey_230 : decode prog_1_method_33_code 230 = .ok (.goto 88, 3) := by decide +kernel
theorem d_W_obey_233 : decode prog_1_method_33_code 233 = .ok (.aload_n 1, 1) := by decide +kernel
theorem d_W_obey_234 : decode prog_1_method_33_code 234 = .ok (.iload 4, 2) := by decide +kernel
theorem d_W_obey_236 : decode prog_1_method_33_code 236 = .ok (.aload_n 0, 1) := by decide +kernel
theorem d_W_obey_237 : decode prog_1_method_33_code 237 = .ok (.getfield 13, 3) := by decide +kernel
theorem d_W_obey_240 : decode prog_1_method_33_code 240 = .ok (.iload 5, 2) := by decide +kernel
theorem d_W_obey_242 : decode prog_1_method_33_code 242 = .ok (.iload 7, 2) := by decide +kernel
theorem d_W_obey_244 : decode prog_1_method_33_code 244 = .ok (.iadd, 1) := by decide +kernel
theorem d_W_obey_245 : decode prog_1_method_33_code 245 = .ok (.iaload, 1) := by decide +kernel
theorem d_W_obey_246 : decode prog_1_method_33_code 246 = .ok (.invokevirtual 57, 3) := by decide +kernel
theorem d_W_obey_249 : decode prog_1_method_33_code 249 = .ok (.goto 69, 3) := by decide +kernel
theorem d_W_obey_252 : decode prog_1_method_33_code 252 = .ok (.aload_n 0, 1) := by decide +kernel
theorem d_W_obey_253 : decode prog_1_method_33_code 253 = .ok (.getfield 13, 3) := by decide +kernel
theorem d_W_obey_256 : decode prog_1_method_33_code 256 = .ok (.iload 5, 2) := by decide +kernel
theorem d_W_obey_258 : decode prog_1_method_33_code 258 = .ok (.iload 7, 2) := by decide +kernel
theorem d_W_obey_260 : decode prog_1_method_33_code 260 = .ok (.iadd, 1) := by decide +kernel
theorem d_W_obey_261 : decode prog_1_method_33_code 261 = .ok (.aload_n 1, 1) := by decide +kernel
theorem d_W_obey_262 : decode prog_1_method_33_code 262 = .ok (.iload 4, 2) := by decide +kernel
theorem d_W_obey_264 : decode prog_1_method_33_code 264 = .ok (.invokevirtual 61, 3) := by decide +kernel
theorem d_W_obey_267 : decode prog_1_method_33_code 267 = .ok (.iastore, 1) := by decide +kernel
theorem d_W_obey_268 : decode prog_1_method_33_code 268 = .ok (.goto 50, 3) := by decide +kernel
theorem d_W_obey_271 : decode prog_1_method_33_code 271 = .ok (.aload_n 1, 1) := by decide +kernel
theorem d_W_obey_272 : decode prog_1_method_33_code 272 = .ok (.aload_n 1, 1) := by decide +kernel
theorem d_W_obey_273 : decode prog_1_method_33_code 273 = .ok (.iload 4, 2) := by decide +kernel
theorem d_W_obey_275 : decode prog_1_method_33_code 275 = .ok (.invokevirtual 61, 3) := by decide +kernel
theorem d_W_obey_278 : decode prog_1_method_33_code 278 = .ok (.iload 5, 2) := by decide +kernel
theorem d_W_obey_280 : decode prog_1_method_33_code 280 = .ok (.if_icmp .ne 7, 3) := by decide +kernel
theorem d_W_obey_283 : decode prog_1_method_33_code 283 = .ok (.iconst 1, 1) := by decide +kernel
theorem d_W_obey_284 : decode prog_1_method_33_code 284 = .ok (.goto 4, 3) := by decide +kernel
theorem d_W_obey_287 : decode prog_1_method_33_code 287 = .ok (.iconst 0, 1) := by decide +kernel
theorem d_W_obey_288 : decode prog_1_method_33_code 288 = .ok (.iload 7, 2) := by decide +kernel
theorem d_W_obey_290 : decode prog_1_method_33_code 290 = .ok (.invokestatic 134, 3) := by decide +kernel
theorem d_W_obey_293 : decode prog_1_method_33_code 293 = .ok (.goto 25, 3) := by decide +kernel
theorem d_W_obey_296 : decode prog_1_method_33_code 296 = .ok (.aload_n 1, 1) := by decide +kernel
theorem d_W_obey_297 : decode prog_1_method_33_code 297 = .ok (.aload_n 1, 1) := by decide +kernel
theorem d_W_obey_298 : decode prog_1_method_33_code 298 = .ok (.iload 4, 2) := by decide +kernel
theorem d_W_obey_300 : decode prog_1_method_33_code 300 = .ok (.invokevirtual 61, 3) := by decide +kernel
theorem d_W_obey_303 : decode prog_1_method_33_code 303 = .ok (.iload 5, 2) := by decide +kernel
theorem d_W_obey_305 : decode prog_1_method_33_code 305 = .ok (.if_icmp .ge 7, 3) := by decide +kernel
theorem d_W_obey_308 : decode prog_1_method_33_code 308 = .ok (.iconst 1, 1) := by decide +kernel
theorem d_W_obey_309 : decode prog_1_method_33_code 309 = .ok (.goto 4, 3) := by decide +kernel
theorem d_W_obey_312 : decode prog_1_method_33_code 312 = .ok (.iconst 0, 1) := by decide +kernel
theorem d_W_obey_313 : decode prog_1_method_33_code 313 = .ok (.iload 7, 2) := by decide +kernel
theorem d_W_obey_315 : decode prog_1_method_33_code 315 = .ok (.invokestatic 134, 3) := by decide +kernel
theorem d_W_obey_318 : decode prog_1_method_33_code 318 = .ok (.return_, 1) := by decide +kernel
theorem d_W_branch_0 : decode prog_1_method_34_code 0 = .ok (.iload_n 1, 1) := by decide +kernel
theorem d_W_branch_1 : decode prog_1_method_34_code 1 = .ok (.ifCond .eq 13, 3) := by decide +kernel
theorem d_W_branch_4 : decode prog_1_method_34_code 4 = .ok (.aload_n 0, 1) := by decide +kernel
theorem d_W_branch_5 : decode prog_1_method_34_code 5 = .ok (.dup, 1) := by decide +kernel
theorem d_W_branch_6 : decode prog_1_method_34_code 6 = .ok (.getfield 65, 3) := by decide +kernel
theorem d_W_branch_9 : decode prog_1_method_34_code 9 = .ok (.iload_n 2, 1) := by decide +kernel
theorem d_W_branch_10 : decode prog_1_method_34_code 10 = .ok (.iadd, 1) := by decide +kernel
theorem d_W_branch_11 : decode prog_1_method_34_code 11 = .ok (.putfield 65, 3) := by decide +kernel
theorem d_W_branch_14 : decode prog_1_method_34_code 14 = .ok (.return_, 1) := by decide +kernel
theorem d_W_obeyCall_0 : decode prog_1_method_35_code 0 = .ok (.aload_n 1, 1) := by decide +kernel
theorem d_W_obeyCall_1 : decode prog_1_method_35_code 1 = .ok (.iconst 1, 1) := by decide +kernel
theorem d_W_obeyCall_2 : decode prog_1_method_35_code 2 = .ok (.invokevirtual 61, 3) := by decide +kernel
theorem d_W_obeyCall_5 : decode prog_1_method_35_code 5 = .ok (.istore_n 3, 1) := by decide +kernel
theorem d_W_obeyCall_6 : decode prog_1_method_35_code 6 = .ok (.aload_n 1, 1) := by decide +kernel
theorem d_W_obeyCall_7 : decode prog_1_method_35_code 7 = .ok (.iconst 2, 1) := by decide +kernel
theorem d_W_obeyCall_8 : decode prog_1_method_35_code 8 = .ok (.invokevirtual 61, 3) := by decide +kernel
theorem d_W_obeyCall_11 : decode prog_1_method_35_code 11 = .ok (.istore 4, 2) := by decide +kernel
theorem d_W_obeyCall_13 : decode prog_1_method_35_code 13 = .ok (.aload_n 1, 1) := by decide +kernel
theorem d_W_obeyCall_14 : decode prog_1_method_35_code 14 = .ok (.iconst 3, 1) := by decide +kernel
theorem d_W_obeyCall_15 : decode prog_1_method_35_code 15 = .ok (.invokevirtual 61, 3) := by decide +kernel
theorem d_W_obeyCall_18 : decode prog_1_method_35_code 18 = .ok (.istore 5, 2) := by decide +kernel
theorem d_W_obeyCall_20 : decode prog_1_method_35_code 20 = .ok (.aload_n 0, 1) := by decide +kernel
theorem d_W_obeyCall_21 : decode prog_1_method_35_code 21 = .ok (.getfield 41, 3) := by decide +kernel
theorem d_W_obeyCall_24 : decode prog_1_method_35_code 24 = .ok (.istore 6, 2) := by decide +kernel
theorem d_W_obeyCall_26 : decode prog_1_method_35_code 26 = .ok (.aload_n 1, 1) := by decide +kernel
theorem d_W_obeyCall_27 : decode prog_1_method_35_code 27 = .ok (.dup, 1) := by decide +kernel
theorem d_W_obeyCall_28 : decode prog_1_method_35_code 28 = .ok (.getfield 65, 3) := by decide +kernel
theorem d_W_obeyCall_31 : decode prog_1_method_35_code 31 = .ok (.iconst 1, 1) := by decide +kernel
theorem d_W_obeyCall_32 : decode prog_1_method_35_code 32 = .ok (.iadd, 1) := by decide +kernel
theorem d_W_obeyCall_33 : decode prog_1_method_35_code 33 = .ok (.putfield 65, 3) := by decide +kernel
theorem d_W_obeyCall_36 : decode prog_1_method_35_code 36 = .ok (.iload 6, 2) := by decide +kernel
theorem d_W_obeyCall_38 : decode prog_1_method_35_code 38 = .ok (.iconst (-1), 1) := by decide +kernel
theorem d_W_obeyCall_39 : decode prog_1_method_35_code 39 = .ok (.if_icmp .ne 16, 3) := by decide +kernel
theorem d_W_obeyCall_42 : decode prog_1_method_35_code 42 = .ok (.aload_n 0, 1) := by decide +kernel
theorem d_W_obeyCall_43 : decode prog_1_method_35_code 43 = .ok (.iload_n 2, 1) := by decide +kernel
theorem d_W_obeyCall_44 : decode prog_1_method_35_code 44 = .ok (.iload_n 3, 1) := by decide +kernel
theorem d_W_obeyCall_45 : decode prog_1_method_35_code 45 = .ok (.iload 4, 2) := by decide +kernel
theorem d_W_obeyCall_47 : decode prog_1_method_35_code 47 = .ok (.iload 5, 2) := by decide +kernel
theorem d_W_obeyCall_49 : decode prog_1_method_35_code 49 = .ok (.invokevirtual 68, 3) := by decide +kernel
theorem d_W_obeyCall_52 : decode prog_1_method_35_code 52 = .ok (.goto 13, 3) := by decide +kernel
theorem d_W_obeyCall_55 : decode prog_1_method_35_code 55 = .ok (.aload_n 0, 1) := by decide +kernel
theorem d_W_obeyCall_56 : decode prog_1_method_35_code 56 = .ok (.iload_n 2, 1) := by decide +kernel
theorem d_W_obeyCall_57 : decode prog_1_method_35_code 57 = .ok (.iload_n 3, 1) := by decide +kernel
theorem d_W_obeyCall_58 : decode prog_1_method_35_code 58 = .ok (.iload 4, 2) := by decide +kernel
theorem d_W_obeyCall_60 : decode prog_1_method_35_code 60 = .ok (.iload 5, 2) := by decide +kernel
theorem d_W_obeyCall_62 : decode prog_1_method_35_code 62 = .ok (.invokevirtual 138, 3) := by decide +kernel
theorem d_W_obeyCall_65 : decode prog_1_method_35_code 65 = .ok (.istore 7, 2) := by decide +kernel
theorem d_W_obeyCall_67 : decode prog_1_method_35_code 67 = .ok (.aload_n 0, 1) := by decide +kernel
theorem d_W_obeyCall_68 : decode prog_1_method_35_code 68 = .ok (.getfield 41, 3) := by decide +kernel
theorem d_W_obeyCall_71 : decode prog_1_method_35_code 71 = .ok (.iload 6, 2) := by decide +kernel
theorem d_W_obeyCall_73 : decode prog_1_method_35_code 73 = .ok (.if_icmp .ne 10, 3) := by decide +kernel
theorem d_W_obeyCall_76 : decode prog_1_method_35_code 76 = .ok (.aload_n 1, 1) := by decide +kernel
theorem d_W_obeyCall_77 : decode prog_1_method_35_code 77 = .ok (.iconst 1, 1) := by decide +kernel
theorem d_W_obeyCall_78 : decode prog_1_method_35_code 78 = .ok (.iload 7, 2) := by decide +kernel
theorem d_W_obeyCall_80 : decode prog_1_method_35_code 80 = .ok (.invokevirtual 57, 3) := by decide +kernel
theorem d_W_obeyCall_83 : decode prog_1_method_35_code 83 = .ok (.return_, 1) := by decide +kernel
theorem d_W_fault_0 : decode prog_1_method_36_code 0 = .ok (.aload_n 0, 1) := by decide +kernel
theorem d_W_fault_1 : decode prog_1_method_36_code 1 = .ok (.getfield 41, 3) := by decide +kernel
theorem d_W_fault_4 : decode prog_1_method_36_code 4 = .ok (.iconst (-1), 1) := by decide +kernel
theorem d_W_fault_5 : decode prog_1_method_36_code 5 = .ok (.if_icmp .ne 11, 3) := by decide +kernel
theorem d_W_fault_8 : decode prog_1_method_36_code 8 = .ok (.aload_n 0, 1) := by decide +kernel
theorem d_W_fault_9 : decode prog_1_method_36_code 9 = .ok (.iconst 1, 1) := by decide +kernel
theorem d_W_fault_10 : decode prog_1_method_36_code 10 = .ok (.putfield 37, 3) := by decide +kernel
theorem d_W_fault_13 : decode prog_1_method_36_code 13 = .ok (.goto 10, 3) := by decide +kernel
theorem d_W_fault_16 : decode prog_1_method_36_code 16 = .ok (.aload_n 0, 1) := by decide +kernel
theorem d_W_fault_17 : decode prog_1_method_36_code 17 = .ok (.iconst 1, 1) := by decide +kernel
theorem d_W_fault_18 : decode prog_1_method_36_code 18 = .ok (.iload_n 1, 1) := by decide +kernel
theorem d_W_fault_19 : decode prog_1_method_36_code 19 = .ok (.iconst 0, 1) := by decide +kernel
theorem d_W_fault_20 : decode prog_1_method_36_code 20 = .ok (.invokevirtual 112, 3) := by decide +kernel
theorem d_W_fault_23 : decode prog_1_method_36_code 23 = .ok (.return_, 1) := by decide +kernel
theorem d_W_leave_0 : decode prog_1_method_37_code 0 = .ok (.aload_n 0, 1) := by decide +kernel
theorem d_W_leave_1 : decode prog_1_method_37_code 1 = .ok (.invokevirtual 116, 3) := by decide +kernel
theorem d_W_leave_4 : decode prog_1_method_37_code 4 = .ok (.iload_n 1, 1) := by decide +kernel
theorem d_W_leave_5 : decode prog_1_method_37_code 5 = .ok (.putfield 91, 3) := by decide +kernel
theorem d_W_leave_8 : decode prog_1_method_37_code 8 = .ok (.aload_n 0, 1) := by decide +kernel
theorem d_W_leave_9 : decode prog_1_method_37_code 9 = .ok (.getfield 34, 3) := by decide +kernel
theorem d_W_leave_12 : decode prog_1_method_37_code 12 = .ok (.iconst 0, 1) := by decide +kernel
theorem d_W_leave_13 : decode prog_1_method_37_code 13 = .ok (.dup2, 1) := by decide +kernel
theorem d_W_leave_14 : decode prog_1_method_37_code 14 = .ok (.iaload, 1) := by decide +kernel
theorem d_W_leave_15 : decode prog_1_method_37_code 15 = .ok (.iconst 1, 1) := by decide +kernel
theorem d_W_leave_16 : decode prog_1_method_37_code 16 = .ok (.iadd, 1) := by decide +kernel
theorem d_W_leave_17 : decode prog_1_method_37_code 17 = .ok (.iastore, 1) := by decide +kernel
theorem d_W_leave_18 : decode prog_1_method_37_code 18 = .ok (.aload_n 0, 1) := by decide +kernel
theorem d_W_leave_19 : decode prog_1_method_37_code 19 = .ok (.getfield 34, 3) := by decide +kernel
theorem d_W_leave_22 : decode prog_1_method_37_code 22 = .ok (.iconst 1, 1) := by decide +kernel
theorem d_W_leave_23 : decode prog_1_method_37_code 23 = .ok (.aload_n 0, 1) := by decide +kernel
theorem d_W_leave_24 : decode prog_1_method_37_code 24 = .ok (.getfield 41, 3) := by decide +kernel
theorem d_W_leave_27 : decode prog_1_method_37_code 27 = .ok (.iconst 2, 1) := by decide +kernel
theorem d_W_leave_28 : decode prog_1_method_37_code 28 = .ok (.idiv, 1) := by decide +kernel
theorem d_W_leave_29 : decode prog_1_method_37_code 29 = .ok (.iastore, 1) := by decide +kernel
theorem d_W_leave_30 : decode prog_1_method_37_code 30 = .ok (.aload_n 0, 1) := by decide +kernel
theorem d_W_leave_31 : decode prog_1_method_37_code 31 = .ok (.getfield 34, 3) := by decide +kernel
theorem d_W_leave_34 : decode prog_1_method_37_code 34 = .ok (.iconst 2, 1) := by decide +kernel
theorem d_W_leave_35 : decode prog_1_method_37_code 35 = .ok (.iload_n 2, 1) := by decide +kernel
theorem d_W_leave_36 : decode prog_1_method_37_code 36 = .ok (.iastore, 1) := by decide +kernel
theorem d_W_leave_37 : decode prog_1_method_37_code 37 = .ok (.aload_n 0, 1) := by decide +kernel
theorem d_W_leave_38 : decode prog_1_method_37_code 38 = .ok (.getfield 34, 3) := by decide +kernel
theorem d_W_leave_41 : decode prog_1_method_37_code 41 = .ok (.iconst 3, 1) := by decide +kernel
theorem d_W_leave_42 : decode prog_1_method_37_code 42 = .ok (.iload_n 3, 1) := by decide +kernel
theorem d_W_leave_43 : decode prog_1_method_37_code 43 = .ok (.iastore, 1) := by decide +kernel
theorem d_W_leave_44 : decode prog_1_method_37_code 44 = .ok (.aload_n 0, 1) := by decide +kernel
theorem d_W_leave_45 : decode prog_1_method_37_code 45 = .ok (.getfield 34, 3) := by decide +kernel
theorem d_W_leave_48 : decode prog_1_method_37_code 48 = .ok (.iconst 4, 1) := by decide +kernel
theorem d_W_leave_49 : decode prog_1_method_37_code 49 = .ok (.aload_n 0, 1) := by decide +kernel
theorem d_W_leave_50 : decode prog_1_method_37_code 50 = .ok (.getfield 47, 3) := by decide +kernel
theorem d_W_leave_53 : decode prog_1_method_37_code 53 = .ok (.iastore, 1) := by decide +kernel
theorem d_W_leave_54 : decode prog_1_method_37_code 54 = .ok (.aload_n 0, 1) := by decide +kernel
theorem d_W_leave_55 : decode prog_1_method_37_code 55 = .ok (.iconst (-1), 1) := by decide +kernel
theorem d_W_leave_56 : decode prog_1_method_37_code 56 = .ok (.putfield 41, 3) := by decide +kernel
theorem d_W_leave_59 : decode prog_1_method_37_code 59 = .ok (.aload_n 0, 1) := by decide +kernel
theorem d_W_leave_60 : decode prog_1_method_37_code 60 = .ok (.getfield 30, 3) := by decide +kernel
theorem d_W_leave_63 : decode prog_1_method_37_code 63 = .ok (.iconst 1, 1) := by decide +kernel
theorem d_W_leave_64 : decode prog_1_method_37_code 64 = .ok (.iload_n 2, 1) := by decide +kernel
theorem d_W_leave_65 : decode prog_1_method_37_code 65 = .ok (.invokevirtual 57, 3) := by decide +kernel
theorem d_W_leave_68 : decode prog_1_method_37_code 68 = .ok (.aload_n 0, 1) := by decide +kernel
theorem d_W_leave_69 : decode prog_1_method_37_code 69 = .ok (.getfield 30, 3) := by decide +kernel
theorem d_W_leave_72 : decode prog_1_method_37_code 72 = .ok (.iconst 2, 1) := by decide +kernel
theorem d_W_leave_73 : decode prog_1_method_37_code 73 = .ok (.iload_n 3, 1) := by decide +kernel
theorem d_W_leave_74 : decode prog_1_method_37_code 74 = .ok (.invokevirtual 57, 3) := by decide +kernel
theorem d_W_leave_77 : decode prog_1_method_37_code 77 = .ok (.return_, 1) := by decide +kernel
theorem d_W_enclaveCall_0 : decode prog_1_method_38_code 0 = .ok (.aload_n 0, 1) := by decide +kernel
theorem d_W_enclaveCall_1 : decode prog_1_method_38_code 1 = .ok (.getfield 22, 3) := by decide +kernel
theorem d_W_enclaveCall_4 : decode prog_1_method_38_code 4 = .ok (.aload_n 0, 1) := by decide +kernel
theorem d_W_enclaveCall_5 : decode prog_1_method_38_code 5 = .ok (.getfield 41, 3) := by decide +kernel
theorem d_W_enclaveCall_8 : decode prog_1_method_38_code 8 = .ok (.iconst 2, 1) := by decide +kernel
theorem d_W_enclaveCall_9 : decode prog_1_method_38_code 9 = .ok (.idiv, 1) := by decide +kernel
theorem d_W_enclaveCall_10 : decode prog_1_method_38_code 10 = .ok (.aaload, 1) := by decide +kernel
theorem d_W_enclaveCall_11 : decode prog_1_method_38_code 11 = .ok (.getfield 97, 3) := by decide +kernel
theorem d_W_enclaveCall_14 : decode prog_1_method_38_code 14 = .ok (.istore 5, 2) := by decide +kernel
theorem d_W_enclaveCall_16 : decode prog_1_method_38_code 16 = .ok (.iload_n 1, 1) := by decide +kernel
theorem d_W_enclaveCall_17 : decode prog_1_method_38_code 17 = .ok (.tableswitch 80 16 19 #[31, 40, 48, 63], 31) := by decide +kernel
theorem d_W_enclaveCall_48 : decode prog_1_method_38_code 48 = .ok (.aload_n 0, 1) := by decide +kernel
theorem d_W_enclaveCall_49 : decode prog_1_method_38_code 49 = .ok (.iconst 1, 1) := by decide +kernel
theorem d_W_enclaveCall_50 : decode prog_1_method_38_code 50 = .ok (.iconst 1, 1) := by decide +kernel
theorem d_W_enclaveCall_51 : decode prog_1_method_38_code 51 = .ok (.iload_n 2, 1) := by decide +kernel
theorem d_W_enclaveCall_52 : decode prog_1_method_38_code 52 = .ok (.invokevirtual 112, 3) := by decide +kernel
theorem d_W_enclaveCall_55 : decode prog_1_method_38_code 55 = .ok (.iconst 0, 1) := by decide +kernel
theorem d_W_enclaveCall_56 : decode prog_1_method_38_code 56 = .ok (.ireturn, 1) := by decide +kernel
theorem d_W_enclaveCall_57 : decode prog_1_method_38_code 57 = .ok (.aload_n 0, 1) := by decide +kernel
theorem d_W_enclaveCall_58 : decode prog_1_method_38_code 58 = .ok (.iload 5, 2) := by decide +kernel
theorem d_W_enclaveCall_60 : decode prog_1_method_38_code 60 = .ok (.iload_n 2, 1) := by decide +kernel
theorem d_W_enclaveCall_61 : decode prog_1_method_38_code 61 = .ok (.invokevirtual 100, 3) := by decide +kernel
theorem d_W_enclaveCall_64 : decode prog_1_method_38_code 64 = .ok (.ireturn, 1) := by decide +kernel
theorem d_W_enclaveCall_65 : decode prog_1_method_38_code 65 = .ok (.aload_n 0, 1) := by decide +kernel
theorem d_W_enclaveCall_66 : decode prog_1_method_38_code 66 = .ok (.getfield 7, 3) := by decide +kernel
theorem d_W_enclaveCall_69 : decode prog_1_method_38_code 69 = .ok (.iload 5, 2) := by decide +kernel
theorem d_W_enclaveCall_71 : decode prog_1_method_38_code 71 = .ok (.invokestatic 105, 3) := by decide +kernel
theorem d_W_enclaveCall_74 : decode prog_1_method_38_code 74 = .ok (.bipush 18, 2) := by decide +kernel
theorem d_W_enclaveCall_76 : decode prog_1_method_38_code 76 = .ok (.invokestatic 105, 3) := by decide +kernel
theorem d_W_enclaveCall_79 : decode prog_1_method_38_code 79 = .ok (.ireturn, 1) := by decide +kernel
theorem d_W_enclaveCall_80 : decode prog_1_method_38_code 80 = .ok (.aload_n 0, 1) := by decide +kernel
theorem d_W_enclaveCall_81 : decode prog_1_method_38_code 81 = .ok (.iload_n 2, 1) := by decide +kernel
theorem d_W_enclaveCall_82 : decode prog_1_method_38_code 82 = .ok (.iload_n 3, 1) := by decide +kernel
theorem d_W_enclaveCall_83 : decode prog_1_method_38_code 83 = .ok (.invokevirtual 100, 3) := by decide +kernel
theorem d_W_enclaveCall_86 : decode prog_1_method_38_code 86 = .ok (.iload 4, 2) := by decide +kernel
theorem d_W_enclaveCall_88 : decode prog_1_method_38_code 88 = .ok (.if_icmp .ne 7, 3) := by decide +kernel
theorem d_W_enclaveCall_91 : decode prog_1_method_38_code 91 = .ok (.iconst 1, 1) := by decide +kernel

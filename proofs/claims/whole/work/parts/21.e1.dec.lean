theorem d_W_enclaveCall_92 : decode prog_1_method_38_code 92 = .ok (.goto 4, 3) := by decide +kernel
theorem d_W_enclaveCall_95 : decode prog_1_method_38_code 95 = .ok (.iconst 0, 1) := by decide +kernel
theorem d_W_enclaveCall_96 : decode prog_1_method_38_code 96 = .ok (.ireturn, 1) := by decide +kernel
theorem d_W_enclaveCall_97 : decode prog_1_method_38_code 97 = .ok (.iconst (-1), 1) := by decide +kernel
theorem d_W_enclaveCall_98 : decode prog_1_method_38_code 98 = .ok (.ireturn, 1) := by decide +kernel
theorem d_W_systemCall_0 : decode prog_1_method_39_code 0 = .ok (.iload_n 1, 1) := by decide +kernel
theorem d_W_systemCall_1 : decode prog_1_method_39_code 1 = .ok (.tableswitch 135 1 11 #[59, 66, 75, 82, 88, 95, 104, 111, 117, 123, 129], 59) := by decide +kernel
theorem d_W_systemCall_60 : decode prog_1_method_39_code 60 = .ok (.aload_n 0, 1) := by decide +kernel
theorem d_W_systemCall_61 : decode prog_1_method_39_code 61 = .ok (.iload_n 2, 1) := by decide +kernel
theorem d_W_systemCall_62 : decode prog_1_method_39_code 62 = .ok (.iload_n 3, 1) := by decide +kernel
theorem d_W_systemCall_63 : decode prog_1_method_39_code 63 = .ok (.invokevirtual 141, 3) := by decide +kernel
theorem d_W_systemCall_66 : decode prog_1_method_39_code 66 = .ok (.ireturn, 1) := by decide +kernel
theorem d_W_systemCall_67 : decode prog_1_method_39_code 67 = .ok (.aload_n 0, 1) := by decide +kernel
theorem d_W_systemCall_68 : decode prog_1_method_39_code 68 = .ok (.iload_n 2, 1) := by decide +kernel
theorem d_W_systemCall_69 : decode prog_1_method_39_code 69 = .ok (.iload_n 3, 1) := by decide +kernel
theorem d_W_systemCall_70 : decode prog_1_method_39_code 70 = .ok (.iload 4, 2) := by decide +kernel
theorem d_W_systemCall_72 : decode prog_1_method_39_code 72 = .ok (.invokevirtual 144, 3) := by decide +kernel
theorem d_W_systemCall_75 : decode prog_1_method_39_code 75 = .ok (.ireturn, 1) := by decide +kernel
theorem d_W_systemCall_76 : decode prog_1_method_39_code 76 = .ok (.aload_n 0, 1) := by decide +kernel
theorem d_W_systemCall_77 : decode prog_1_method_39_code 77 = .ok (.iload_n 2, 1) := by decide +kernel
theorem d_W_systemCall_78 : decode prog_1_method_39_code 78 = .ok (.iload_n 3, 1) := by decide +kernel
theorem d_W_systemCall_79 : decode prog_1_method_39_code 79 = .ok (.invokevirtual 148, 3) := by decide +kernel
theorem d_W_systemCall_82 : decode prog_1_method_39_code 82 = .ok (.ireturn, 1) := by decide +kernel
theorem d_W_systemCall_83 : decode prog_1_method_39_code 83 = .ok (.aload_n 0, 1) := by decide +kernel
theorem d_W_systemCall_84 : decode prog_1_method_39_code 84 = .ok (.iload_n 2, 1) := by decide +kernel
theorem d_W_systemCall_85 : decode prog_1_method_39_code 85 = .ok (.invokevirtual 151, 3) := by decide +kernel
theorem d_W_systemCall_88 : decode prog_1_method_39_code 88 = .ok (.ireturn, 1) := by decide +kernel
theorem d_W_systemCall_89 : decode prog_1_method_39_code 89 = .ok (.aload_n 0, 1) := by decide +kernel
theorem d_W_systemCall_90 : decode prog_1_method_39_code 90 = .ok (.iload_n 2, 1) := by decide +kernel
theorem d_W_systemCall_91 : decode prog_1_method_39_code 91 = .ok (.iload_n 3, 1) := by decide +kernel
theorem d_W_systemCall_92 : decode prog_1_method_39_code 92 = .ok (.invokevirtual 154, 3) := by decide +kernel
theorem d_W_systemCall_95 : decode prog_1_method_39_code 95 = .ok (.ireturn, 1) := by decide +kernel
theorem d_W_systemCall_96 : decode prog_1_method_39_code 96 = .ok (.aload_n 0, 1) := by decide +kernel
theorem d_W_systemCall_97 : decode prog_1_method_39_code 97 = .ok (.iload_n 2, 1) := by decide +kernel
theorem d_W_systemCall_98 : decode prog_1_method_39_code 98 = .ok (.iload_n 3, 1) := by decide +kernel
theorem d_W_systemCall_99 : decode prog_1_method_39_code 99 = .ok (.iload 4, 2) := by decide +kernel
theorem d_W_systemCall_101 : decode prog_1_method_39_code 101 = .ok (.invokevirtual 157, 3) := by decide +kernel
theorem d_W_systemCall_104 : decode prog_1_method_39_code 104 = .ok (.ireturn, 1) := by decide +kernel
theorem d_W_systemCall_105 : decode prog_1_method_39_code 105 = .ok (.aload_n 0, 1) := by decide +kernel
theorem d_W_systemCall_106 : decode prog_1_method_39_code 106 = .ok (.iload_n 2, 1) := by decide +kernel
theorem d_W_systemCall_107 : decode prog_1_method_39_code 107 = .ok (.iload_n 3, 1) := by decide +kernel
theorem d_W_systemCall_108 : decode prog_1_method_39_code 108 = .ok (.invokevirtual 160, 3) := by decide +kernel
theorem d_W_systemCall_111 : decode prog_1_method_39_code 111 = .ok (.ireturn, 1) := by decide +kernel
theorem d_W_systemCall_112 : decode prog_1_method_39_code 112 = .ok (.aload_n 0, 1) := by decide +kernel
theorem d_W_systemCall_113 : decode prog_1_method_39_code 113 = .ok (.iload_n 2, 1) := by decide +kernel
theorem d_W_systemCall_114 : decode prog_1_method_39_code 114 = .ok (.invokevirtual 163, 3) := by decide +kernel
theorem d_W_systemCall_117 : decode prog_1_method_39_code 117 = .ok (.ireturn, 1) := by decide +kernel
theorem d_W_systemCall_118 : decode prog_1_method_39_code 118 = .ok (.aload_n 0, 1) := by decide +kernel
theorem d_W_systemCall_119 : decode prog_1_method_39_code 119 = .ok (.iload_n 2, 1) := by decide +kernel
theorem d_W_systemCall_120 : decode prog_1_method_39_code 120 = .ok (.invokevirtual 166, 3) := by decide +kernel
theorem d_W_systemCall_123 : decode prog_1_method_39_code 123 = .ok (.ireturn, 1) := by decide +kernel
theorem d_W_systemCall_124 : decode prog_1_method_39_code 124 = .ok (.aload_n 0, 1) := by decide +kernel
theorem d_W_systemCall_125 : decode prog_1_method_39_code 125 = .ok (.iload_n 2, 1) := by decide +kernel
theorem d_W_systemCall_126 : decode prog_1_method_39_code 126 = .ok (.invokevirtual 169, 3) := by decide +kernel
theorem d_W_systemCall_129 : decode prog_1_method_39_code 129 = .ok (.ireturn, 1) := by decide +kernel
theorem d_W_systemCall_130 : decode prog_1_method_39_code 130 = .ok (.aload_n 0, 1) := by decide +kernel
theorem d_W_systemCall_131 : decode prog_1_method_39_code 131 = .ok (.iload_n 2, 1) := by decide +kernel
theorem d_W_systemCall_132 : decode prog_1_method_39_code 132 = .ok (.invokevirtual 172, 3) := by decide +kernel
theorem d_W_systemCall_135 : decode prog_1_method_39_code 135 = .ok (.ireturn, 1) := by decide +kernel
theorem d_W_systemCall_136 : decode prog_1_method_39_code 136 = .ok (.iconst (-1), 1) := by decide +kernel
theorem d_W_systemCall_137 : decode prog_1_method_39_code 137 = .ok (.ireturn, 1) := by decide +kernel
theorem d_W_create_0 : decode prog_1_method_40_code 0 = .ok (.iload_n 1, 1) := by decide +kernel
theorem d_W_create_1 : decode prog_1_method_40_code 1 = .ok (.invokestatic 75, 3) := by decide +kernel
theorem d_W_create_4 : decode prog_1_method_40_code 4 = .ok (.ifCond .eq 24, 3) := by decide +kernel
theorem d_W_create_7 : decode prog_1_method_40_code 7 = .ok (.iload_n 2, 1) := by decide +kernel
theorem d_W_create_8 : decode prog_1_method_40_code 8 = .ok (.iconst 1, 1) := by decide +kernel
theorem d_W_create_9 : decode prog_1_method_40_code 9 = .ok (.if_icmp .eq 13, 3) := by decide +kernel
theorem d_W_create_12 : decode prog_1_method_40_code 12 = .ok (.iload_n 2, 1) := by decide +kernel
theorem d_W_create_13 : decode prog_1_method_40_code 13 = .ok (.iconst 2, 1) := by decide +kernel
theorem d_W_create_14 : decode prog_1_method_40_code 14 = .ok (.if_icmp .eq 8, 3) := by decide +kernel
theorem d_W_create_17 : decode prog_1_method_40_code 17 = .ok (.iload_n 2, 1) := by decide +kernel
theorem d_W_create_18 : decode prog_1_method_40_code 18 = .ok (.iconst 4, 1) := by decide +kernel
theorem d_W_create_19 : decode prog_1_method_40_code 19 = .ok (.if_icmp .ne 9, 3) := by decide +kernel
theorem d_W_create_22 : decode prog_1_method_40_code 22 = .ok (.iload_n 1, 1) := by decide +kernel
theorem d_W_create_23 : decode prog_1_method_40_code 23 = .ok (.iload_n 2, 1) := by decide +kernel
theorem d_W_create_24 : decode prog_1_method_40_code 24 = .ok (.irem, 1) := by decide +kernel
theorem d_W_create_25 : decode prog_1_method_40_code 25 = .ok (.ifCond .eq 6, 3) := by decide +kernel
theorem d_W_create_28 : decode prog_1_method_40_code 28 = .ok (.bipush (-2), 2) := by decide +kernel
theorem d_W_create_30 : decode prog_1_method_40_code 30 = .ok (.ireturn, 1) := by decide +kernel
theorem d_W_create_31 : decode prog_1_method_40_code 31 = .ok (.aload_n 0, 1) := by decide +kernel
theorem d_W_create_32 : decode prog_1_method_40_code 32 = .ok (.iload_n 1, 1) := by decide +kernel
theorem d_W_create_33 : decode prog_1_method_40_code 33 = .ok (.iload_n 2, 1) := by decide +kernel
theorem d_W_create_34 : decode prog_1_method_40_code 34 = .ok (.invokevirtual 175, 3) := by decide +kernel
theorem d_W_create_37 : decode prog_1_method_40_code 37 = .ok (.ifCond .ne 6, 3) := by decide +kernel
theorem d_W_create_40 : decode prog_1_method_40_code 40 = .ok (.bipush (-4), 2) := by decide +kernel
theorem d_W_create_42 : decode prog_1_method_40_code 42 = .ok (.ireturn, 1) := by decide +kernel
theorem d_W_create_43 : decode prog_1_method_40_code 43 = .ok (.aload_n 0, 1) := by decide +kernel
theorem d_W_create_44 : decode prog_1_method_40_code 44 = .ok (.invokevirtual 178, 3) := by decide +kernel
theorem d_W_create_47 : decode prog_1_method_40_code 47 = .ok (.istore_n 3, 1) := by decide +kernel
theorem d_W_create_48 : decode prog_1_method_40_code 48 = .ok (.iload_n 3, 1) := by decide +kernel
theorem d_W_create_49 : decode prog_1_method_40_code 49 = .ok (.iconst 3, 1) := by decide +kernel
theorem d_W_create_50 : decode prog_1_method_40_code 50 = .ok (.if_icmp .ne 6, 3) := by decide +kernel
theorem d_W_create_53 : decode prog_1_method_40_code 53 = .ok (.bipush (-5), 2) := by decide +kernel
theorem d_W_create_55 : decode prog_1_method_40_code 55 = .ok (.ireturn, 1) := by decide +kernel
theorem d_W_create_56 : decode prog_1_method_40_code 56 = .ok (.iconst 0, 1) := by decide +kernel
theorem d_W_create_57 : decode prog_1_method_40_code 57 = .ok (.istore 4, 2) := by decide +kernel
theorem d_W_create_59 : decode prog_1_method_40_code 59 = .ok (.iload 4, 2) := by decide +kernel
theorem d_W_create_61 : decode prog_1_method_40_code 61 = .ok (.iload_n 2, 1) := by decide +kernel
theorem d_W_create_62 : decode prog_1_method_40_code 62 = .ok (.if_icmp .ge 21, 3) := by decide +kernel
theorem d_W_create_65 : decode prog_1_method_40_code 65 = .ok (.aload_n 0, 1) := by decide +kernel
theorem d_W_create_66 : decode prog_1_method_40_code 66 = .ok (.getfield 17, 3) := by decide +kernel
theorem d_W_create_69 : decode prog_1_method_40_code 69 = .ok (.iload_n 1, 1) := by decide +kernel
theorem d_W_create_70 : decode prog_1_method_40_code 70 = .ok (.iload 4, 2) := by decide +kernel
theorem d_W_create_72 : decode prog_1_method_40_code 72 = .ok (.iadd, 1) := by decide +kernel
theorem d_W_create_73 : decode prog_1_method_40_code 73 = .ok (.iconst 2, 1) := by decide +kernel
theorem d_W_create_74 : decode prog_1_method_40_code 74 = .ok (.iload_n 3, 1) := by decide +kernel
theorem d_W_create_75 : decode prog_1_method_40_code 75 = .ok (.iadd, 1) := by decide +kernel
theorem d_W_create_76 : decode prog_1_method_40_code 76 = .ok (.iastore, 1) := by decide +kernel
theorem d_W_create_77 : decode prog_1_method_40_code 77 = .ok (.iinc 4 1, 3) := by decide +kernel
theorem d_W_create_80 : decode prog_1_method_40_code 80 = .ok (.goto (-21), 3) := by decide +kernel
theorem d_W_create_83 : decode prog_1_method_40_code 83 = .ok (.aload_n 0, 1) := by decide +kernel
theorem d_W_create_84 : decode prog_1_method_40_code 84 = .ok (.getfield 22, 3) := by decide +kernel
theorem d_W_create_87 : decode prog_1_method_40_code 87 = .ok (.iload_n 3, 1) := by decide +kernel
theorem d_W_create_88 : decode prog_1_method_40_code 88 = .ok (.aaload, 1) := by decide +kernel
theorem d_W_create_89 : decode prog_1_method_40_code 89 = .ok (.astore 4, 2) := by decide +kernel
theorem d_W_create_91 : decode prog_1_method_40_code 91 = .ok (.aload 4, 2) := by decide +kernel
theorem d_W_create_93 : decode prog_1_method_40_code 93 = .ok (.iconst 1, 1) := by decide +kernel
theorem d_W_create_94 : decode prog_1_method_40_code 94 = .ok (.invokevirtual 182, 3) := by decide +kernel
theorem d_W_create_97 : decode prog_1_method_40_code 97 = .ok (.aload 4, 2) := by decide +kernel
theorem d_W_create_99 : decode prog_1_method_40_code 99 = .ok (.iconst 1, 1) := by decide +kernel
theorem d_W_create_100 : decode prog_1_method_40_code 100 = .ok (.invokevirtual 185, 3) := by decide +kernel
theorem d_W_create_103 : decode prog_1_method_40_code 103 = .ok (.aload 4, 2) := by decide +kernel
theorem d_W_create_105 : decode prog_1_method_40_code 105 = .ok (.iload_n 1, 1) := by decide +kernel
theorem d_W_create_106 : decode prog_1_method_40_code 106 = .ok (.invokevirtual 185, 3) := by decide +kernel
theorem d_W_create_109 : decode prog_1_method_40_code 109 = .ok (.aload 4, 2) := by decide +kernel
theorem d_W_create_111 : decode prog_1_method_40_code 111 = .ok (.iload_n 2, 1) := by decide +kernel
theorem d_W_create_112 : decode prog_1_method_40_code 112 = .ok (.invokevirtual 185, 3) := by decide +kernel
theorem d_W_create_115 : decode prog_1_method_40_code 115 = .ok (.iload_n 3, 1) := by decide +kernel
theorem d_W_create_116 : decode prog_1_method_40_code 116 = .ok (.ireturn, 1) := by decide +kernel
theorem d_W_allFree_0 : decode prog_1_method_41_code 0 = .ok (.iconst 0, 1) := by decide +kernel
theorem d_W_allFree_1 : decode prog_1_method_41_code 1 = .ok (.istore_n 3, 1) := by decide +kernel
theorem d_W_allFree_2 : decode prog_1_method_41_code 2 = .ok (.iload_n 3, 1) := by decide +kernel
theorem d_W_allFree_3 : decode prog_1_method_41_code 3 = .ok (.iload_n 2, 1) := by decide +kernel
theorem d_W_allFree_4 : decode prog_1_method_41_code 4 = .ok (.if_icmp .ge 22, 3) := by decide +kernel
theorem d_W_allFree_7 : decode prog_1_method_41_code 7 = .ok (.aload_n 0, 1) := by decide +kernel
theorem d_W_allFree_8 : decode prog_1_method_41_code 8 = .ok (.getfield 17, 3) := by decide +kernel
theorem d_W_allFree_11 : decode prog_1_method_41_code 11 = .ok (.iload_n 1, 1) := by decide +kernel
theorem d_W_allFree_12 : decode prog_1_method_41_code 12 = .ok (.iload_n 3, 1) := by decide +kernel
theorem d_W_allFree_13 : decode prog_1_method_41_code 13 = .ok (.iadd, 1) := by decide +kernel
theorem d_W_allFree_14 : decode prog_1_method_41_code 14 = .ok (.iaload, 1) := by decide +kernel
theorem d_W_allFree_15 : decode prog_1_method_41_code 15 = .ok (.ifCond .eq 5, 3) := by decide +kernel
theorem d_W_allFree_18 : decode prog_1_method_41_code 18 = .ok (.iconst 0, 1) := by decide +kernel
theorem d_W_allFree_19 : decode prog_1_method_41_code 19 = .ok (.ireturn, 1) := by decide +kernel
theorem d_W_allFree_20 : decode prog_1_method_41_code 20 = .ok (.iinc 3 1, 3) := by decide +kernel
theorem d_W_allFree_23 : decode prog_1_method_41_code 23 = .ok (.goto (-21), 3) := by decide +kernel
theorem d_W_allFree_26 : decode prog_1_method_41_code 26 = .ok (.iconst 1, 1) := by decide +kernel
theorem d_W_allFree_27 : decode prog_1_method_41_code 27 = .ok (.ireturn, 1) := by decide +kernel
theorem d_W_leastAbsent_0 : decode prog_1_method_42_code 0 = .ok (.iconst 0, 1) := by decide +kernel
theorem d_W_leastAbsent_1 : decode prog_1_method_42_code 1 = .ok (.istore_n 1, 1) := by decide +kernel
theorem d_W_leastAbsent_2 : decode prog_1_method_42_code 2 = .ok (.iload_n 1, 1) := by decide +kernel
theorem d_W_leastAbsent_3 : decode prog_1_method_42_code 3 = .ok (.iconst 3, 1) := by decide +kernel
theorem d_W_leastAbsent_4 : decode prog_1_method_42_code 4 = .ok (.if_icmp .ge 23, 3) := by decide +kernel
theorem d_W_leastAbsent_7 : decode prog_1_method_42_code 7 = .ok (.aload_n 0, 1) := by decide +kernel
theorem d_W_leastAbsent_8 : decode prog_1_method_42_code 8 = .ok (.getfield 22, 3) := by decide +kernel
theorem d_W_leastAbsent_11 : decode prog_1_method_42_code 11 = .ok (.iload_n 1, 1) := by decide +kernel
theorem d_W_leastAbsent_12 : decode prog_1_method_42_code 12 = .ok (.aaload, 1) := by decide +kernel
theorem d_W_leastAbsent_13 : decode prog_1_method_42_code 13 = .ok (.getfield 81, 3) := by decide +kernel
theorem d_W_leastAbsent_16 : decode prog_1_method_42_code 16 = .ok (.ifCond .ne 5, 3) := by decide +kernel
theorem d_W_leastAbsent_19 : decode prog_1_method_42_code 19 = .ok (.iload_n 1, 1) := by decide +kernel
theorem d_W_leastAbsent_20 : decode prog_1_method_42_code 20 = .ok (.ireturn, 1) := by decide +kernel
theorem d_W_leastAbsent_21 : decode prog_1_method_42_code 21 = .ok (.iinc 1 1, 3) := by decide +kernel
theorem d_W_leastAbsent_24 : decode prog_1_method_42_code 24 = .ok (.goto (-22), 3) := by decide +kernel
theorem d_W_leastAbsent_27 : decode prog_1_method_42_code 27 = .ok (.iconst 3, 1) := by decide +kernel
theorem d_W_leastAbsent_28 : decode prog_1_method_42_code 28 = .ok (.ireturn, 1) := by decide +kernel
theorem d_W_load_0 : decode prog_1_method_43_code 0 = .ok (.iload_n 1, 1) := by decide +kernel
theorem d_W_load_1 : decode prog_1_method_43_code 1 = .ok (.invokestatic 78, 3) := by decide +kernel
theorem d_W_load_4 : decode prog_1_method_43_code 4 = .ok (.ifCond .eq 17, 3) := by decide +kernel
theorem d_W_load_7 : decode prog_1_method_43_code 7 = .ok (.iload_n 2, 1) := by decide +kernel
theorem d_W_load_8 : decode prog_1_method_43_code 8 = .ok (.invokestatic 75, 3) := by decide +kernel
theorem d_W_load_11 : decode prog_1_method_43_code 11 = .ok (.ifCond .eq 10, 3) := by decide +kernel
theorem d_W_load_14 : decode prog_1_method_43_code 14 = .ok (.iload_n 3, 1) := by decide +kernel
theorem d_W_load_15 : decode prog_1_method_43_code 15 = .ok (.invokestatic 75, 3) := by decide +kernel
theorem d_W_load_18 : decode prog_1_method_43_code 18 = .ok (.ifCond .ne 6, 3) := by decide +kernel
theorem d_W_load_21 : decode prog_1_method_43_code 21 = .ok (.bipush (-2), 2) := by decide +kernel
theorem d_W_load_23 : decode prog_1_method_43_code 23 = .ok (.ireturn, 1) := by decide +kernel
theorem d_W_load_24 : decode prog_1_method_43_code 24 = .ok (.aload_n 0, 1) := by decide +kernel
theorem d_W_load_25 : decode prog_1_method_43_code 25 = .ok (.getfield 22, 3) := by decide +kernel
theorem d_W_load_28 : decode prog_1_method_43_code 28 = .ok (.iload_n 1, 1) := by decide +kernel
theorem d_W_load_29 : decode prog_1_method_43_code 29 = .ok (.aaload, 1) := by decide +kernel
theorem d_W_load_30 : decode prog_1_method_43_code 30 = .ok (.astore 4, 2) := by decide +kernel
theorem d_W_load_32 : decode prog_1_method_43_code 32 = .ok (.aload 4, 2) := by decide +kernel
theorem d_W_load_34 : decode prog_1_method_43_code 34 = .ok (.getfield 81, 3) := by decide +kernel
theorem d_W_load_37 : decode prog_1_method_43_code 37 = .ok (.iconst 1, 1) := by decide +kernel
theorem d_W_load_38 : decode prog_1_method_43_code 38 = .ok (.if_icmp .eq 6, 3) := by decide +kernel
theorem d_W_load_41 : decode prog_1_method_43_code 41 = .ok (.bipush (-3), 2) := by decide +kernel
theorem d_W_load_43 : decode prog_1_method_43_code 43 = .ok (.ireturn, 1) := by decide +kernel
theorem d_W_load_44 : decode prog_1_method_43_code 44 = .ok (.aload_n 0, 1) := by decide +kernel
theorem d_W_load_45 : decode prog_1_method_43_code 45 = .ok (.getfield 17, 3) := by decide +kernel
theorem d_W_load_48 : decode prog_1_method_43_code 48 = .ok (.iload_n 2, 1) := by decide +kernel
theorem d_W_load_49 : decode prog_1_method_43_code 49 = .ok (.iaload, 1) := by decide +kernel
theorem d_W_load_50 : decode prog_1_method_43_code 50 = .ok (.iconst 2, 1) := by decide +kernel
theorem d_W_load_51 : decode prog_1_method_43_code 51 = .ok (.iload_n 1, 1) := by decide +kernel
theorem d_W_load_52 : decode prog_1_method_43_code 52 = .ok (.iadd, 1) := by decide +kernel
theorem d_W_load_53 : decode prog_1_method_43_code 53 = .ok (.if_icmp .ne 13, 3) := by decide +kernel
theorem d_W_load_56 : decode prog_1_method_43_code 56 = .ok (.aload_n 0, 1) := by decide +kernel
theorem d_W_load_57 : decode prog_1_method_43_code 57 = .ok (.getfield 17, 3) := by decide +kernel
theorem d_W_load_60 : decode prog_1_method_43_code 60 = .ok (.iload_n 3, 1) := by decide +kernel
theorem d_W_load_61 : decode prog_1_method_43_code 61 = .ok (.iaload, 1) := by decide +kernel
theorem d_W_load_62 : decode prog_1_method_43_code 62 = .ok (.iconst 1, 1) := by decide +kernel
theorem d_W_load_63 : decode prog_1_method_43_code 63 = .ok (.if_icmp .eq 6, 3) := by decide +kernel
theorem d_W_load_66 : decode prog_1_method_43_code 66 = .ok (.bipush (-4), 2) := by decide +kernel
theorem d_W_load_68 : decode prog_1_method_43_code 68 = .ok (.ireturn, 1) := by decide +kernel
theorem d_W_load_69 : decode prog_1_method_43_code 69 = .ok (.aload 4, 2) := by decide +kernel
theorem d_W_load_71 : decode prog_1_method_43_code 71 = .ok (.getfield 188, 3) := by decide +kernel
theorem d_W_load_74 : decode prog_1_method_43_code 74 = .ok (.bipush 8, 2) := by decide +kernel
theorem d_W_load_76 : decode prog_1_method_43_code 76 = .ok (.if_icmp .lt 6, 3) := by decide +kernel
theorem d_W_load_79 : decode prog_1_method_43_code 79 = .ok (.bipush (-5), 2) := by decide +kernel
theorem d_W_load_81 : decode prog_1_method_43_code 81 = .ok (.ireturn, 1) := by decide +kernel
theorem d_W_load_82 : decode prog_1_method_43_code 82 = .ok (.aload 4, 2) := by decide +kernel
theorem d_W_load_84 : decode prog_1_method_43_code 84 = .ok (.dup, 1) := by decide +kernel
theorem d_W_load_85 : decode prog_1_method_43_code 85 = .ok (.getfield 188, 3) := by decide +kernel
theorem d_W_load_88 : decode prog_1_method_43_code 88 = .ok (.iconst 1, 1) := by decide +kernel
theorem d_W_load_89 : decode prog_1_method_43_code 89 = .ok (.iadd, 1) := by decide +kernel
theorem d_W_load_90 : decode prog_1_method_43_code 90 = .ok (.putfield 188, 3) := by decide +kernel
theorem d_W_load_93 : decode prog_1_method_43_code 93 = .ok (.aload 4, 2) := by decide +kernel
theorem d_W_load_95 : decode prog_1_method_43_code 95 = .ok (.iconst 2, 1) := by decide +kernel
theorem d_W_load_96 : decode prog_1_method_43_code 96 = .ok (.invokevirtual 185, 3) := by decide +kernel
theorem d_W_load_99 : decode prog_1_method_43_code 99 = .ok (.aload 4, 2) := by decide +kernel
theorem d_W_load_101 : decode prog_1_method_43_code 101 = .ok (.iload_n 2, 1) := by decide +kernel
theorem d_W_load_102 : decode prog_1_method_43_code 102 = .ok (.invokevirtual 185, 3) := by decide +kernel
theorem d_W_load_105 : decode prog_1_method_43_code 105 = .ok (.iconst 0, 1) := by decide +kernel
theorem d_W_load_106 : decode prog_1_method_43_code 106 = .ok (.istore 5, 2) := by decide +kernel
theorem d_W_load_108 : decode prog_1_method_43_code 108 = .ok (.iload 5, 2) := by decide +kernel
theorem d_W_load_110 : decode prog_1_method_43_code 110 = .ok (.bipush 16, 2) := by decide +kernel
theorem d_W_load_112 : decode prog_1_method_43_code 112 = .ok (.if_icmp .ge 44, 3) := by decide +kernel
theorem d_W_load_115 : decode prog_1_method_43_code 115 = .ok (.aload_n 0, 1) := by decide +kernel
theorem d_W_load_116 : decode prog_1_method_43_code 116 = .ok (.getfield 13, 3) := by decide +kernel
theorem d_W_load_119 : decode prog_1_method_43_code 119 = .ok (.iload_n 3, 1) := by decide +kernel
theorem d_W_load_120 : decode prog_1_method_43_code 120 = .ok (.bipush 16, 2) := by decide +kernel
theorem d_W_load_122 : decode prog_1_method_43_code 122 = .ok (.imul, 1) := by decide +kernel
theorem d_W_load_123 : decode prog_1_method_43_code 123 = .ok (.iload 5, 2) := by decide +kernel
theorem d_W_load_125 : decode prog_1_method_43_code 125 = .ok (.iadd, 1) := by decide +kernel
theorem d_W_load_126 : decode prog_1_method_43_code 126 = .ok (.iaload, 1) := by decide +kernel
theorem d_W_load_127 : decode prog_1_method_43_code 127 = .ok (.istore 6, 2) := by decide +kernel
theorem d_W_load_129 : decode prog_1_method_43_code 129 = .ok (.aload_n 0, 1) := by decide +kernel
theorem d_W_load_130 : decode prog_1_method_43_code 130 = .ok (.getfield 13, 3) := by decide +kernel
theorem d_W_load_133 : decode prog_1_method_43_code 133 = .ok (.iload_n 2, 1) := by decide +kernel
theorem d_W_load_134 : decode prog_1_method_43_code 134 = .ok (.bipush 16, 2) := by decide +kernel
theorem d_W_load_136 : decode prog_1_method_43_code 136 = .ok (.imul, 1) := by decide +kernel
theorem d_W_load_137 : decode prog_1_method_43_code 137 = .ok (.iload 5, 2) := by decide +kernel
theorem d_W_load_139 : decode prog_1_method_43_code 139 = .ok (.iadd, 1) := by decide +kernel
theorem d_W_load_140 : decode prog_1_method_43_code 140 = .ok (.iload 6, 2) := by decide +kernel
theorem d_W_load_142 : decode prog_1_method_43_code 142 = .ok (.iastore, 1) := by decide +kernel
theorem d_W_load_143 : decode prog_1_method_43_code 143 = .ok (.aload 4, 2) := by decide +kernel
theorem d_W_load_145 : decode prog_1_method_43_code 145 = .ok (.iload 6, 2) := by decide +kernel
theorem d_W_load_147 : decode prog_1_method_43_code 147 = .ok (.invokevirtual 185, 3) := by decide +kernel
theorem d_W_load_150 : decode prog_1_method_43_code 150 = .ok (.iinc 5 1, 3) := by decide +kernel
theorem d_W_load_153 : decode prog_1_method_43_code 153 = .ok (.goto (-45), 3) := by decide +kernel
theorem d_W_load_156 : decode prog_1_method_43_code 156 = .ok (.iconst 0, 1) := by decide +kernel
theorem d_W_load_157 : decode prog_1_method_43_code 157 = .ok (.ireturn, 1) := by decide +kernel
theorem d_W_addThread_0 : decode prog_1_method_44_code 0 = .ok (.iload_n 1, 1) := by decide +kernel
theorem d_W_addThread_1 : decode prog_1_method_44_code 1 = .ok (.invokestatic 78, 3) := by decide +kernel
theorem d_W_addThread_4 : decode prog_1_method_44_code 4 = .ok (.ifCond .eq 10, 3) := by decide +kernel
theorem d_W_addThread_7 : decode prog_1_method_44_code 7 = .ok (.iload_n 2, 1) := by decide +kernel
theorem d_W_addThread_8 : decode prog_1_method_44_code 8 = .ok (.invokestatic 54, 3) := by decide +kernel
theorem d_W_addThread_11 : decode prog_1_method_44_code 11 = .ok (.ifCond .ne 6, 3) := by decide +kernel
theorem d_W_addThread_14 : decode prog_1_method_44_code 14 = .ok (.bipush (-2), 2) := by decide +kernel
theorem d_W_addThread_16 : decode prog_1_method_44_code 16 = .ok (.ireturn, 1) := by decide +kernel
theorem d_W_addThread_17 : decode prog_1_method_44_code 17 = .ok (.aload_n 0, 1) := by decide +kernel
theorem d_W_addThread_18 : decode prog_1_method_44_code 18 = .ok (.getfield 22, 3) := by decide +kernel
theorem d_W_addThread_21 : decode prog_1_method_44_code 21 = .ok (.iload_n 1, 1) := by decide +kernel
theorem d_W_addThread_22 : decode prog_1_method_44_code 22 = .ok (.aaload, 1) := by decide +kernel
theorem d_W_addThread_23 : decode prog_1_method_44_code 23 = .ok (.astore_n 3, 1) := by decide +kernel
theorem d_W_addThread_24 : decode prog_1_method_44_code 24 = .ok (.aload_n 3, 1) := by decide +kernel
theorem d_W_addThread_25 : decode prog_1_method_44_code 25 = .ok (.getfield 81, 3) := by decide +kernel
theorem d_W_addThread_28 : decode prog_1_method_44_code 28 = .ok (.iconst 1, 1) := by decide +kernel
theorem d_W_addThread_29 : decode prog_1_method_44_code 29 = .ok (.if_icmp .eq 6, 3) := by decide +kernel
theorem d_W_addThread_32 : decode prog_1_method_44_code 32 = .ok (.bipush (-3), 2) := by decide +kernel
theorem d_W_addThread_34 : decode prog_1_method_44_code 34 = .ok (.ireturn, 1) := by decide +kernel
theorem d_W_addThread_35 : decode prog_1_method_44_code 35 = .ok (.aload_n 0, 1) := by decide +kernel
theorem d_W_addThread_36 : decode prog_1_method_44_code 36 = .ok (.getfield 17, 3) := by decide +kernel
theorem d_W_addThread_39 : decode prog_1_method_44_code 39 = .ok (.iload_n 2, 1) := by decide +kernel
theorem d_W_addThread_40 : decode prog_1_method_44_code 40 = .ok (.bipush 16, 2) := by decide +kernel
theorem d_W_addThread_42 : decode prog_1_method_44_code 42 = .ok (.idiv, 1) := by decide +kernel
theorem d_W_addThread_43 : decode prog_1_method_44_code 43 = .ok (.iaload, 1) := by decide +kernel
theorem d_W_addThread_44 : decode prog_1_method_44_code 44 = .ok (.iconst 2, 1) := by decide +kernel
theorem d_W_addThread_45 : decode prog_1_method_44_code 45 = .ok (.iload_n 1, 1) := by decide +kernel
theorem d_W_addThread_46 : decode prog_1_method_44_code 46 = .ok (.iadd, 1) := by decide +kernel
theorem d_W_addThread_47 : decode prog_1_method_44_code 47 = .ok (.if_icmp .eq 6, 3) := by decide +kernel
theorem d_W_addThread_50 : decode prog_1_method_44_code 50 = .ok (.bipush (-4), 2) := by decide +kernel
theorem d_W_addThread_52 : decode prog_1_method_44_code 52 = .ok (.ireturn, 1) := by decide +kernel
theorem d_W_addThread_53 : decode prog_1_method_44_code 53 = .ok (.aload_n 3, 1) := by decide +kernel
theorem d_W_addThread_54 : decode prog_1_method_44_code 54 = .ok (.invokevirtual 191, 3) := by decide +kernel
theorem d_W_addThread_57 : decode prog_1_method_44_code 57 = .ok (.istore 4, 2) := by decide +kernel
theorem d_W_addThread_59 : decode prog_1_method_44_code 59 = .ok (.iload 4, 2) := by decide +kernel
theorem d_W_addThread_61 : decode prog_1_method_44_code 61 = .ok (.iconst 2, 1) := by decide +kernel
theorem d_W_addThread_62 : decode prog_1_method_44_code 62 = .ok (.if_icmp .lt 6, 3) := by decide +kernel
theorem d_W_addThread_65 : decode prog_1_method_44_code 65 = .ok (.bipush (-5), 2) := by decide +kernel
theorem d_W_addThread_67 : decode prog_1_method_44_code 67 = .ok (.ireturn, 1) := by decide +kernel
theorem d_W_addThread_68 : decode prog_1_method_44_code 68 = .ok (.aload_n 3, 1) := by decide +kernel
theorem d_W_addThread_69 : decode prog_1_method_44_code 69 = .ok (.getfield 87, 3) := by decide +kernel
theorem d_W_addThread_72 : decode prog_1_method_44_code 72 = .ok (.iload 4, 2) := by decide +kernel
theorem d_W_addThread_74 : decode prog_1_method_44_code 74 = .ok (.aaload, 1) := by decide +kernel
theorem d_W_addThread_75 : decode prog_1_method_44_code 75 = .ok (.iconst 1, 1) := by decide +kernel
theorem d_W_addThread_76 : decode prog_1_method_44_code 76 = .ok (.putfield 91, 3) := by decide +kernel
theorem d_W_addThread_79 : decode prog_1_method_44_code 79 = .ok (.aload_n 3, 1) := by decide +kernel
theorem d_W_addThread_80 : decode prog_1_method_44_code 80 = .ok (.getfield 87, 3) := by decide +kernel
theorem d_W_addThread_83 : decode prog_1_method_44_code 83 = .ok (.iload 4, 2) := by decide +kernel
theorem d_W_addThread_85 : decode prog_1_method_44_code 85 = .ok (.aaload, 1) := by decide +kernel
theorem d_W_addThread_86 : decode prog_1_method_44_code 86 = .ok (.iload_n 2, 1) := by decide +kernel
theorem d_W_addThread_87 : decode prog_1_method_44_code 87 = .ok (.putfield 194, 3) := by decide +kernel
theorem d_W_addThread_90 : decode prog_1_method_44_code 90 = .ok (.aload_n 3, 1) := by decide +kernel
theorem d_W_addThread_91 : decode prog_1_method_44_code 91 = .ok (.iconst 3, 1) := by decide +kernel
theorem d_W_addThread_92 : decode prog_1_method_44_code 92 = .ok (.invokevirtual 185, 3) := by decide +kernel
theorem d_W_addThread_95 : decode prog_1_method_44_code 95 = .ok (.aload_n 3, 1) := by decide +kernel
theorem d_W_addThread_96 : decode prog_1_method_44_code 96 = .ok (.iload_n 2, 1) := by decide +kernel
theorem d_W_addThread_97 : decode prog_1_method_44_code 97 = .ok (.invokevirtual 185, 3) := by decide +kernel
theorem d_W_addThread_100 : decode prog_1_method_44_code 100 = .ok (.iload 4, 2) := by decide +kernel
theorem d_W_addThread_102 : decode prog_1_method_44_code 102 = .ok (.ireturn, 1) := by decide +kernel
theorem d_W_seal_0 : decode prog_1_method_45_code 0 = .ok (.iload_n 1, 1) := by decide +kernel
theorem d_W_seal_1 : decode prog_1_method_45_code 1 = .ok (.invokestatic 78, 3) := by decide +kernel
theorem d_W_seal_4 : decode prog_1_method_45_code 4 = .ok (.ifCond .ne 6, 3) := by decide +kernel
theorem d_W_seal_7 : decode prog_1_method_45_code 7 = .ok (.bipush (-2), 2) := by decide +kernel
theorem d_W_seal_9 : decode prog_1_method_45_code 9 = .ok (.ireturn, 1) := by decide +kernel
theorem d_W_seal_10 : decode prog_1_method_45_code 10 = .ok (.aload_n 0, 1) := by decide +kernel
theorem d_W_seal_11 : decode prog_1_method_45_code 11 = .ok (.getfield 22, 3) := by decide +kernel
theorem d_W_seal_14 : decode prog_1_method_45_code 14 = .ok (.iload_n 1, 1) := by decide +kernel
theorem d_W_seal_15 : decode prog_1_method_45_code 15 = .ok (.aaload, 1) := by decide +kernel
theorem d_W_seal_16 : decode prog_1_method_45_code 16 = .ok (.astore_n 2, 1) := by decide +kernel
theorem d_W_seal_17 : decode prog_1_method_45_code 17 = .ok (.aload_n 2, 1) := by decide +kernel
theorem d_W_seal_18 : decode prog_1_method_45_code 18 = .ok (.getfield 81, 3) := by decide +kernel
theorem d_W_seal_21 : decode prog_1_method_45_code 21 = .ok (.iconst 1, 1) := by decide +kernel
theorem d_W_seal_22 : decode prog_1_method_45_code 22 = .ok (.if_icmp .ne 10, 3) := by decide +kernel
theorem d_W_seal_25 : decode prog_1_method_45_code 25 = .ok (.aload_n 2, 1) := by decide +kernel
theorem d_W_seal_26 : decode prog_1_method_45_code 26 = .ok (.invokevirtual 191, 3) := by decide +kernel
theorem d_W_seal_29 : decode prog_1_method_45_code 29 = .ok (.ifCond .ne 6, 3) := by decide +kernel
theorem d_W_seal_32 : decode prog_1_method_45_code 32 = .ok (.bipush (-3), 2) := by decide +kernel
theorem d_W_seal_34 : decode prog_1_method_45_code 34 = .ok (.ireturn, 1) := by decide +kernel
theorem d_W_seal_35 : decode prog_1_method_45_code 35 = .ok (.aload_n 2, 1) := by decide +kernel
theorem d_W_seal_36 : decode prog_1_method_45_code 36 = .ok (.iconst 2, 1) := by decide +kernel
theorem d_W_seal_37 : decode prog_1_method_45_code 37 = .ok (.putfield 81, 3) := by decide +kernel
theorem d_W_seal_40 : decode prog_1_method_45_code 40 = .ok (.aload_n 2, 1) := by decide +kernel
theorem d_W_seal_41 : decode prog_1_method_45_code 41 = .ok (.iconst 4, 1) := by decide +kernel
theorem d_W_seal_42 : decode prog_1_method_45_code 42 = .ok (.invokevirtual 185, 3) := by decide +kernel
theorem d_W_seal_45 : decode prog_1_method_45_code 45 = .ok (.iconst 0, 1) := by decide +kernel
theorem d_W_seal_46 : decode prog_1_method_45_code 46 = .ok (.ireturn, 1) := by decide +kernel
theorem d_W_share_0 : decode prog_1_method_46_code 0 = .ok (.iload_n 1, 1) := by decide +kernel
theorem d_W_share_1 : decode prog_1_method_46_code 1 = .ok (.invokestatic 78, 3) := by decide +kernel
theorem d_W_share_4 : decode prog_1_method_46_code 4 = .ok (.ifCond .eq 10, 3) := by decide +kernel
theorem d_W_share_7 : decode prog_1_method_46_code 7 = .ok (.iload_n 2, 1) := by decide +kernel
theorem d_W_share_8 : decode prog_1_method_46_code 8 = .ok (.invokestatic 75, 3) := by decide +kernel
theorem d_W_share_11 : decode prog_1_method_46_code 11 = .ok (.ifCond .ne 6, 3) := by decide +kernel
theorem d_W_share_14 : decode prog_1_method_46_code 14 = .ok (.bipush (-2), 2) := by decide +kernel
theorem d_W_share_16 : decode prog_1_method_46_code 16 = .ok (.ireturn, 1) := by decide +kernel
theorem d_W_share_17 : decode prog_1_method_46_code 17 = .ok (.aload_n 0, 1) := by decide +kernel
theorem d_W_share_18 : decode prog_1_method_46_code 18 = .ok (.getfield 22, 3) := by decide +kernel
theorem d_W_share_21 : decode prog_1_method_46_code 21 = .ok (.iload_n 1, 1) := by decide +kernel
theorem d_W_share_22 : decode prog_1_method_46_code 22 = .ok (.aaload, 1) := by decide +kernel
theorem d_W_share_23 : decode prog_1_method_46_code 23 = .ok (.getfield 81, 3) := by decide +kernel
theorem d_W_share_26 : decode prog_1_method_46_code 26 = .ok (.ifCond .ne 6, 3) := by decide +kernel
theorem d_W_share_29 : decode prog_1_method_46_code 29 = .ok (.bipush (-3), 2) := by decide +kernel
theorem d_W_share_31 : decode prog_1_method_46_code 31 = .ok (.ireturn, 1) := by decide +kernel
theorem d_W_share_32 : decode prog_1_method_46_code 32 = .ok (.aload_n 0, 1) := by decide +kernel
theorem d_W_share_33 : decode prog_1_method_46_code 33 = .ok (.getfield 17, 3) := by decide +kernel
theorem d_W_share_36 : decode prog_1_method_46_code 36 = .ok (.iload_n 2, 1) := by decide +kernel
theorem d_W_share_37 : decode prog_1_method_46_code 37 = .ok (.iaload, 1) := by decide +kernel
theorem d_W_share_38 : decode prog_1_method_46_code 38 = .ok (.iconst 1, 1) := by decide +kernel
theorem d_W_share_39 : decode prog_1_method_46_code 39 = .ok (.if_icmp .eq 6, 3) := by decide +kernel
theorem d_W_share_42 : decode prog_1_method_46_code 42 = .ok (.bipush (-4), 2) := by decide +kernel
theorem d_W_share_44 : decode prog_1_method_46_code 44 = .ok (.ireturn, 1) := by decide +kernel
theorem d_W_share_45 : decode prog_1_method_46_code 45 = .ok (.aload_n 0, 1) := by decide +kernel
theorem d_W_share_46 : decode prog_1_method_46_code 46 = .ok (.iload_n 1, 1) := by decide +kernel
theorem d_W_share_47 : decode prog_1_method_46_code 47 = .ok (.invokevirtual 197, 3) := by decide +kernel
theorem d_W_share_50 : decode prog_1_method_46_code 50 = .ok (.iconst 2, 1) := by decide +kernel
theorem d_W_share_51 : decode prog_1_method_46_code 51 = .ok (.if_icmp .lt 6, 3) := by decide +kernel
theorem d_W_share_54 : decode prog_1_method_46_code 54 = .ok (.bipush (-5), 2) := by decide +kernel
theorem d_W_share_56 : decode prog_1_method_46_code 56 = .ok (.ireturn, 1) := by decide +kernel
theorem d_W_share_57 : decode prog_1_method_46_code 57 = .ok (.aload_n 0, 1) := by decide +kernel
theorem d_W_share_58 : decode prog_1_method_46_code 58 = .ok (.getfield 17, 3) := by decide +kernel
theorem d_W_share_61 : decode prog_1_method_46_code 61 = .ok (.iload_n 2, 1) := by decide +kernel
theorem d_W_share_62 : decode prog_1_method_46_code 62 = .ok (.iconst 5, 1) := by decide +kernel
theorem d_W_share_63 : decode prog_1_method_46_code 63 = .ok (.iload_n 1, 1) := by decide +kernel
theorem d_W_share_64 : decode prog_1_method_46_code 64 = .ok (.iadd, 1) := by decide +kernel
theorem d_W_share_65 : decode prog_1_method_46_code 65 = .ok (.iastore, 1) := by decide +kernel
theorem d_W_share_66 : decode prog_1_method_46_code 66 = .ok (.iconst 0, 1) := by decide +kernel
theorem d_W_share_67 : decode prog_1_method_46_code 67 = .ok (.ireturn, 1) := by decide +kernel
theorem d_W_sharedWith_0 : decode prog_1_method_47_code 0 = .ok (.iconst 0, 1) := by decide +kernel
theorem d_W_sharedWith_1 : decode prog_1_method_47_code 1 = .ok (.istore_n 2, 1) := by decide +kernel
theorem d_W_sharedWith_2 : decode prog_1_method_47_code 2 = .ok (.iconst 0, 1) := by decide +kernel
theorem d_W_sharedWith_3 : decode prog_1_method_47_code 3 = .ok (.istore_n 3, 1) := by decide +kernel
theorem d_W_sharedWith_4 : decode prog_1_method_47_code 4 = .ok (.iload_n 3, 1) := by decide +kernel
theorem d_W_sharedWith_5 : decode prog_1_method_47_code 5 = .ok (.bipush 16, 2) := by decide +kernel
theorem d_W_sharedWith_7 : decode prog_1_method_47_code 7 = .ok (.if_icmp .ge 24, 3) := by decide +kernel
theorem d_W_sharedWith_10 : decode prog_1_method_47_code 10 = .ok (.aload_n 0, 1) := by decide +kernel
theorem d_W_sharedWith_11 : decode prog_1_method_47_code 11 = .ok (.getfield 17, 3) := by decide +kernel
theorem d_W_sharedWith_14 : decode prog_1_method_47_code 14 = .ok (.iload_n 3, 1) := by decide +kernel
theorem d_W_sharedWith_15 : decode prog_1_method_47_code 15 = .ok (.iaload, 1) := by decide +kernel
theorem d_W_sharedWith_16 : decode prog_1_method_47_code 16 = .ok (.iconst 5, 1) := by decide +kernel
theorem d_W_sharedWith_17 : decode prog_1_method_47_code 17 = .ok (.iload_n 1, 1) := by decide +kernel
theorem d_W_sharedWith_18 : decode prog_1_method_47_code 18 = .ok (.iadd, 1) := by decide +kernel
theorem d_W_sharedWith_19 : decode prog_1_method_47_code 19 = .ok (.if_icmp .ne 6, 3) := by decide +kernel
theorem d_W_sharedWith_22 : decode prog_1_method_47_code 22 = .ok (.iinc 2 1, 3) := by decide +kernel
theorem d_W_sharedWith_25 : decode prog_1_method_47_code 25 = .ok (.iinc 3 1, 3) := by decide +kernel
theorem d_W_sharedWith_28 : decode prog_1_method_47_code 28 = .ok (.goto (-24), 3) := by decide +kernel
theorem d_W_sharedWith_31 : decode prog_1_method_47_code 31 = .ok (.iload_n 2, 1) := by decide +kernel
theorem d_W_sharedWith_32 : decode prog_1_method_47_code 32 = .ok (.ireturn, 1) := by decide +kernel
theorem d_W_enter_0 : decode prog_1_method_48_code 0 = .ok (.aload_n 0, 1) := by decide +kernel
theorem d_W_enter_1 : decode prog_1_method_48_code 1 = .ok (.iload_n 1, 1) := by decide +kernel
theorem d_W_enter_2 : decode prog_1_method_48_code 2 = .ok (.iload_n 2, 1) := by decide +kernel
theorem d_W_enter_3 : decode prog_1_method_48_code 3 = .ok (.iconst 1, 1) := by decide +kernel
theorem d_W_enter_4 : decode prog_1_method_48_code 4 = .ok (.invokevirtual 200, 3) := by decide +kernel
theorem d_W_enter_7 : decode prog_1_method_48_code 7 = .ok (.istore 4, 2) := by decide +kernel
theorem d_W_enter_9 : decode prog_1_method_48_code 9 = .ok (.iload 4, 2) := by decide +kernel
theorem d_W_enter_11 : decode prog_1_method_48_code 11 = .ok (.ifCond .ne 36, 3) := by decide +kernel
theorem d_W_enter_14 : decode prog_1_method_48_code 14 = .ok (.aload_n 0, 1) := by decide +kernel
theorem d_W_enter_15 : decode prog_1_method_48_code 15 = .ok (.getfield 22, 3) := by decide +kernel
theorem d_W_enter_18 : decode prog_1_method_48_code 18 = .ok (.iload_n 1, 1) := by decide +kernel
theorem d_W_enter_19 : decode prog_1_method_48_code 19 = .ok (.aaload, 1) := by decide +kernel
theorem d_W_enter_20 : decode prog_1_method_48_code 20 = .ok (.getfield 87, 3) := by decide +kernel
theorem d_W_enter_23 : decode prog_1_method_48_code 23 = .ok (.iload_n 2, 1) := by decide +kernel
theorem d_W_enter_24 : decode prog_1_method_48_code 24 = .ok (.aaload, 1) := by decide +kernel
theorem d_W_enter_25 : decode prog_1_method_48_code 25 = .ok (.astore 5, 2) := by decide +kernel
theorem d_W_enter_27 : decode prog_1_method_48_code 27 = .ok (.aload 5, 2) := by decide +kernel
theorem d_W_enter_29 : decode prog_1_method_48_code 29 = .ok (.getfield 94, 3) := by decide +kernel
theorem d_W_enter_32 : decode prog_1_method_48_code 32 = .ok (.aload 5, 2) := by decide +kernel
theorem d_W_enter_34 : decode prog_1_method_48_code 34 = .ok (.getfield 194, 3) := by decide +kernel
theorem d_W_enter_37 : decode prog_1_method_48_code 37 = .ok (.iload_n 3, 1) := by decide +kernel
theorem d_W_enter_38 : decode prog_1_method_48_code 38 = .ok (.invokevirtual 203, 3) := by decide +kernel
theorem d_W_enter_41 : decode prog_1_method_48_code 41 = .ok (.aload_n 0, 1) := by decide +kernel
theorem d_W_enter_42 : decode prog_1_method_48_code 42 = .ok (.iload_n 1, 1) := by decide +kernel
theorem d_W_enter_43 : decode prog_1_method_48_code 43 = .ok (.iload_n 2, 1) := by decide +kernel
theorem d_W_enter_44 : decode prog_1_method_48_code 44 = .ok (.invokevirtual 206, 3) := by decide +kernel
theorem d_W_enter_47 : decode prog_1_method_48_code 47 = .ok (.iload 4, 2) := by decide +kernel
theorem d_W_enter_49 : decode prog_1_method_48_code 49 = .ok (.ireturn, 1) := by decide +kernel
theorem d_W_resume_0 : decode prog_1_method_49_code 0 = .ok (.aload_n 0, 1) := by decide +kernel
theorem d_W_resume_1 : decode prog_1_method_49_code 1 = .ok (.iload_n 1, 1) := by decide +kernel
theorem d_W_resume_2 : decode prog_1_method_49_code 2 = .ok (.iload_n 2, 1) := by decide +kernel
theorem d_W_resume_3 : decode prog_1_method_49_code 3 = .ok (.iconst 3, 1) := by decide +kernel
theorem d_W_resume_4 : decode prog_1_method_49_code 4 = .ok (.invokevirtual 200, 3) := by decide +kernel
theorem d_W_resume_7 : decode prog_1_method_49_code 7 = .ok (.istore_n 3, 1) := by decide +kernel
theorem d_W_resume_8 : decode prog_1_method_49_code 8 = .ok (.iload_n 3, 1) := by decide +kernel
theorem d_W_resume_9 : decode prog_1_method_49_code 9 = .ok (.ifCond .ne 9, 3) := by decide +kernel
theorem d_W_resume_12 : decode prog_1_method_49_code 12 = .ok (.aload_n 0, 1) := by decide +kernel
theorem d_W_resume_13 : decode prog_1_method_49_code 13 = .ok (.iload_n 1, 1) := by decide +kernel
theorem d_W_resume_14 : decode prog_1_method_49_code 14 = .ok (.iload_n 2, 1) := by decide +kernel
theorem d_W_resume_15 : decode prog_1_method_49_code 15 = .ok (.invokevirtual 206, 3) := by decide +kernel
theorem d_W_resume_18 : decode prog_1_method_49_code 18 = .ok (.iload_n 3, 1) := by decide +kernel
theorem d_W_resume_19 : decode prog_1_method_49_code 19 = .ok (.ireturn, 1) := by decide +kernel
theorem d_W_refusalToStart_0 : decode prog_1_method_50_code 0 = .ok (.iload_n 1, 1) := by decide +kernel
theorem d_W_refusalToStart_1 : decode prog_1_method_50_code 1 = .ok (.invokestatic 78, 3) := by decide +kernel
theorem d_W_refusalToStart_4 : decode prog_1_method_50_code 4 = .ok (.ifCond .eq 10, 3) := by decide +kernel
theorem d_W_refusalToStart_7 : decode prog_1_method_50_code 7 = .ok (.iload_n 2, 1) := by decide +kernel
theorem d_W_refusalToStart_8 : decode prog_1_method_50_code 8 = .ok (.invokestatic 84, 3) := by decide +kernel
theorem d_W_refusalToStart_11 : decode prog_1_method_50_code 11 = .ok (.ifCond .ne 6, 3) := by decide +kernel
theorem d_W_refusalToStart_14 : decode prog_1_method_50_code 14 = .ok (.bipush (-2), 2) := by decide +kernel
theorem d_W_refusalToStart_16 : decode prog_1_method_50_code 16 = .ok (.ireturn, 1) := by decide +kernel
theorem d_W_refusalToStart_17 : decode prog_1_method_50_code 17 = .ok (.aload_n 0, 1) := by decide +kernel
theorem d_W_refusalToStart_18 : decode prog_1_method_50_code 18 = .ok (.getfield 22, 3) := by decide +kernel
theorem d_W_refusalToStart_21 : decode prog_1_method_50_code 21 = .ok (.iload_n 1, 1) := by decide +kernel
theorem d_W_refusalToStart_22 : decode prog_1_method_50_code 22 = .ok (.aaload, 1) := by decide +kernel
theorem d_W_refusalToStart_23 : decode prog_1_method_50_code 23 = .ok (.astore 4, 2) := by decide +kernel
theorem d_W_refusalToStart_25 : decode prog_1_method_50_code 25 = .ok (.aload 4, 2) := by decide +kernel
theorem d_W_refusalToStart_27 : decode prog_1_method_50_code 27 = .ok (.getfield 81, 3) := by decide +kernel
theorem d_W_refusalToStart_30 : decode prog_1_method_50_code 30 = .ok (.iconst 2, 1) := by decide +kernel
theorem d_W_refusalToStart_31 : decode prog_1_method_50_code 31 = .ok (.if_icmp .ne 21, 3) := by decide +kernel
theorem d_W_refusalToStart_34 : decode prog_1_method_50_code 34 = .ok (.aload 4, 2) := by decide +kernel
theorem d_W_refusalToStart_36 : decode prog_1_method_50_code 36 = .ok (.getfield 87, 3) := by decide +kernel
theorem d_W_refusalToStart_39 : decode prog_1_method_50_code 39 = .ok (.iload_n 2, 1) := by decide +kernel
theorem d_W_refusalToStart_40 : decode prog_1_method_50_code 40 = .ok (.aaload, 1) := by decide +kernel
theorem d_W_refusalToStart_41 : decode prog_1_method_50_code 41 = .ok (.getfield 91, 3) := by decide +kernel
theorem d_W_refusalToStart_44 : decode prog_1_method_50_code 44 = .ok (.iload_n 3, 1) := by decide +kernel
theorem d_W_refusalToStart_45 : decode prog_1_method_50_code 45 = .ok (.if_icmp .ne 7, 3) := by decide +kernel
theorem d_W_refusalToStart_48 : decode prog_1_method_50_code 48 = .ok (.iconst 0, 1) := by decide +kernel
theorem d_W_refusalToStart_49 : decode prog_1_method_50_code 49 = .ok (.goto 5, 3) := by decide +kernel
theorem d_W_refusalToStart_52 : decode prog_1_method_50_code 52 = .ok (.bipush (-3), 2) := by decide +kernel
theorem d_W_refusalToStart_54 : decode prog_1_method_50_code 54 = .ok (.ireturn, 1) := by decide +kernel
theorem d_W_handOver_0 : decode prog_1_method_51_code 0 = .ok (.aload_n 0, 1) := by decide +kernel
theorem d_W_handOver_1 : decode prog_1_method_51_code 1 = .ok (.getfield 22, 3) := by decide +kernel
theorem d_W_handOver_4 : decode prog_1_method_51_code 4 = .ok (.iload_n 1, 1) := by decide +kernel
theorem d_W_handOver_5 : decode prog_1_method_51_code 5 = .ok (.aaload, 1) := by decide +kernel
theorem d_W_handOver_6 : decode prog_1_method_51_code 6 = .ok (.getfield 87, 3) := by decide +kernel
theorem d_W_handOver_9 : decode prog_1_method_51_code 9 = .ok (.iload_n 2, 1) := by decide +kernel
theorem d_W_handOver_10 : decode prog_1_method_51_code 10 = .ok (.aaload, 1) := by decide +kernel
theorem d_W_handOver_11 : decode prog_1_method_51_code 11 = .ok (.iconst 2, 1) := by decide +kernel
theorem d_W_handOver_12 : decode prog_1_method_51_code 12 = .ok (.putfield 91, 3) := by decide +kernel
theorem d_W_handOver_15 : decode prog_1_method_51_code 15 = .ok (.aload_n 0, 1) := by decide +kernel
theorem d_W_handOver_16 : decode prog_1_method_51_code 16 = .ok (.iload_n 1, 1) := by decide +kernel
theorem d_W_handOver_17 : decode prog_1_method_51_code 17 = .ok (.iconst 2, 1) := by decide +kernel
theorem d_W_handOver_18 : decode prog_1_method_51_code 18 = .ok (.imul, 1) := by decide +kernel
theorem d_W_handOver_19 : decode prog_1_method_51_code 19 = .ok (.iload_n 2, 1) := by decide +kernel
theorem d_W_handOver_20 : decode prog_1_method_51_code 20 = .ok (.iadd, 1) := by decide +kernel
theorem d_W_handOver_21 : decode prog_1_method_51_code 21 = .ok (.putfield 41, 3) := by decide +kernel
theorem d_W_handOver_24 : decode prog_1_method_51_code 24 = .ok (.return_, 1) := by decide +kernel
theorem d_W_stop_0 : decode prog_1_method_52_code 0 = .ok (.iload_n 1, 1) := by decide +kernel
theorem d_W_stop_1 : decode prog_1_method_52_code 1 = .ok (.invokestatic 78, 3) := by decide +kernel
theorem d_W_stop_4 : decode prog_1_method_52_code 4 = .ok (.ifCond .ne 6, 3) := by decide +kernel
theorem d_W_stop_7 : decode prog_1_method_52_code 7 = .ok (.bipush (-2), 2) := by decide +kernel
theorem d_W_stop_9 : decode prog_1_method_52_code 9 = .ok (.ireturn, 1) := by decide +kernel
theorem d_W_stop_10 : decode prog_1_method_52_code 10 = .ok (.aload_n 0, 1) := by decide +kernel
theorem d_W_stop_11 : decode prog_1_method_52_code 11 = .ok (.getfield 22, 3) := by decide +kernel
theorem d_W_stop_14 : decode prog_1_method_52_code 14 = .ok (.iload_n 1, 1) := by decide +kernel
theorem d_W_stop_15 : decode prog_1_method_52_code 15 = .ok (.aaload, 1) := by decide +kernel
theorem d_W_stop_16 : decode prog_1_method_52_code 16 = .ok (.getfield 81, 3) := by decide +kernel
theorem d_W_stop_19 : decode prog_1_method_52_code 19 = .ok (.iconst 2, 1) := by decide +kernel
theorem d_W_stop_20 : decode prog_1_method_52_code 20 = .ok (.if_icmp .eq 6, 3) := by decide +kernel
theorem d_W_stop_23 : decode prog_1_method_52_code 23 = .ok (.bipush (-3), 2) := by decide +kernel
theorem d_W_stop_25 : decode prog_1_method_52_code 25 = .ok (.ireturn, 1) := by decide +kernel
theorem d_W_stop_26 : decode prog_1_method_52_code 26 = .ok (.aload_n 0, 1) := by decide +kernel
theorem d_W_stop_27 : decode prog_1_method_52_code 27 = .ok (.getfield 22, 3) := by decide +kernel
theorem d_W_stop_30 : decode prog_1_method_52_code 30 = .ok (.iload_n 1, 1) := by decide +kernel
theorem d_W_stop_31 : decode prog_1_method_52_code 31 = .ok (.aaload, 1) := by decide +kernel
theorem d_W_stop_32 : decode prog_1_method_52_code 32 = .ok (.iconst 3, 1) := by decide +kernel
theorem d_W_stop_33 : decode prog_1_method_52_code 33 = .ok (.putfield 81, 3) := by decide +kernel
theorem d_W_stop_36 : decode prog_1_method_52_code 36 = .ok (.iconst 0, 1) := by decide +kernel
theorem d_W_stop_37 : decode prog_1_method_52_code 37 = .ok (.ireturn, 1) := by decide +kernel
theorem d_W_destroy_0 : decode prog_1_method_53_code 0 = .ok (.iload_n 1, 1) := by decide +kernel
theorem d_W_destroy_1 : decode prog_1_method_53_code 1 = .ok (.invokestatic 78, 3) := by decide +kernel
theorem d_W_destroy_4 : decode prog_1_method_53_code 4 = .ok (.ifCond .ne 6, 3) := by decide +kernel
theorem d_W_destroy_7 : decode prog_1_method_53_code 7 = .ok (.bipush (-2), 2) := by decide +kernel
theorem d_W_destroy_9 : decode prog_1_method_53_code 9 = .ok (.ireturn, 1) := by decide +kernel
theorem d_W_destroy_10 : decode prog_1_method_53_code 10 = .ok (.aload_n 0, 1) := by decide +kernel
theorem d_W_destroy_11 : decode prog_1_method_53_code 11 = .ok (.getfield 22, 3) := by decide +kernel
theorem d_W_destroy_14 : decode prog_1_method_53_code 14 = .ok (.iload_n 1, 1) := by decide +kernel
theorem d_W_destroy_15 : decode prog_1_method_53_code 15 = .ok (.aaload, 1) := by decide +kernel
theorem d_W_destroy_16 : decode prog_1_method_53_code 16 = .ok (.getfield 81, 3) := by decide +kernel
theorem d_W_destroy_19 : decode prog_1_method_53_code 19 = .ok (.istore_n 2, 1) := by decide +kernel
theorem d_W_destroy_20 : decode prog_1_method_53_code 20 = .ok (.iload_n 2, 1) := by decide +kernel
theorem d_W_destroy_21 : decode prog_1_method_53_code 21 = .ok (.ifCond .eq 8, 3) := by decide +kernel
theorem d_W_destroy_24 : decode prog_1_method_53_code 24 = .ok (.iload_n 2, 1) := by decide +kernel
theorem d_W_destroy_25 : decode prog_1_method_53_code 25 = .ok (.iconst 2, 1) := by decide +kernel
theorem d_W_destroy_26 : decode prog_1_method_53_code 26 = .ok (.if_icmp .ne 6, 3) := by decide +kernel
theorem d_W_destroy_29 : decode prog_1_method_53_code 29 = .ok (.bipush (-3), 2) := by decide +kernel
theorem d_W_destroy_31 : decode prog_1_method_53_code 31 = .ok (.ireturn, 1) := by decide +kernel
theorem d_W_destroy_32 : decode prog_1_method_53_code 32 = .ok (.iconst 0, 1) := by decide +kernel
theorem d_W_destroy_33 : decode prog_1_method_53_code 33 = .ok (.istore_n 3, 1) := by decide +kernel
theorem d_W_destroy_34 : decode prog_1_method_53_code 34 = .ok (.iload_n 3, 1) := by decide +kernel
theorem d_W_destroy_35 : decode prog_1_method_53_code 35 = .ok (.bipush 16, 2) := by decide +kernel
theorem d_W_destroy_37 : decode prog_1_method_53_code 37 = .ok (.if_icmp .ge 48, 3) := by decide +kernel
theorem d_W_destroy_40 : decode prog_1_method_53_code 40 = .ok (.aload_n 0, 1) := by decide +kernel
theorem d_W_destroy_41 : decode prog_1_method_53_code 41 = .ok (.getfield 17, 3) := by decide +kernel
theorem d_W_destroy_44 : decode prog_1_method_53_code 44 = .ok (.iload_n 3, 1) := by decide +kernel
theorem d_W_destroy_45 : decode prog_1_method_53_code 45 = .ok (.iaload, 1) := by decide +kernel
theorem d_W_destroy_46 : decode prog_1_method_53_code 46 = .ok (.iconst 2, 1) := by decide +kernel
theorem d_W_destroy_47 : decode prog_1_method_53_code 47 = .ok (.iload_n 1, 1) := by decide +kernel
theorem d_W_destroy_48 : decode prog_1_method_53_code 48 = .ok (.iadd, 1) := by decide +kernel
theorem d_W_destroy_49 : decode prog_1_method_53_code 49 = .ok (.if_icmp .ne 11, 3) := by decide +kernel
theorem d_W_destroy_52 : decode prog_1_method_53_code 52 = .ok (.aload_n 0, 1) := by decide +kernel
theorem d_W_destroy_53 : decode prog_1_method_53_code 53 = .ok (.iload_n 3, 1) := by decide +kernel
theorem d_W_destroy_54 : decode prog_1_method_53_code 54 = .ok (.invokevirtual 209, 3) := by decide +kernel
theorem d_W_destroy_57 : decode prog_1_method_53_code 57 = .ok (.goto 22, 3) := by decide +kernel
theorem d_W_destroy_60 : decode prog_1_method_53_code 60 = .ok (.aload_n 0, 1) := by decide +kernel
theorem d_W_destroy_61 : decode prog_1_method_53_code 61 = .ok (.getfield 17, 3) := by decide +kernel
theorem d_W_destroy_64 : decode prog_1_method_53_code 64 = .ok (.iload_n 3, 1) := by decide +kernel
theorem d_W_destroy_65 : decode prog_1_method_53_code 65 = .ok (.iaload, 1) := by decide +kernel
theorem d_W_destroy_66 : decode prog_1_method_53_code 66 = .ok (.iconst 5, 1) := by decide +kernel
theorem d_W_destroy_67 : decode prog_1_method_53_code 67 = .ok (.iload_n 1, 1) := by decide +kernel
theorem d_W_destroy_68 : decode prog_1_method_53_code 68 = .ok (.iadd, 1) := by decide +kernel
theorem d_W_destroy_69 : decode prog_1_method_53_code 69 = .ok (.if_icmp .ne 10, 3) := by decide +kernel
theorem d_W_destroy_72 : decode prog_1_method_53_code 72 = .ok (.aload_n 0, 1) := by decide +kernel
theorem d_W_destroy_73 : decode prog_1_method_53_code 73 = .ok (.getfield 17, 3) := by decide +kernel
theorem d_W_destroy_76 : decode prog_1_method_53_code 76 = .ok (.iload_n 3, 1) := by decide +kernel
theorem d_W_destroy_77 : decode prog_1_method_53_code 77 = .ok (.iconst 1, 1) := by decide +kernel
theorem d_W_destroy_78 : decode prog_1_method_53_code 78 = .ok (.iastore, 1) := by decide +kernel
theorem d_W_destroy_79 : decode prog_1_method_53_code 79 = .ok (.iinc 3 1, 3) := by decide +kernel
theorem d_W_destroy_82 : decode prog_1_method_53_code 82 = .ok (.goto (-48), 3) := by decide +kernel
theorem d_W_destroy_85 : decode prog_1_method_53_code 85 = .ok (.aload_n 0, 1) := by decide +kernel
theorem d_W_destroy_86 : decode prog_1_method_53_code 86 = .ok (.getfield 22, 3) := by decide +kernel
theorem d_W_destroy_89 : decode prog_1_method_53_code 89 = .ok (.iload_n 1, 1) := by decide +kernel
theorem d_W_destroy_90 : decode prog_1_method_53_code 90 = .ok (.aaload, 1) := by decide +kernel
theorem d_W_destroy_91 : decode prog_1_method_53_code 91 = .ok (.iconst 0, 1) := by decide +kernel
theorem d_W_destroy_92 : decode prog_1_method_53_code 92 = .ok (.invokevirtual 182, 3) := by decide +kernel
theorem d_W_destroy_95 : decode prog_1_method_53_code 95 = .ok (.iconst 0, 1) := by decide +kernel
theorem d_W_destroy_96 : decode prog_1_method_53_code 96 = .ok (.ireturn, 1) := by decide +kernel
theorem d_W_claim_0 : decode prog_1_method_54_code 0 = .ok (.iload_n 1, 1) := by decide +kernel
theorem d_W_claim_1 : decode prog_1_method_54_code 1 = .ok (.invokestatic 75, 3) := by decide +kernel
theorem d_W_claim_4 : decode prog_1_method_54_code 4 = .ok (.ifCond .ne 6, 3) := by decide +kernel
theorem d_W_claim_7 : decode prog_1_method_54_code 7 = .ok (.bipush (-2), 2) := by decide +kernel
theorem d_W_claim_9 : decode prog_1_method_54_code 9 = .ok (.ireturn, 1) := by decide +kernel
theorem d_W_claim_10 : decode prog_1_method_54_code 10 = .ok (.aload_n 0, 1) := by decide +kernel
theorem d_W_claim_11 : decode prog_1_method_54_code 11 = .ok (.getfield 17, 3) := by decide +kernel
theorem d_W_claim_14 : decode prog_1_method_54_code 14 = .ok (.iload_n 1, 1) := by decide +kernel
theorem d_W_claim_15 : decode prog_1_method_54_code 15 = .ok (.iaload, 1) := by decide +kernel
theorem d_W_claim_16 : decode prog_1_method_54_code 16 = .ok (.ifCond .eq 6, 3) := by decide +kernel
theorem d_W_claim_19 : decode prog_1_method_54_code 19 = .ok (.bipush (-4), 2) := by decide +kernel
theorem d_W_claim_21 : decode prog_1_method_54_code 21 = .ok (.ireturn, 1) := by decide +kernel
theorem d_W_claim_22 : decode prog_1_method_54_code 22 = .ok (.aload_n 0, 1) := by decide +kernel
theorem d_W_claim_23 : decode prog_1_method_54_code 23 = .ok (.getfield 17, 3) := by decide +kernel
theorem d_W_claim_26 : decode prog_1_method_54_code 26 = .ok (.iload_n 1, 1) := by decide +kernel
theorem d_W_claim_27 : decode prog_1_method_54_code 27 = .ok (.iconst 1, 1) := by decide +kernel
theorem d_W_claim_28 : decode prog_1_method_54_code 28 = .ok (.iastore, 1) := by decide +kernel
theorem d_W_claim_29 : decode prog_1_method_54_code 29 = .ok (.iconst 0, 1) := by decide +kernel
theorem d_W_claim_30 : decode prog_1_method_54_code 30 = .ok (.ireturn, 1) := by decide +kernel
theorem d_W_giveUp_0 : decode prog_1_method_55_code 0 = .ok (.iload_n 1, 1) := by decide +kernel
theorem d_W_giveUp_1 : decode prog_1_method_55_code 1 = .ok (.invokestatic 75, 3) := by decide +kernel
theorem d_W_giveUp_4 : decode prog_1_method_55_code 4 = .ok (.ifCond .ne 6, 3) := by decide +kernel
theorem d_W_giveUp_7 : decode prog_1_method_55_code 7 = .ok (.bipush (-2), 2) := by decide +kernel
theorem d_W_giveUp_9 : decode prog_1_method_55_code 9 = .ok (.ireturn, 1) := by decide +kernel
theorem d_W_giveUp_10 : decode prog_1_method_55_code 10 = .ok (.aload_n 0, 1) := by decide +kernel
theorem d_W_giveUp_11 : decode prog_1_method_55_code 11 = .ok (.getfield 17, 3) := by decide +kernel
theorem d_W_giveUp_14 : decode prog_1_method_55_code 14 = .ok (.iload_n 1, 1) := by decide +kernel
theorem d_W_giveUp_15 : decode prog_1_method_55_code 15 = .ok (.iaload, 1) := by decide +kernel
theorem d_W_giveUp_16 : decode prog_1_method_55_code 16 = .ok (.iconst 1, 1) := by decide +kernel
theorem d_W_giveUp_17 : decode prog_1_method_55_code 17 = .ok (.if_icmp .eq 6, 3) := by decide +kernel
theorem d_W_giveUp_20 : decode prog_1_method_55_code 20 = .ok (.bipush (-4), 2) := by decide +kernel
theorem d_W_giveUp_22 : decode prog_1_method_55_code 22 = .ok (.ireturn, 1) := by decide +kernel
theorem d_W_giveUp_23 : decode prog_1_method_55_code 23 = .ok (.aload_n 0, 1) := by decide +kernel
theorem d_W_giveUp_24 : decode prog_1_method_55_code 24 = .ok (.iload_n 1, 1) := by decide +kernel
theorem d_W_giveUp_25 : decode prog_1_method_55_code 25 = .ok (.invokevirtual 209, 3) := by decide +kernel
theorem d_W_giveUp_28 : decode prog_1_method_55_code 28 = .ok (.iconst 0, 1) := by decide +kernel
theorem d_W_giveUp_29 : decode prog_1_method_55_code 29 = .ok (.ireturn, 1) := by decide +kernel
theorem d_W_free_0 : decode prog_1_method_56_code 0 = .ok (.iconst 0, 1) := by decide +kernel
theorem d_W_free_1 : decode prog_1_method_56_code 1 = .ok (.istore_n 2, 1) := by decide +kernel
theorem d_W_free_2 : decode prog_1_method_56_code 2 = .ok (.iload_n 2, 1) := by decide +kernel
theorem d_W_free_3 : decode prog_1_method_56_code 3 = .ok (.bipush 16, 2) := by decide +kernel
theorem d_W_free_5 : decode prog_1_method_56_code 5 = .ok (.if_icmp .ge 21, 3) := by decide +kernel
theorem d_W_free_8 : decode prog_1_method_56_code 8 = .ok (.aload_n 0, 1) := by decide +kernel
theorem d_W_free_9 : decode prog_1_method_56_code 9 = .ok (.getfield 13, 3) := by decide +kernel
theorem d_W_free_12 : decode prog_1_method_56_code 12 = .ok (.iload_n 1, 1) := by decide +kernel
theorem d_W_free_13 : decode prog_1_method_56_code 13 = .ok (.bipush 16, 2) := by decide +kernel
theorem d_W_free_15 : decode prog_1_method_56_code 15 = .ok (.imul, 1) := by decide +kernel
theorem d_W_free_16 : decode prog_1_method_56_code 16 = .ok (.iload_n 2, 1) := by decide +kernel
theorem d_W_free_17 : decode prog_1_method_56_code 17 = .ok (.iadd, 1) := by decide +kernel
theorem d_W_free_18 : decode prog_1_method_56_code 18 = .ok (.iconst 0, 1) := by decide +kernel
theorem d_W_free_19 : decode prog_1_method_56_code 19 = .ok (.iastore, 1) := by decide +kernel
theorem d_W_free_20 : decode prog_1_method_56_code 20 = .ok (.iinc 2 1, 3) := by decide +kernel
theorem d_W_free_23 : decode prog_1_method_56_code 23 = .ok (.goto (-21), 3) := by decide +kernel
theorem d_W_free_26 : decode prog_1_method_56_code 26 = .ok (.aload_n 0, 1) := by decide +kernel
theorem d_W_free_27 : decode prog_1_method_56_code 27 = .ok (.getfield 17, 3) := by decide +kernel
theorem d_W_free_30 : decode prog_1_method_56_code 30 = .ok (.iload_n 1, 1) := by decide +kernel
theorem d_W_free_31 : decode prog_1_method_56_code 31 = .ok (.iconst 0, 1) := by decide +kernel
theorem d_W_free_32 : decode prog_1_method_56_code 32 = .ok (.iastore, 1) := by decide +kernel
theorem d_W_free_33 : decode prog_1_method_56_code 33 = .ok (.return_, 1) := by decide +kernel
theorem d_C_init_0 : decode prog_2_method_1_code 0 = .ok (.aload_n 0, 1) := by decide +kernel
theorem d_C_init_1 : decode prog_2_method_1_code 1 = .ok (.invokespecial 3, 3) := by decide +kernel
theorem d_C_init_4 : decode prog_2_method_1_code 4 = .ok (.aload_n 0, 1) := by decide +kernel
theorem d_C_init_5 : decode prog_2_method_1_code 5 = .ok (.bipush 8, 2) := by decide +kernel
theorem d_C_init_7 : decode prog_2_method_1_code 7 = .ok (.newarray .int, 2) := by decide +kernel
theorem d_C_init_9 : decode prog_2_method_1_code 9 = .ok (.putfield 9, 3) := by decide +kernel
theorem d_C_init_12 : decode prog_2_method_1_code 12 = .ok (.aload_n 0, 1) := by decide +kernel
theorem d_C_init_13 : decode prog_2_method_1_code 13 = .ok (.iconst 0, 1) := by decide +kernel
theorem d_C_init_14 : decode prog_2_method_1_code 14 = .ok (.putfield 15, 3) := by decide +kernel
theorem d_C_init_17 : decode prog_2_method_1_code 17 = .ok (.return_, 1) := by decide +kernel
theorem d_C_get_0 : decode prog_2_method_2_code 0 = .ok (.iload_n 1, 1) := by decide +kernel
theorem d_C_get_1 : decode prog_2_method_2_code 1 = .ok (.ifCond .lt 18, 3) := by decide +kernel
theorem d_C_get_4 : decode prog_2_method_2_code 4 = .ok (.iload_n 1, 1) := by decide +kernel
theorem d_C_get_5 : decode prog_2_method_2_code 5 = .ok (.bipush 8, 2) := by decide +kernel
theorem d_C_get_7 : decode prog_2_method_2_code 7 = .ok (.if_icmp .ge 12, 3) := by decide +kernel
theorem d_C_get_10 : decode prog_2_method_2_code 10 = .ok (.aload_n 0, 1) := by decide +kernel
theorem d_C_get_11 : decode prog_2_method_2_code 11 = .ok (.getfield 9, 3) := by decide +kernel
theorem d_C_get_14 : decode prog_2_method_2_code 14 = .ok (.iload_n 1, 1) := by decide +kernel
theorem d_C_get_15 : decode prog_2_method_2_code 15 = .ok (.iaload, 1) := by decide +kernel
theorem d_C_get_16 : decode prog_2_method_2_code 16 = .ok (.goto 4, 3) := by decide +kernel
theorem d_C_get_19 : decode prog_2_method_2_code 19 = .ok (.iconst 0, 1) := by decide +kernel
theorem d_C_get_20 : decode prog_2_method_2_code 20 = .ok (.ireturn, 1) := by decide +kernel
theorem d_C_put_0 : decode prog_2_method_3_code 0 = .ok (.iload_n 1, 1) := by decide +kernel
theorem d_C_put_1 : decode prog_2_method_3_code 1 = .ok (.ifCond .le 16, 3) := by decide +kernel
theorem d_C_put_4 : decode prog_2_method_3_code 4 = .ok (.iload_n 1, 1) := by decide +kernel
theorem d_C_put_5 : decode prog_2_method_3_code 5 = .ok (.bipush 8, 2) := by decide +kernel
theorem d_C_put_7 : decode prog_2_method_3_code 7 = .ok (.if_icmp .ge 10, 3) := by decide +kernel
theorem d_C_put_10 : decode prog_2_method_3_code 10 = .ok (.aload_n 0, 1) := by decide +kernel
theorem d_C_put_11 : decode prog_2_method_3_code 11 = .ok (.getfield 9, 3) := by decide +kernel
theorem d_C_put_14 : decode prog_2_method_3_code 14 = .ok (.iload_n 1, 1) := by decide +kernel
theorem d_C_put_15 : decode prog_2_method_3_code 15 = .ok (.iload_n 2, 1) := by decide +kernel
theorem d_C_put_16 : decode prog_2_method_3_code 16 = .ok (.iastore, 1) := by decide +kernel
theorem d_C_put_17 : decode prog_2_method_3_code 17 = .ok (.return_, 1) := by decide +kernel
theorem d_C_start_0 : decode prog_2_method_4_code 0 = .ok (.iconst 0, 1) := by decide +kernel
theorem d_C_start_1 : decode prog_2_method_4_code 1 = .ok (.istore_n 3, 1) := by decide +kernel
theorem d_C_start_2 : decode prog_2_method_4_code 2 = .ok (.iload_n 3, 1) := by decide +kernel
theorem d_C_start_3 : decode prog_2_method_4_code 3 = .ok (.bipush 8, 2) := by decide +kernel
theorem d_C_start_5 : decode prog_2_method_4_code 5 = .ok (.if_icmp .ge 15, 3) := by decide +kernel
theorem d_C_start_8 : decode prog_2_method_4_code 8 = .ok (.aload_n 0, 1) := by decide +kernel
theorem d_C_start_9 : decode prog_2_method_4_code 9 = .ok (.iload_n 3, 1) := by decide +kernel
theorem d_C_start_10 : decode prog_2_method_4_code 10 = .ok (.iconst 0, 1) := by decide +kernel
theorem d_C_start_11 : decode prog_2_method_4_code 11 = .ok (.invokevirtual 19, 3) := by decide +kernel
theorem d_C_start_14 : decode prog_2_method_4_code 14 = .ok (.iinc 3 1, 3) := by decide +kernel
theorem d_C_start_17 : decode prog_2_method_4_code 17 = .ok (.goto (-15), 3) := by decide +kernel
theorem d_C_start_20 : decode prog_2_method_4_code 20 = .ok (.aload_n 0, 1) := by decide +kernel
theorem d_C_start_21 : decode prog_2_method_4_code 21 = .ok (.iconst 1, 1) := by decide +kernel
theorem d_C_start_22 : decode prog_2_method_4_code 22 = .ok (.iload_n 2, 1) := by decide +kernel
theorem d_C_start_23 : decode prog_2_method_4_code 23 = .ok (.invokevirtual 19, 3) := by decide +kernel
theorem d_C_start_26 : decode prog_2_method_4_code 26 = .ok (.aload_n 0, 1) := by decide +kernel
theorem d_C_start_27 : decode prog_2_method_4_code 27 = .ok (.iload_n 1, 1) := by decide +kernel
theorem d_C_start_28 : decode prog_2_method_4_code 28 = .ok (.putfield 15, 3) := by decide +kernel
theorem d_C_start_31 : decode prog_2_method_4_code 31 = .ok (.return_, 1) := by decide +kernel
theorem d_V_init_0 : decode prog_3_method_1_code 0 = .ok (.aload_n 0, 1) := by decide +kernel
theorem d_V_init_1 : decode prog_3_method_1_code 1 = .ok (.invokespecial 3, 3) := by decide +kernel
theorem d_V_init_4 : decode prog_3_method_1_code 4 = .ok (.aload_n 0, 1) := by decide +kernel
theorem d_V_init_5 : decode prog_3_method_1_code 5 = .ok (.iconst 2, 1) := by decide +kernel
theorem d_V_init_6 : decode prog_3_method_1_code 6 = .ok (.anewarray 9, 3) := by decide +kernel
theorem d_V_init_9 : decode prog_3_method_1_code 9 = .ok (.putfield 11, 3) := by decide +kernel
theorem d_V_init_12 : decode prog_3_method_1_code 12 = .ok (.iconst 0, 1) := by decide +kernel
theorem d_V_init_13 : decode prog_3_method_1_code 13 = .ok (.istore_n 1, 1) := by decide +kernel
theorem d_V_init_14 : decode prog_3_method_1_code 14 = .ok (.iload_n 1, 1) := by decide +kernel
theorem d_V_init_15 : decode prog_3_method_1_code 15 = .ok (.iconst 2, 1) := by decide +kernel
theorem d_V_init_16 : decode prog_3_method_1_code 16 = .ok (.if_icmp .ge 22, 3) := by decide +kernel
theorem d_V_init_19 : decode prog_3_method_1_code 19 = .ok (.aload_n 0, 1) := by decide +kernel
theorem d_V_init_20 : decode prog_3_method_1_code 20 = .ok (.getfield 11, 3) := by decide +kernel
theorem d_V_init_23 : decode prog_3_method_1_code 23 = .ok (.iload_n 1, 1) := by decide +kernel
theorem d_V_init_24 : decode prog_3_method_1_code 24 = .ok (.new 9, 3) := by decide +kernel
theorem d_V_init_27 : decode prog_3_method_1_code 27 = .ok (.dup, 1) := by decide +kernel
theorem d_V_init_28 : decode prog_3_method_1_code 28 = .ok (.invokespecial 17, 3) := by decide +kernel
theorem d_V_init_31 : decode prog_3_method_1_code 31 = .ok (.aastore, 1) := by decide +kernel
theorem d_V_init_32 : decode prog_3_method_1_code 32 = .ok (.iinc 1 1, 3) := by decide +kernel
theorem d_V_init_35 : decode prog_3_method_1_code 35 = .ok (.goto (-21), 3) := by decide +kernel
theorem d_V_init_38 : decode prog_3_method_1_code 38 = .ok (.aload_n 0, 1) := by decide +kernel
theorem d_V_init_39 : decode prog_3_method_1_code 39 = .ok (.iconst 0, 1) := by decide +kernel
theorem d_V_init_40 : decode prog_3_method_1_code 40 = .ok (.invokevirtual 18, 3) := by decide +kernel
theorem d_V_init_43 : decode prog_3_method_1_code 43 = .ok (.return_, 1) := by decide +kernel
theorem d_V_become_0 : decode prog_3_method_2_code 0 = .ok (.aload_n 0, 1) := by decide +kernel
theorem d_V_become_1 : decode prog_3_method_2_code 1 = .ok (.iload_n 1, 1) := by decide +kernel
theorem d_V_become_2 : decode prog_3_method_2_code 2 = .ok (.putfield 22, 3) := by decide +kernel
theorem d_V_become_5 : decode prog_3_method_2_code 5 = .ok (.aload_n 0, 1) := by decide +kernel
theorem d_V_become_6 : decode prog_3_method_2_code 6 = .ok (.iconst 0, 1) := by decide +kernel
theorem d_V_become_7 : decode prog_3_method_2_code 7 = .ok (.putfield 26, 3) := by decide +kernel
theorem d_V_become_10 : decode prog_3_method_2_code 10 = .ok (.aload_n 0, 1) := by decide +kernel
theorem d_V_become_11 : decode prog_3_method_2_code 11 = .ok (.iconst 0, 1) := by decide +kernel
theorem d_V_become_12 : decode prog_3_method_2_code 12 = .ok (.putfield 29, 3) := by decide +kernel
theorem d_V_become_15 : decode prog_3_method_2_code 15 = .ok (.iconst 0, 1) := by decide +kernel
theorem d_V_become_16 : decode prog_3_method_2_code 16 = .ok (.istore_n 2, 1) := by decide +kernel
theorem d_V_become_17 : decode prog_3_method_2_code 17 = .ok (.iload_n 2, 1) := by decide +kernel
theorem d_V_become_18 : decode prog_3_method_2_code 18 = .ok (.iconst 2, 1) := by decide +kernel
theorem d_V_become_19 : decode prog_3_method_2_code 19 = .ok (.if_icmp .ge 19, 3) := by decide +kernel
theorem d_V_become_22 : decode prog_3_method_2_code 22 = .ok (.aload_n 0, 1) := by decide +kernel
theorem d_V_become_23 : decode prog_3_method_2_code 23 = .ok (.getfield 11, 3) := by decide +kernel
theorem d_V_become_26 : decode prog_3_method_2_code 26 = .ok (.iload_n 2, 1) := by decide +kernel
theorem d_V_become_27 : decode prog_3_method_2_code 27 = .ok (.aaload, 1) := by decide +kernel
theorem d_V_become_28 : decode prog_3_method_2_code 28 = .ok (.iconst 0, 1) := by decide +kernel
theorem d_V_become_29 : decode prog_3_method_2_code 29 = .ok (.putfield 32, 3) := by decide +kernel
theorem d_V_become_32 : decode prog_3_method_2_code 32 = .ok (.iinc 2 1, 3) := by decide +kernel
theorem d_V_become_35 : decode prog_3_method_2_code 35 = .ok (.goto (-18), 3) := by decide +kernel
theorem d_V_become_38 : decode prog_3_method_2_code 38 = .ok (.return_, 1) := by decide +kernel
theorem d_V_add_0 : decode prog_3_method_3_code 0 = .ok (.aload_n 0, 1) := by decide +kernel
theorem d_V_add_1 : decode prog_3_method_3_code 1 = .ok (.aload_n 0, 1) := by decide +kernel
theorem d_V_add_2 : decode prog_3_method_3_code 2 = .ok (.getfield 26, 3) := by decide +kernel
theorem d_V_add_5 : decode prog_3_method_3_code 5 = .ok (.iload_n 1, 1) := by decide +kernel
theorem d_V_add_6 : decode prog_3_method_3_code 6 = .ok (.invokestatic 33, 3) := by decide +kernel
theorem d_V_add_9 : decode prog_3_method_3_code 9 = .ok (.putfield 26, 3) := by decide +kernel
theorem d_V_add_12 : decode prog_3_method_3_code 12 = .ok (.return_, 1) := by decide +kernel
theorem d_V_threadCount_0 : decode prog_3_method_4_code 0 = .ok (.iconst 0, 1) := by decide +kernel
theorem d_V_threadCount_1 : decode prog_3_method_4_code 1 = .ok (.istore_n 1, 1) := by decide +kernel
theorem d_V_threadCount_2 : decode prog_3_method_4_code 2 = .ok (.iconst 0, 1) := by decide +kernel
theorem d_V_threadCount_3 : decode prog_3_method_4_code 3 = .ok (.istore_n 2, 1) := by decide +kernel
theorem d_V_threadCount_4 : decode prog_3_method_4_code 4 = .ok (.iload_n 2, 1) := by decide +kernel
theorem d_V_threadCount_5 : decode prog_3_method_4_code 5 = .ok (.iconst 2, 1) := by decide +kernel
theorem d_V_threadCount_6 : decode prog_3_method_4_code 6 = .ok (.if_icmp .ge 24, 3) := by decide +kernel
theorem d_V_threadCount_9 : decode prog_3_method_4_code 9 = .ok (.aload_n 0, 1) := by decide +kernel
theorem d_V_threadCount_10 : decode prog_3_method_4_code 10 = .ok (.getfield 11, 3) := by decide +kernel
theorem d_V_threadCount_13 : decode prog_3_method_4_code 13 = .ok (.iload_n 2, 1) := by decide +kernel
theorem d_V_threadCount_14 : decode prog_3_method_4_code 14 = .ok (.aaload, 1) := by decide +kernel
theorem d_V_threadCount_15 : decode prog_3_method_4_code 15 = .ok (.getfield 32, 3) := by decide +kernel
theorem d_V_threadCount_18 : decode prog_3_method_4_code 18 = .ok (.ifCond .eq 6, 3) := by decide +kernel
theorem d_V_threadCount_21 : decode prog_3_method_4_code 21 = .ok (.iinc 1 1, 3) := by decide +kernel
theorem d_V_threadCount_24 : decode prog_3_method_4_code 24 = .ok (.iinc 2 1, 3) := by decide +kernel
theorem d_V_threadCount_27 : decode prog_3_method_4_code 27 = .ok (.goto (-23), 3) := by decide +kernel
theorem d_V_threadCount_30 : decode prog_3_method_4_code 30 = .ok (.iload_n 1, 1) := by decide +kernel
theorem d_V_threadCount_31 : decode prog_3_method_4_code 31 = .ok (.ireturn, 1) := by decide +kernel
theorem d_T_init_0 : decode prog_4_method_1_code 0 = .ok (.aload_n 0, 1) := by decide +kernel
theorem d_T_init_1 : decode prog_4_method_1_code 1 = .ok (.invokespecial 3, 3) := by decide +kernel
theorem d_T_init_4 : decode prog_4_method_1_code 4 = .ok (.aload_n 0, 1) := by decide +kernel
theorem d_T_init_5 : decode prog_4_method_1_code 5 = .ok (.new 9, 3) := by decide +kernel
theorem d_T_init_8 : decode prog_4_method_1_code 8 = .ok (.dup, 1) := by decide +kernel
theorem d_T_init_9 : decode prog_4_method_1_code 9 = .ok (.invokespecial 11, 3) := by decide +kernel
theorem d_T_init_12 : decode prog_4_method_1_code 12 = .ok (.putfield 12, 3) := by decide +kernel
theorem d_T_init_15 : decode prog_4_method_1_code 15 = .ok (.aload_n 0, 1) := by decide +kernel
theorem d_T_init_16 : decode prog_4_method_1_code 16 = .ok (.iconst 0, 1) := by decide +kernel
theorem d_T_init_17 : decode prog_4_method_1_code 17 = .ok (.putfield 18, 3) := by decide +kernel
theorem d_T_init_20 : decode prog_4_method_1_code 20 = .ok (.aload_n 0, 1) := by decide +kernel
theorem d_T_init_21 : decode prog_4_method_1_code 21 = .ok (.iconst 0, 1) := by decide +kernel
theorem d_T_init_22 : decode prog_4_method_1_code 22 = .ok (.putfield 22, 3) := by decide +kernel
theorem d_T_init_25 : decode prog_4_method_1_code 25 = .ok (.return_, 1) := by decide +kernel

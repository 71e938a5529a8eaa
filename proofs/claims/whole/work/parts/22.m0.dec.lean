theorem d_M_init_0 : decode prog_6_method_1_code 0 = .ok (.aload_n 0, 1) := by decide +kernel
theorem d_M_init_1 : decode prog_6_method_1_code 1 = .ok (.invokespecial 1, 3) := by decide +kernel
theorem d_M_init_4 : decode prog_6_method_1_code 4 = .ok (.aload_n 0, 1) := by decide +kernel
theorem d_M_init_5 : decode prog_6_method_1_code 5 = .ok (.sipush 256, 3) := by decide +kernel
theorem d_M_init_8 : decode prog_6_method_1_code 8 = .ok (.newarray .int, 2) := by decide +kernel
theorem d_M_init_10 : decode prog_6_method_1_code 10 = .ok (.putfield 7, 3) := by decide +kernel
theorem d_M_init_13 : decode prog_6_method_1_code 13 = .ok (.aload_n 0, 1) := by decide +kernel
theorem d_M_init_14 : decode prog_6_method_1_code 14 = .ok (.bipush 16, 2) := by decide +kernel
theorem d_M_init_16 : decode prog_6_method_1_code 16 = .ok (.newarray .boolean, 2) := by decide +kernel
theorem d_M_init_18 : decode prog_6_method_1_code 18 = .ok (.putfield 13, 3) := by decide +kernel
theorem d_M_init_21 : decode prog_6_method_1_code 21 = .ok (.aload_n 0, 1) := by decide +kernel
theorem d_M_init_22 : decode prog_6_method_1_code 22 = .ok (.bipush 16, 2) := by decide +kernel
theorem d_M_init_24 : decode prog_6_method_1_code 24 = .ok (.newarray .int, 2) := by decide +kernel
theorem d_M_init_26 : decode prog_6_method_1_code 26 = .ok (.putfield 17, 3) := by decide +kernel
theorem d_M_init_29 : decode prog_6_method_1_code 29 = .ok (.aload_n 0, 1) := by decide +kernel
theorem d_M_init_30 : decode prog_6_method_1_code 30 = .ok (.iconst 3, 1) := by decide +kernel
theorem d_M_init_31 : decode prog_6_method_1_code 31 = .ok (.newarray .int, 2) := by decide +kernel
theorem d_M_init_33 : decode prog_6_method_1_code 33 = .ok (.putfield 20, 3) := by decide +kernel
theorem d_M_init_36 : decode prog_6_method_1_code 36 = .ok (.aload_n 0, 1) := by decide +kernel
theorem d_M_init_37 : decode prog_6_method_1_code 37 = .ok (.iconst 3, 1) := by decide +kernel
theorem d_M_init_38 : decode prog_6_method_1_code 38 = .ok (.newarray .int, 2) := by decide +kernel
theorem d_M_init_40 : decode prog_6_method_1_code 40 = .ok (.putfield 23, 3) := by decide +kernel
theorem d_M_init_43 : decode prog_6_method_1_code 43 = .ok (.aload_n 0, 1) := by decide +kernel
theorem d_M_init_44 : decode prog_6_method_1_code 44 = .ok (.iconst 3, 1) := by decide +kernel
theorem d_M_init_45 : decode prog_6_method_1_code 45 = .ok (.newarray .int, 2) := by decide +kernel
theorem d_M_init_47 : decode prog_6_method_1_code 47 = .ok (.putfield 26, 3) := by decide +kernel
theorem d_M_init_50 : decode prog_6_method_1_code 50 = .ok (.aload_n 0, 1) := by decide +kernel
theorem d_M_init_51 : decode prog_6_method_1_code 51 = .ok (.iconst 3, 1) := by decide +kernel
theorem d_M_init_52 : decode prog_6_method_1_code 52 = .ok (.newarray .int, 2) := by decide +kernel
theorem d_M_init_54 : decode prog_6_method_1_code 54 = .ok (.putfield 29, 3) := by decide +kernel
theorem d_M_init_57 : decode prog_6_method_1_code 57 = .ok (.aload_n 0, 1) := by decide +kernel
theorem d_M_init_58 : decode prog_6_method_1_code 58 = .ok (.sipush 480, 3) := by decide +kernel
theorem d_M_init_61 : decode prog_6_method_1_code 61 = .ok (.newarray .int, 2) := by decide +kernel
theorem d_M_init_63 : decode prog_6_method_1_code 63 = .ok (.putfield 32, 3) := by decide +kernel
theorem d_M_init_66 : decode prog_6_method_1_code 66 = .ok (.aload_n 0, 1) := by decide +kernel
theorem d_M_init_67 : decode prog_6_method_1_code 67 = .ok (.iconst 3, 1) := by decide +kernel
theorem d_M_init_68 : decode prog_6_method_1_code 68 = .ok (.newarray .int, 2) := by decide +kernel
theorem d_M_init_70 : decode prog_6_method_1_code 70 = .ok (.putfield 35, 3) := by decide +kernel
theorem d_M_init_73 : decode prog_6_method_1_code 73 = .ok (.aload_n 0, 1) := by decide +kernel
theorem d_M_init_74 : decode prog_6_method_1_code 74 = .ok (.bipush 6, 2) := by decide +kernel
theorem d_M_init_76 : decode prog_6_method_1_code 76 = .ok (.newarray .int, 2) := by decide +kernel
theorem d_M_init_78 : decode prog_6_method_1_code 78 = .ok (.putfield 38, 3) := by decide +kernel
theorem d_M_init_81 : decode prog_6_method_1_code 81 = .ok (.aload_n 0, 1) := by decide +kernel
theorem d_M_init_82 : decode prog_6_method_1_code 82 = .ok (.bipush 6, 2) := by decide +kernel
theorem d_M_init_84 : decode prog_6_method_1_code 84 = .ok (.newarray .int, 2) := by decide +kernel
theorem d_M_init_86 : decode prog_6_method_1_code 86 = .ok (.putfield 41, 3) := by decide +kernel
theorem d_M_init_89 : decode prog_6_method_1_code 89 = .ok (.aload_n 0, 1) := by decide +kernel
theorem d_M_init_90 : decode prog_6_method_1_code 90 = .ok (.bipush 56, 2) := by decide +kernel
theorem d_M_init_92 : decode prog_6_method_1_code 92 = .ok (.newarray .int, 2) := by decide +kernel
theorem d_M_init_94 : decode prog_6_method_1_code 94 = .ok (.putfield 44, 3) := by decide +kernel
theorem d_M_init_97 : decode prog_6_method_1_code 97 = .ok (.aload_n 0, 1) := by decide +kernel
theorem d_M_init_98 : decode prog_6_method_1_code 98 = .ok (.bipush 7, 2) := by decide +kernel
theorem d_M_init_100 : decode prog_6_method_1_code 100 = .ok (.newarray .int, 2) := by decide +kernel
theorem d_M_init_102 : decode prog_6_method_1_code 102 = .ok (.putfield 47, 3) := by decide +kernel
theorem d_M_init_105 : decode prog_6_method_1_code 105 = .ok (.aload_n 0, 1) := by decide +kernel
theorem d_M_init_106 : decode prog_6_method_1_code 106 = .ok (.bipush 6, 2) := by decide +kernel
theorem d_M_init_108 : decode prog_6_method_1_code 108 = .ok (.putfield 50, 3) := by decide +kernel
theorem d_M_init_111 : decode prog_6_method_1_code 111 = .ok (.aload_n 0, 1) := by decide +kernel
theorem d_M_init_112 : decode prog_6_method_1_code 112 = .ok (.iload_n 1, 1) := by decide +kernel
theorem d_M_init_113 : decode prog_6_method_1_code 113 = .ok (.putfield 54, 3) := by decide +kernel
theorem d_M_init_116 : decode prog_6_method_1_code 116 = .ok (.iconst 0, 1) := by decide +kernel
theorem d_M_init_117 : decode prog_6_method_1_code 117 = .ok (.istore_n 2, 1) := by decide +kernel
theorem d_M_init_118 : decode prog_6_method_1_code 118 = .ok (.iload_n 2, 1) := by decide +kernel
theorem d_M_init_119 : decode prog_6_method_1_code 119 = .ok (.bipush 8, 2) := by decide +kernel
theorem d_M_init_121 : decode prog_6_method_1_code 121 = .ok (.if_icmp .ge 16, 3) := by decide +kernel
theorem d_M_init_124 : decode prog_6_method_1_code 124 = .ok (.aload_n 0, 1) := by decide +kernel
theorem d_M_init_125 : decode prog_6_method_1_code 125 = .ok (.getfield 13, 3) := by decide +kernel
theorem d_M_init_128 : decode prog_6_method_1_code 128 = .ok (.iload_n 2, 1) := by decide +kernel
theorem d_M_init_129 : decode prog_6_method_1_code 129 = .ok (.iconst 1, 1) := by decide +kernel
theorem d_M_init_130 : decode prog_6_method_1_code 130 = .ok (.bastore, 1) := by decide +kernel
theorem d_M_init_131 : decode prog_6_method_1_code 131 = .ok (.iinc 2 1, 3) := by decide +kernel
theorem d_M_init_134 : decode prog_6_method_1_code 134 = .ok (.goto (-16), 3) := by decide +kernel
theorem d_M_init_137 : decode prog_6_method_1_code 137 = .ok (.return_, 1) := by decide +kernel
theorem d_M_outside_0 : decode prog_6_method_2_code 0 = .ok (.iload_n 0, 1) := by decide +kernel
theorem d_M_outside_1 : decode prog_6_method_2_code 1 = .ok (.ifCond .lt 8, 3) := by decide +kernel
theorem d_M_outside_4 : decode prog_6_method_2_code 4 = .ok (.iload_n 0, 1) := by decide +kernel
theorem d_M_outside_5 : decode prog_6_method_2_code 5 = .ok (.iload_n 1, 1) := by decide +kernel
theorem d_M_outside_6 : decode prog_6_method_2_code 6 = .ok (.if_icmp .le 7, 3) := by decide +kernel
theorem d_M_outside_9 : decode prog_6_method_2_code 9 = .ok (.iconst 1, 1) := by decide +kernel
theorem d_M_outside_10 : decode prog_6_method_2_code 10 = .ok (.goto 4, 3) := by decide +kernel
theorem d_M_outside_13 : decode prog_6_method_2_code 13 = .ok (.iconst 0, 1) := by decide +kernel
theorem d_M_outside_14 : decode prog_6_method_2_code 14 = .ok (.ireturn, 1) := by decide +kernel
theorem d_M_kind_0 : decode prog_6_method_3_code 0 = .ok (.iconst 0, 1) := by decide +kernel
theorem d_M_kind_1 : decode prog_6_method_3_code 1 = .ok (.istore_n 2, 1) := by decide +kernel
theorem d_M_kind_2 : decode prog_6_method_3_code 2 = .ok (.iload_n 2, 1) := by decide +kernel
theorem d_M_kind_3 : decode prog_6_method_3_code 3 = .ok (.iconst 3, 1) := by decide +kernel
theorem d_M_kind_4 : decode prog_6_method_3_code 4 = .ok (.if_icmp .ge 49, 3) := by decide +kernel
theorem d_M_kind_7 : decode prog_6_method_3_code 7 = .ok (.aload_n 0, 1) := by decide +kernel
theorem d_M_kind_8 : decode prog_6_method_3_code 8 = .ok (.getfield 20, 3) := by decide +kernel
theorem d_M_kind_11 : decode prog_6_method_3_code 11 = .ok (.iload_n 2, 1) := by decide +kernel
theorem d_M_kind_12 : decode prog_6_method_3_code 12 = .ok (.iaload, 1) := by decide +kernel
theorem d_M_kind_13 : decode prog_6_method_3_code 13 = .ok (.ifCond .le 34, 3) := by decide +kernel
theorem d_M_kind_16 : decode prog_6_method_3_code 16 = .ok (.iload_n 1, 1) := by decide +kernel
theorem d_M_kind_17 : decode prog_6_method_3_code 17 = .ok (.aload_n 0, 1) := by decide +kernel
theorem d_M_kind_18 : decode prog_6_method_3_code 18 = .ok (.getfield 23, 3) := by decide +kernel
theorem d_M_kind_21 : decode prog_6_method_3_code 21 = .ok (.iload_n 2, 1) := by decide +kernel
theorem d_M_kind_22 : decode prog_6_method_3_code 22 = .ok (.iaload, 1) := by decide +kernel
theorem d_M_kind_23 : decode prog_6_method_3_code 23 = .ok (.if_icmp .lt 24, 3) := by decide +kernel
theorem d_M_kind_26 : decode prog_6_method_3_code 26 = .ok (.iload_n 1, 1) := by decide +kernel
theorem d_M_kind_27 : decode prog_6_method_3_code 27 = .ok (.aload_n 0, 1) := by decide +kernel
theorem d_M_kind_28 : decode prog_6_method_3_code 28 = .ok (.getfield 23, 3) := by decide +kernel
theorem d_M_kind_31 : decode prog_6_method_3_code 31 = .ok (.iload_n 2, 1) := by decide +kernel
theorem d_M_kind_32 : decode prog_6_method_3_code 32 = .ok (.iaload, 1) := by decide +kernel
theorem d_M_kind_33 : decode prog_6_method_3_code 33 = .ok (.aload_n 0, 1) := by decide +kernel
theorem d_M_kind_34 : decode prog_6_method_3_code 34 = .ok (.getfield 26, 3) := by decide +kernel
theorem d_M_kind_37 : decode prog_6_method_3_code 37 = .ok (.iload_n 2, 1) := by decide +kernel
theorem d_M_kind_38 : decode prog_6_method_3_code 38 = .ok (.iaload, 1) := by decide +kernel
theorem d_M_kind_39 : decode prog_6_method_3_code 39 = .ok (.iadd, 1) := by decide +kernel
theorem d_M_kind_40 : decode prog_6_method_3_code 40 = .ok (.if_icmp .ge 7, 3) := by decide +kernel
theorem d_M_kind_43 : decode prog_6_method_3_code 43 = .ok (.iconst 2, 1) := by decide +kernel
theorem d_M_kind_44 : decode prog_6_method_3_code 44 = .ok (.iload_n 2, 1) := by decide +kernel
theorem d_M_kind_45 : decode prog_6_method_3_code 45 = .ok (.iadd, 1) := by decide +kernel
theorem d_M_kind_46 : decode prog_6_method_3_code 46 = .ok (.ireturn, 1) := by decide +kernel
theorem d_M_kind_47 : decode prog_6_method_3_code 47 = .ok (.iinc 2 1, 3) := by decide +kernel
theorem d_M_kind_50 : decode prog_6_method_3_code 50 = .ok (.goto (-48), 3) := by decide +kernel
theorem d_M_kind_53 : decode prog_6_method_3_code 53 = .ok (.aload_n 0, 1) := by decide +kernel
theorem d_M_kind_54 : decode prog_6_method_3_code 54 = .ok (.getfield 17, 3) := by decide +kernel
theorem d_M_kind_57 : decode prog_6_method_3_code 57 = .ok (.iload_n 1, 1) := by decide +kernel
theorem d_M_kind_58 : decode prog_6_method_3_code 58 = .ok (.iaload, 1) := by decide +kernel
theorem d_M_kind_59 : decode prog_6_method_3_code 59 = .ok (.ifCond .le 12, 3) := by decide +kernel
theorem d_M_kind_62 : decode prog_6_method_3_code 62 = .ok (.iconst 4, 1) := by decide +kernel
theorem d_M_kind_63 : decode prog_6_method_3_code 63 = .ok (.aload_n 0, 1) := by decide +kernel
theorem d_M_kind_64 : decode prog_6_method_3_code 64 = .ok (.getfield 17, 3) := by decide +kernel
theorem d_M_kind_67 : decode prog_6_method_3_code 67 = .ok (.iload_n 1, 1) := by decide +kernel
theorem d_M_kind_68 : decode prog_6_method_3_code 68 = .ok (.iaload, 1) := by decide +kernel
theorem d_M_kind_69 : decode prog_6_method_3_code 69 = .ok (.iadd, 1) := by decide +kernel
theorem d_M_kind_70 : decode prog_6_method_3_code 70 = .ok (.ireturn, 1) := by decide +kernel
theorem d_M_kind_71 : decode prog_6_method_3_code 71 = .ok (.aload_n 0, 1) := by decide +kernel
theorem d_M_kind_72 : decode prog_6_method_3_code 72 = .ok (.getfield 13, 3) := by decide +kernel
theorem d_M_kind_75 : decode prog_6_method_3_code 75 = .ok (.iload_n 1, 1) := by decide +kernel
theorem d_M_kind_76 : decode prog_6_method_3_code 76 = .ok (.baload, 1) := by decide +kernel
theorem d_M_kind_77 : decode prog_6_method_3_code 77 = .ok (.ifCond .eq 7, 3) := by decide +kernel
theorem d_M_kind_80 : decode prog_6_method_3_code 80 = .ok (.iconst 1, 1) := by decide +kernel
theorem d_M_kind_81 : decode prog_6_method_3_code 81 = .ok (.goto 4, 3) := by decide +kernel
theorem d_M_kind_84 : decode prog_6_method_3_code 84 = .ok (.iconst 0, 1) := by decide +kernel
theorem d_M_kind_85 : decode prog_6_method_3_code 85 = .ok (.ireturn, 1) := by decide +kernel
theorem d_M_uses_0 : decode prog_6_method_4_code 0 = .ok (.iload_n 2, 1) := by decide +kernel
theorem d_M_uses_1 : decode prog_6_method_4_code 1 = .ok (.sipush 255, 3) := by decide +kernel
theorem d_M_uses_4 : decode prog_6_method_4_code 4 = .ok (.invokestatic 57, 3) := by decide +kernel
theorem d_M_uses_7 : decode prog_6_method_4_code 7 = .ok (.ifCond .eq 5, 3) := by decide +kernel
theorem d_M_uses_10 : decode prog_6_method_4_code 10 = .ok (.iconst 0, 1) := by decide +kernel
theorem d_M_uses_11 : decode prog_6_method_4_code 11 = .ok (.ireturn, 1) := by decide +kernel
theorem d_M_uses_12 : decode prog_6_method_4_code 12 = .ok (.aload_n 0, 1) := by decide +kernel
theorem d_M_uses_13 : decode prog_6_method_4_code 13 = .ok (.iload_n 2, 1) := by decide +kernel
theorem d_M_uses_14 : decode prog_6_method_4_code 14 = .ok (.bipush 16, 2) := by decide +kernel
theorem d_M_uses_16 : decode prog_6_method_4_code 16 = .ok (.idiv, 1) := by decide +kernel
theorem d_M_uses_17 : decode prog_6_method_4_code 17 = .ok (.invokevirtual 61, 3) := by decide +kernel
theorem d_M_uses_20 : decode prog_6_method_4_code 20 = .ok (.istore_n 3, 1) := by decide +kernel
theorem d_M_uses_21 : decode prog_6_method_4_code 21 = .ok (.iload_n 1, 1) := by decide +kernel
theorem d_M_uses_22 : decode prog_6_method_4_code 22 = .ok (.bipush 6, 2) := by decide +kernel
theorem d_M_uses_24 : decode prog_6_method_4_code 24 = .ok (.if_icmp .ne 21, 3) := by decide +kernel
theorem d_M_uses_27 : decode prog_6_method_4_code 27 = .ok (.iload_n 3, 1) := by decide +kernel
theorem d_M_uses_28 : decode prog_6_method_4_code 28 = .ok (.iconst 1, 1) := by decide +kernel
theorem d_M_uses_29 : decode prog_6_method_4_code 29 = .ok (.if_icmp .eq 8, 3) := by decide +kernel
theorem d_M_uses_32 : decode prog_6_method_4_code 32 = .ok (.iload_n 3, 1) := by decide +kernel
theorem d_M_uses_33 : decode prog_6_method_4_code 33 = .ok (.iconst 5, 1) := by decide +kernel
theorem d_M_uses_34 : decode prog_6_method_4_code 34 = .ok (.if_icmp .lt 7, 3) := by decide +kernel
theorem d_M_uses_37 : decode prog_6_method_4_code 37 = .ok (.iconst 1, 1) := by decide +kernel
theorem d_M_uses_38 : decode prog_6_method_4_code 38 = .ok (.goto 30, 3) := by decide +kernel
theorem d_M_uses_41 : decode prog_6_method_4_code 41 = .ok (.iconst 0, 1) := by decide +kernel
theorem d_M_uses_42 : decode prog_6_method_4_code 42 = .ok (.goto 26, 3) := by decide +kernel
theorem d_M_uses_45 : decode prog_6_method_4_code 45 = .ok (.iload_n 3, 1) := by decide +kernel
theorem d_M_uses_46 : decode prog_6_method_4_code 46 = .ok (.iconst 2, 1) := by decide +kernel
theorem d_M_uses_47 : decode prog_6_method_4_code 47 = .ok (.iload_n 1, 1) := by decide +kernel
theorem d_M_uses_48 : decode prog_6_method_4_code 48 = .ok (.iconst 2, 1) := by decide +kernel
theorem d_M_uses_49 : decode prog_6_method_4_code 49 = .ok (.idiv, 1) := by decide +kernel
theorem d_M_uses_50 : decode prog_6_method_4_code 50 = .ok (.iadd, 1) := by decide +kernel
theorem d_M_uses_51 : decode prog_6_method_4_code 51 = .ok (.if_icmp .eq 12, 3) := by decide +kernel
theorem d_M_uses_54 : decode prog_6_method_4_code 54 = .ok (.iload_n 3, 1) := by decide +kernel
theorem d_M_uses_55 : decode prog_6_method_4_code 55 = .ok (.iconst 5, 1) := by decide +kernel
theorem d_M_uses_56 : decode prog_6_method_4_code 56 = .ok (.iload_n 1, 1) := by decide +kernel
theorem d_M_uses_57 : decode prog_6_method_4_code 57 = .ok (.iconst 2, 1) := by decide +kernel
theorem d_M_uses_58 : decode prog_6_method_4_code 58 = .ok (.idiv, 1) := by decide +kernel
theorem d_M_uses_59 : decode prog_6_method_4_code 59 = .ok (.iadd, 1) := by decide +kernel
theorem d_M_uses_60 : decode prog_6_method_4_code 60 = .ok (.if_icmp .ne 7, 3) := by decide +kernel
theorem d_M_uses_63 : decode prog_6_method_4_code 63 = .ok (.iconst 1, 1) := by decide +kernel
theorem d_M_uses_64 : decode prog_6_method_4_code 64 = .ok (.goto 4, 3) := by decide +kernel
theorem d_M_uses_67 : decode prog_6_method_4_code 67 = .ok (.iconst 0, 1) := by decide +kernel
theorem d_M_uses_68 : decode prog_6_method_4_code 68 = .ok (.ireturn, 1) := by decide +kernel
theorem d_M_mix_0 : decode prog_6_method_5_code 0 = .ok (.iload_n 0, 1) := by decide +kernel
theorem d_M_mix_1 : decode prog_6_method_5_code 1 = .ok (.iload_n 1, 1) := by decide +kernel
theorem d_M_mix_2 : decode prog_6_method_5_code 2 = .ok (.ixor, 1) := by decide +kernel
theorem d_M_mix_3 : decode prog_6_method_5_code 3 = .ok (.ldc 65, 2) := by decide +kernel
theorem d_M_mix_5 : decode prog_6_method_5_code 5 = .ok (.imul, 1) := by decide +kernel
theorem d_M_mix_6 : decode prog_6_method_5_code 6 = .ok (.istore_n 2, 1) := by decide +kernel
theorem d_M_mix_7 : decode prog_6_method_5_code 7 = .ok (.iload_n 2, 1) := by decide +kernel
theorem d_M_mix_8 : decode prog_6_method_5_code 8 = .ok (.iload_n 2, 1) := by decide +kernel
theorem d_M_mix_9 : decode prog_6_method_5_code 9 = .ok (.bipush 15, 2) := by decide +kernel
theorem d_M_mix_11 : decode prog_6_method_5_code 11 = .ok (.iushr, 1) := by decide +kernel
theorem d_M_mix_12 : decode prog_6_method_5_code 12 = .ok (.ixor, 1) := by decide +kernel
theorem d_M_mix_13 : decode prog_6_method_5_code 13 = .ok (.ireturn, 1) := by decide +kernel
theorem d_M_mac_0 : decode prog_6_method_6_code 0 = .ok (.aload_n 0, 1) := by decide +kernel
theorem d_M_mac_1 : decode prog_6_method_6_code 1 = .ok (.getfield 54, 3) := by decide +kernel
theorem d_M_mac_4 : decode prog_6_method_6_code 4 = .ok (.iload_n 1, 1) := by decide +kernel
theorem d_M_mac_5 : decode prog_6_method_6_code 5 = .ok (.invokestatic 66, 3) := by decide +kernel
theorem d_M_mac_8 : decode prog_6_method_6_code 8 = .ok (.istore_n 3, 1) := by decide +kernel
theorem d_M_mac_9 : decode prog_6_method_6_code 9 = .ok (.iload_n 3, 1) := by decide +kernel
theorem d_M_mac_10 : decode prog_6_method_6_code 10 = .ok (.iload_n 2, 1) := by decide +kernel
theorem d_M_mac_11 : decode prog_6_method_6_code 11 = .ok (.invokestatic 66, 3) := by decide +kernel
theorem d_M_mac_14 : decode prog_6_method_6_code 14 = .ok (.istore_n 3, 1) := by decide +kernel
theorem d_M_mac_15 : decode prog_6_method_6_code 15 = .ok (.iload_n 3, 1) := by decide +kernel
theorem d_M_mac_16 : decode prog_6_method_6_code 16 = .ok (.aload_n 0, 1) := by decide +kernel
theorem d_M_mac_17 : decode prog_6_method_6_code 17 = .ok (.getfield 54, 3) := by decide +kernel
theorem d_M_mac_20 : decode prog_6_method_6_code 20 = .ok (.invokestatic 66, 3) := by decide +kernel
theorem d_M_mac_23 : decode prog_6_method_6_code 23 = .ok (.ireturn, 1) := by decide +kernel
theorem d_M_add_0 : decode prog_6_method_7_code 0 = .ok (.aload_n 0, 1) := by decide +kernel
theorem d_M_add_1 : decode prog_6_method_7_code 1 = .ok (.getfield 32, 3) := by decide +kernel
theorem d_M_add_4 : decode prog_6_method_7_code 4 = .ok (.sipush 160, 3) := by decide +kernel
theorem d_M_add_7 : decode prog_6_method_7_code 7 = .ok (.iload_n 1, 1) := by decide +kernel
theorem d_M_add_8 : decode prog_6_method_7_code 8 = .ok (.imul, 1) := by decide +kernel
theorem d_M_add_9 : decode prog_6_method_7_code 9 = .ok (.aload_n 0, 1) := by decide +kernel
theorem d_M_add_10 : decode prog_6_method_7_code 10 = .ok (.getfield 35, 3) := by decide +kernel
theorem d_M_add_13 : decode prog_6_method_7_code 13 = .ok (.iload_n 1, 1) := by decide +kernel
theorem d_M_add_14 : decode prog_6_method_7_code 14 = .ok (.iaload, 1) := by decide +kernel
theorem d_M_add_15 : decode prog_6_method_7_code 15 = .ok (.iadd, 1) := by decide +kernel
theorem d_M_add_16 : decode prog_6_method_7_code 16 = .ok (.iload_n 2, 1) := by decide +kernel
theorem d_M_add_17 : decode prog_6_method_7_code 17 = .ok (.iastore, 1) := by decide +kernel
theorem d_M_add_18 : decode prog_6_method_7_code 18 = .ok (.aload_n 0, 1) := by decide +kernel
theorem d_M_add_19 : decode prog_6_method_7_code 19 = .ok (.getfield 35, 3) := by decide +kernel
theorem d_M_add_22 : decode prog_6_method_7_code 22 = .ok (.iload_n 1, 1) := by decide +kernel
theorem d_M_add_23 : decode prog_6_method_7_code 23 = .ok (.dup2, 1) := by decide +kernel
theorem d_M_add_24 : decode prog_6_method_7_code 24 = .ok (.iaload, 1) := by decide +kernel
theorem d_M_add_25 : decode prog_6_method_7_code 25 = .ok (.iconst 1, 1) := by decide +kernel
theorem d_M_add_26 : decode prog_6_method_7_code 26 = .ok (.iadd, 1) := by decide +kernel
theorem d_M_add_27 : decode prog_6_method_7_code 27 = .ok (.iastore, 1) := by decide +kernel
theorem d_M_add_28 : decode prog_6_method_7_code 28 = .ok (.return_, 1) := by decide +kernel
theorem d_M_measured_0 : decode prog_6_method_8_code 0 = .ok (.iconst 0, 1) := by decide +kernel
theorem d_M_measured_1 : decode prog_6_method_8_code 1 = .ok (.istore_n 2, 1) := by decide +kernel
theorem d_M_measured_2 : decode prog_6_method_8_code 2 = .ok (.iconst 0, 1) := by decide +kernel
theorem d_M_measured_3 : decode prog_6_method_8_code 3 = .ok (.istore_n 3, 1) := by decide +kernel
theorem d_M_measured_4 : decode prog_6_method_8_code 4 = .ok (.iload_n 3, 1) := by decide +kernel
theorem d_M_measured_5 : decode prog_6_method_8_code 5 = .ok (.aload_n 0, 1) := by decide +kernel
theorem d_M_measured_6 : decode prog_6_method_8_code 6 = .ok (.getfield 35, 3) := by decide +kernel
theorem d_M_measured_9 : decode prog_6_method_8_code 9 = .ok (.iload_n 1, 1) := by decide +kernel
theorem d_M_measured_10 : decode prog_6_method_8_code 10 = .ok (.iaload, 1) := by decide +kernel
theorem d_M_measured_11 : decode prog_6_method_8_code 11 = .ok (.if_icmp .ge 26, 3) := by decide +kernel
theorem d_M_measured_14 : decode prog_6_method_8_code 14 = .ok (.iload_n 2, 1) := by decide +kernel
theorem d_M_measured_15 : decode prog_6_method_8_code 15 = .ok (.aload_n 0, 1) := by decide +kernel
theorem d_M_measured_16 : decode prog_6_method_8_code 16 = .ok (.getfield 32, 3) := by decide +kernel
theorem d_M_measured_19 : decode prog_6_method_8_code 19 = .ok (.sipush 160, 3) := by decide +kernel
theorem d_M_measured_22 : decode prog_6_method_8_code 22 = .ok (.iload_n 1, 1) := by decide +kernel
theorem d_M_measured_23 : decode prog_6_method_8_code 23 = .ok (.imul, 1) := by decide +kernel
theorem d_M_measured_24 : decode prog_6_method_8_code 24 = .ok (.iload_n 3, 1) := by decide +kernel
theorem d_M_measured_25 : decode prog_6_method_8_code 25 = .ok (.iadd, 1) := by decide +kernel
theorem d_M_measured_26 : decode prog_6_method_8_code 26 = .ok (.iaload, 1) := by decide +kernel
theorem d_M_measured_27 : decode prog_6_method_8_code 27 = .ok (.invokestatic 66, 3) := by decide +kernel
theorem d_M_measured_30 : decode prog_6_method_8_code 30 = .ok (.istore_n 2, 1) := by decide +kernel
theorem d_M_measured_31 : decode prog_6_method_8_code 31 = .ok (.iinc 3 1, 3) := by decide +kernel
theorem d_M_measured_34 : decode prog_6_method_8_code 34 = .ok (.goto (-30), 3) := by decide +kernel
theorem d_M_measured_37 : decode prog_6_method_8_code 37 = .ok (.iload_n 2, 1) := by decide +kernel
theorem d_M_measured_38 : decode prog_6_method_8_code 38 = .ok (.ireturn, 1) := by decide +kernel
theorem d_M_bad_0 : decode prog_6_method_9_code 0 = .ok (.iload_n 0, 1) := by decide +kernel
theorem d_M_bad_1 : decode prog_6_method_9_code 1 = .ok (.iconst 1, 1) := by decide +kernel
theorem d_M_bad_2 : decode prog_6_method_9_code 2 = .ok (.if_icmp .ne 39, 3) := by decide +kernel
theorem d_M_bad_5 : decode prog_6_method_9_code 5 = .ok (.iload_n 1, 1) := by decide +kernel
theorem d_M_bad_6 : decode prog_6_method_9_code 6 = .ok (.bipush 15, 2) := by decide +kernel
theorem d_M_bad_8 : decode prog_6_method_9_code 8 = .ok (.invokestatic 57, 3) := by decide +kernel
theorem d_M_bad_11 : decode prog_6_method_9_code 11 = .ok (.ifCond .ne 24, 3) := by decide +kernel
theorem d_M_bad_14 : decode prog_6_method_9_code 14 = .ok (.iload_n 2, 1) := by decide +kernel
theorem d_M_bad_15 : decode prog_6_method_9_code 15 = .ok (.iconst 1, 1) := by decide +kernel
theorem d_M_bad_16 : decode prog_6_method_9_code 16 = .ok (.if_icmp .eq 13, 3) := by decide +kernel
theorem d_M_bad_19 : decode prog_6_method_9_code 19 = .ok (.iload_n 2, 1) := by decide +kernel
theorem d_M_bad_20 : decode prog_6_method_9_code 20 = .ok (.iconst 2, 1) := by decide +kernel
theorem d_M_bad_21 : decode prog_6_method_9_code 21 = .ok (.if_icmp .eq 8, 3) := by decide +kernel
theorem d_M_bad_24 : decode prog_6_method_9_code 24 = .ok (.iload_n 2, 1) := by decide +kernel
theorem d_M_bad_25 : decode prog_6_method_9_code 25 = .ok (.iconst 4, 1) := by decide +kernel
theorem d_M_bad_26 : decode prog_6_method_9_code 26 = .ok (.if_icmp .ne 9, 3) := by decide +kernel
theorem d_M_bad_29 : decode prog_6_method_9_code 29 = .ok (.iload_n 1, 1) := by decide +kernel
theorem d_M_bad_30 : decode prog_6_method_9_code 30 = .ok (.iload_n 2, 1) := by decide +kernel
theorem d_M_bad_31 : decode prog_6_method_9_code 31 = .ok (.irem, 1) := by decide +kernel
theorem d_M_bad_32 : decode prog_6_method_9_code 32 = .ok (.ifCond .eq 7, 3) := by decide +kernel
theorem d_M_bad_35 : decode prog_6_method_9_code 35 = .ok (.iconst 1, 1) := by decide +kernel
theorem d_M_bad_36 : decode prog_6_method_9_code 36 = .ok (.goto 4, 3) := by decide +kernel
theorem d_M_bad_39 : decode prog_6_method_9_code 39 = .ok (.iconst 0, 1) := by decide +kernel
theorem d_M_bad_40 : decode prog_6_method_9_code 40 = .ok (.ireturn, 1) := by decide +kernel
theorem d_M_bad_41 : decode prog_6_method_9_code 41 = .ok (.iload_n 0, 1) := by decide +kernel
theorem d_M_bad_42 : decode prog_6_method_9_code 42 = .ok (.bipush 10, 2) := by decide +kernel
theorem d_M_bad_44 : decode prog_6_method_9_code 44 = .ok (.if_icmp .lt 10, 3) := by decide +kernel
theorem d_M_bad_47 : decode prog_6_method_9_code 47 = .ok (.iload_n 1, 1) := by decide +kernel
theorem d_M_bad_48 : decode prog_6_method_9_code 48 = .ok (.bipush 15, 2) := by decide +kernel
theorem d_M_bad_50 : decode prog_6_method_9_code 50 = .ok (.invokestatic 57, 3) := by decide +kernel
theorem d_M_bad_53 : decode prog_6_method_9_code 53 = .ok (.ireturn, 1) := by decide +kernel
theorem d_M_bad_54 : decode prog_6_method_9_code 54 = .ok (.iload_n 1, 1) := by decide +kernel
theorem d_M_bad_55 : decode prog_6_method_9_code 55 = .ok (.iconst 2, 1) := by decide +kernel
theorem d_M_bad_56 : decode prog_6_method_9_code 56 = .ok (.invokestatic 57, 3) := by decide +kernel
theorem d_M_bad_59 : decode prog_6_method_9_code 59 = .ok (.ifCond .eq 5, 3) := by decide +kernel
theorem d_M_bad_62 : decode prog_6_method_9_code 62 = .ok (.iconst 1, 1) := by decide +kernel
theorem d_M_bad_63 : decode prog_6_method_9_code 63 = .ok (.ireturn, 1) := by decide +kernel
theorem d_M_bad_64 : decode prog_6_method_9_code 64 = .ok (.iload_n 0, 1) := by decide +kernel
theorem d_M_bad_65 : decode prog_6_method_9_code 65 = .ok (.iconst 2, 1) := by decide +kernel
theorem d_M_bad_66 : decode prog_6_method_9_code 66 = .ok (.if_icmp .ne 27, 3) := by decide +kernel
theorem d_M_bad_69 : decode prog_6_method_9_code 69 = .ok (.iload_n 2, 1) := by decide +kernel
theorem d_M_bad_70 : decode prog_6_method_9_code 70 = .ok (.bipush 15, 2) := by decide +kernel
theorem d_M_bad_72 : decode prog_6_method_9_code 72 = .ok (.invokestatic 57, 3) := by decide +kernel
theorem d_M_bad_75 : decode prog_6_method_9_code 75 = .ok (.ifCond .ne 12, 3) := by decide +kernel
theorem d_M_bad_78 : decode prog_6_method_9_code 78 = .ok (.iload_n 3, 1) := by decide +kernel
theorem d_M_bad_79 : decode prog_6_method_9_code 79 = .ok (.bipush 15, 2) := by decide +kernel
theorem d_M_bad_81 : decode prog_6_method_9_code 81 = .ok (.invokestatic 57, 3) := by decide +kernel
theorem d_M_bad_84 : decode prog_6_method_9_code 84 = .ok (.ifCond .eq 7, 3) := by decide +kernel
theorem d_M_bad_87 : decode prog_6_method_9_code 87 = .ok (.iconst 1, 1) := by decide +kernel
theorem d_M_bad_88 : decode prog_6_method_9_code 88 = .ok (.goto 4, 3) := by decide +kernel
theorem d_M_bad_91 : decode prog_6_method_9_code 91 = .ok (.iconst 0, 1) := by decide +kernel
theorem d_M_bad_92 : decode prog_6_method_9_code 92 = .ok (.ireturn, 1) := by decide +kernel
theorem d_M_bad_93 : decode prog_6_method_9_code 93 = .ok (.iload_n 0, 1) := by decide +kernel
theorem d_M_bad_94 : decode prog_6_method_9_code 94 = .ok (.iconst 3, 1) := by decide +kernel
theorem d_M_bad_95 : decode prog_6_method_9_code 95 = .ok (.if_icmp .ne 13, 3) := by decide +kernel
theorem d_M_bad_98 : decode prog_6_method_9_code 98 = .ok (.iload_n 2, 1) := by decide +kernel
theorem d_M_bad_99 : decode prog_6_method_9_code 99 = .ok (.sipush 255, 3) := by decide +kernel
theorem d_M_bad_102 : decode prog_6_method_9_code 102 = .ok (.invokestatic 57, 3) := by decide +kernel
theorem d_M_bad_105 : decode prog_6_method_9_code 105 = .ok (.ifCond .ne 37, 3) := by decide +kernel
theorem d_M_bad_108 : decode prog_6_method_9_code 108 = .ok (.iload_n 0, 1) := by decide +kernel
theorem d_M_bad_109 : decode prog_6_method_9_code 109 = .ok (.iconst 5, 1) := by decide +kernel
theorem d_M_bad_110 : decode prog_6_method_9_code 110 = .ok (.if_icmp .ne 12, 3) := by decide +kernel
theorem d_M_bad_113 : decode prog_6_method_9_code 113 = .ok (.iload_n 2, 1) := by decide +kernel
theorem d_M_bad_114 : decode prog_6_method_9_code 114 = .ok (.bipush 15, 2) := by decide +kernel
theorem d_M_bad_116 : decode prog_6_method_9_code 116 = .ok (.invokestatic 57, 3) := by decide +kernel
theorem d_M_bad_119 : decode prog_6_method_9_code 119 = .ok (.ifCond .ne 23, 3) := by decide +kernel
theorem d_M_bad_122 : decode prog_6_method_9_code 122 = .ok (.iload_n 0, 1) := by decide +kernel
theorem d_M_bad_123 : decode prog_6_method_9_code 123 = .ok (.bipush 6, 2) := by decide +kernel
theorem d_M_bad_125 : decode prog_6_method_9_code 125 = .ok (.if_icmp .eq 9, 3) := by decide +kernel
theorem d_M_bad_128 : decode prog_6_method_9_code 128 = .ok (.iload_n 0, 1) := by decide +kernel
theorem d_M_bad_129 : decode prog_6_method_9_code 129 = .ok (.bipush 7, 2) := by decide +kernel
theorem d_M_bad_131 : decode prog_6_method_9_code 131 = .ok (.if_icmp .ne 15, 3) := by decide +kernel
theorem d_M_bad_134 : decode prog_6_method_9_code 134 = .ok (.iload_n 2, 1) := by decide +kernel
theorem d_M_bad_135 : decode prog_6_method_9_code 135 = .ok (.iconst 1, 1) := by decide +kernel
theorem d_M_bad_136 : decode prog_6_method_9_code 136 = .ok (.invokestatic 57, 3) := by decide +kernel
theorem d_M_bad_139 : decode prog_6_method_9_code 139 = .ok (.ifCond .eq 7, 3) := by decide +kernel
theorem d_M_bad_142 : decode prog_6_method_9_code 142 = .ok (.iconst 1, 1) := by decide +kernel
theorem d_M_bad_143 : decode prog_6_method_9_code 143 = .ok (.goto 4, 3) := by decide +kernel
theorem d_M_bad_146 : decode prog_6_method_9_code 146 = .ok (.iconst 0, 1) := by decide +kernel
theorem d_M_bad_147 : decode prog_6_method_9_code 147 = .ok (.ireturn, 1) := by decide +kernel
theorem d_M_wrongState_0 : decode prog_6_method_10_code 0 = .ok (.iload_n 1, 1) := by decide +kernel
theorem d_M_wrongState_1 : decode prog_6_method_10_code 1 = .ok (.tableswitch 206 2 9 #[47, 47, 63, 90, 105, 135, 165, 181], 47) := by decide +kernel
theorem d_M_wrongState_48 : decode prog_6_method_10_code 48 = .ok (.aload_n 0, 1) := by decide +kernel
theorem d_M_wrongState_49 : decode prog_6_method_10_code 49 = .ok (.getfield 20, 3) := by decide +kernel
theorem d_M_wrongState_52 : decode prog_6_method_10_code 52 = .ok (.iload_n 2, 1) := by decide +kernel
theorem d_M_wrongState_53 : decode prog_6_method_10_code 53 = .ok (.iaload, 1) := by decide +kernel
theorem d_M_wrongState_54 : decode prog_6_method_10_code 54 = .ok (.iconst 1, 1) := by decide +kernel
theorem d_M_wrongState_55 : decode prog_6_method_10_code 55 = .ok (.if_icmp .eq 7, 3) := by decide +kernel
theorem d_M_wrongState_58 : decode prog_6_method_10_code 58 = .ok (.iconst 1, 1) := by decide +kernel
theorem d_M_wrongState_59 : decode prog_6_method_10_code 59 = .ok (.goto 4, 3) := by decide +kernel
theorem d_M_wrongState_62 : decode prog_6_method_10_code 62 = .ok (.iconst 0, 1) := by decide +kernel
theorem d_M_wrongState_63 : decode prog_6_method_10_code 63 = .ok (.ireturn, 1) := by decide +kernel
theorem d_M_wrongState_64 : decode prog_6_method_10_code 64 = .ok (.aload_n 0, 1) := by decide +kernel
theorem d_M_wrongState_65 : decode prog_6_method_10_code 65 = .ok (.getfield 20, 3) := by decide +kernel
theorem d_M_wrongState_68 : decode prog_6_method_10_code 68 = .ok (.iload_n 2, 1) := by decide +kernel
theorem d_M_wrongState_69 : decode prog_6_method_10_code 69 = .ok (.iaload, 1) := by decide +kernel
theorem d_M_wrongState_70 : decode prog_6_method_10_code 70 = .ok (.iconst 1, 1) := by decide +kernel
theorem d_M_wrongState_71 : decode prog_6_method_10_code 71 = .ok (.if_icmp .ne 14, 3) := by decide +kernel
theorem d_M_wrongState_74 : decode prog_6_method_10_code 74 = .ok (.aload_n 0, 1) := by decide +kernel
theorem d_M_wrongState_75 : decode prog_6_method_10_code 75 = .ok (.getfield 38, 3) := by decide +kernel
theorem d_M_wrongState_78 : decode prog_6_method_10_code 78 = .ok (.iconst 2, 1) := by decide +kernel
theorem d_M_wrongState_79 : decode prog_6_method_10_code 79 = .ok (.iload_n 2, 1) := by decide +kernel
theorem d_M_wrongState_80 : decode prog_6_method_10_code 80 = .ok (.imul, 1) := by decide +kernel
theorem d_M_wrongState_81 : decode prog_6_method_10_code 81 = .ok (.iaload, 1) := by decide +kernel
theorem d_M_wrongState_82 : decode prog_6_method_10_code 82 = .ok (.ifCond .ne 7, 3) := by decide +kernel
theorem d_M_wrongState_85 : decode prog_6_method_10_code 85 = .ok (.iconst 1, 1) := by decide +kernel
theorem d_M_wrongState_86 : decode prog_6_method_10_code 86 = .ok (.goto 4, 3) := by decide +kernel
theorem d_M_wrongState_89 : decode prog_6_method_10_code 89 = .ok (.iconst 0, 1) := by decide +kernel
theorem d_M_wrongState_90 : decode prog_6_method_10_code 90 = .ok (.ireturn, 1) := by decide +kernel
theorem d_M_wrongState_91 : decode prog_6_method_10_code 91 = .ok (.aload_n 0, 1) := by decide +kernel
theorem d_M_wrongState_92 : decode prog_6_method_10_code 92 = .ok (.getfield 20, 3) := by decide +kernel
theorem d_M_wrongState_95 : decode prog_6_method_10_code 95 = .ok (.iload_n 2, 1) := by decide +kernel
theorem d_M_wrongState_96 : decode prog_6_method_10_code 96 = .ok (.iaload, 1) := by decide +kernel
theorem d_M_wrongState_97 : decode prog_6_method_10_code 97 = .ok (.ifCond .ne 7, 3) := by decide +kernel
theorem d_M_wrongState_100 : decode prog_6_method_10_code 100 = .ok (.iconst 1, 1) := by decide +kernel
theorem d_M_wrongState_101 : decode prog_6_method_10_code 101 = .ok (.goto 4, 3) := by decide +kernel
theorem d_M_wrongState_104 : decode prog_6_method_10_code 104 = .ok (.iconst 0, 1) := by decide +kernel
theorem d_M_wrongState_105 : decode prog_6_method_10_code 105 = .ok (.ireturn, 1) := by decide +kernel
theorem d_M_wrongState_106 : decode prog_6_method_10_code 106 = .ok (.aload_n 0, 1) := by decide +kernel
theorem d_M_wrongState_107 : decode prog_6_method_10_code 107 = .ok (.getfield 20, 3) := by decide +kernel
theorem d_M_wrongState_110 : decode prog_6_method_10_code 110 = .ok (.iload_n 2, 1) := by decide +kernel
theorem d_M_wrongState_111 : decode prog_6_method_10_code 111 = .ok (.iaload, 1) := by decide +kernel
theorem d_M_wrongState_112 : decode prog_6_method_10_code 112 = .ok (.iconst 2, 1) := by decide +kernel
theorem d_M_wrongState_113 : decode prog_6_method_10_code 113 = .ok (.if_icmp .ne 17, 3) := by decide +kernel
theorem d_M_wrongState_116 : decode prog_6_method_10_code 116 = .ok (.aload_n 0, 1) := by decide +kernel
theorem d_M_wrongState_117 : decode prog_6_method_10_code 117 = .ok (.getfield 38, 3) := by decide +kernel
theorem d_M_wrongState_120 : decode prog_6_method_10_code 120 = .ok (.iconst 2, 1) := by decide +kernel
theorem d_M_wrongState_121 : decode prog_6_method_10_code 121 = .ok (.iload_n 2, 1) := by decide +kernel
theorem d_M_wrongState_122 : decode prog_6_method_10_code 122 = .ok (.imul, 1) := by decide +kernel
theorem d_M_wrongState_123 : decode prog_6_method_10_code 123 = .ok (.iload_n 3, 1) := by decide +kernel
theorem d_M_wrongState_124 : decode prog_6_method_10_code 124 = .ok (.iadd, 1) := by decide +kernel
theorem d_M_wrongState_125 : decode prog_6_method_10_code 125 = .ok (.iaload, 1) := by decide +kernel
theorem d_M_wrongState_126 : decode prog_6_method_10_code 126 = .ok (.iconst 1, 1) := by decide +kernel
theorem d_M_wrongState_127 : decode prog_6_method_10_code 127 = .ok (.if_icmp .eq 7, 3) := by decide +kernel
theorem d_M_wrongState_130 : decode prog_6_method_10_code 130 = .ok (.iconst 1, 1) := by decide +kernel
theorem d_M_wrongState_131 : decode prog_6_method_10_code 131 = .ok (.goto 4, 3) := by decide +kernel
theorem d_M_wrongState_134 : decode prog_6_method_10_code 134 = .ok (.iconst 0, 1) := by decide +kernel
theorem d_M_wrongState_135 : decode prog_6_method_10_code 135 = .ok (.ireturn, 1) := by decide +kernel
theorem d_M_wrongState_136 : decode prog_6_method_10_code 136 = .ok (.aload_n 0, 1) := by decide +kernel
theorem d_M_wrongState_137 : decode prog_6_method_10_code 137 = .ok (.getfield 20, 3) := by decide +kernel
theorem d_M_wrongState_140 : decode prog_6_method_10_code 140 = .ok (.iload_n 2, 1) := by decide +kernel
theorem d_M_wrongState_141 : decode prog_6_method_10_code 141 = .ok (.iaload, 1) := by decide +kernel
theorem d_M_wrongState_142 : decode prog_6_method_10_code 142 = .ok (.iconst 2, 1) := by decide +kernel
theorem d_M_wrongState_143 : decode prog_6_method_10_code 143 = .ok (.if_icmp .ne 17, 3) := by decide +kernel
theorem d_M_wrongState_146 : decode prog_6_method_10_code 146 = .ok (.aload_n 0, 1) := by decide +kernel
theorem d_M_wrongState_147 : decode prog_6_method_10_code 147 = .ok (.getfield 38, 3) := by decide +kernel
theorem d_M_wrongState_150 : decode prog_6_method_10_code 150 = .ok (.iconst 2, 1) := by decide +kernel
theorem d_M_wrongState_151 : decode prog_6_method_10_code 151 = .ok (.iload_n 2, 1) := by decide +kernel
theorem d_M_wrongState_152 : decode prog_6_method_10_code 152 = .ok (.imul, 1) := by decide +kernel
theorem d_M_wrongState_153 : decode prog_6_method_10_code 153 = .ok (.iload_n 3, 1) := by decide +kernel
theorem d_M_wrongState_154 : decode prog_6_method_10_code 154 = .ok (.iadd, 1) := by decide +kernel
theorem d_M_wrongState_155 : decode prog_6_method_10_code 155 = .ok (.iaload, 1) := by decide +kernel
theorem d_M_wrongState_156 : decode prog_6_method_10_code 156 = .ok (.iconst 3, 1) := by decide +kernel
theorem d_M_wrongState_157 : decode prog_6_method_10_code 157 = .ok (.if_icmp .eq 7, 3) := by decide +kernel
theorem d_M_wrongState_160 : decode prog_6_method_10_code 160 = .ok (.iconst 1, 1) := by decide +kernel
theorem d_M_wrongState_161 : decode prog_6_method_10_code 161 = .ok (.goto 4, 3) := by decide +kernel
theorem d_M_wrongState_164 : decode prog_6_method_10_code 164 = .ok (.iconst 0, 1) := by decide +kernel
theorem d_M_wrongState_165 : decode prog_6_method_10_code 165 = .ok (.ireturn, 1) := by decide +kernel
theorem d_M_wrongState_166 : decode prog_6_method_10_code 166 = .ok (.aload_n 0, 1) := by decide +kernel
theorem d_M_wrongState_167 : decode prog_6_method_10_code 167 = .ok (.getfield 20, 3) := by decide +kernel
theorem d_M_wrongState_170 : decode prog_6_method_10_code 170 = .ok (.iload_n 2, 1) := by decide +kernel
theorem d_M_wrongState_171 : decode prog_6_method_10_code 171 = .ok (.iaload, 1) := by decide +kernel
theorem d_M_wrongState_172 : decode prog_6_method_10_code 172 = .ok (.iconst 2, 1) := by decide +kernel
theorem d_M_wrongState_173 : decode prog_6_method_10_code 173 = .ok (.if_icmp .eq 7, 3) := by decide +kernel
theorem d_M_wrongState_176 : decode prog_6_method_10_code 176 = .ok (.iconst 1, 1) := by decide +kernel
theorem d_M_wrongState_177 : decode prog_6_method_10_code 177 = .ok (.goto 4, 3) := by decide +kernel
theorem d_M_wrongState_180 : decode prog_6_method_10_code 180 = .ok (.iconst 0, 1) := by decide +kernel
theorem d_M_wrongState_181 : decode prog_6_method_10_code 181 = .ok (.ireturn, 1) := by decide +kernel
theorem d_M_wrongState_182 : decode prog_6_method_10_code 182 = .ok (.aload_n 0, 1) := by decide +kernel
theorem d_M_wrongState_183 : decode prog_6_method_10_code 183 = .ok (.getfield 20, 3) := by decide +kernel
theorem d_M_wrongState_186 : decode prog_6_method_10_code 186 = .ok (.iload_n 2, 1) := by decide +kernel
theorem d_M_wrongState_187 : decode prog_6_method_10_code 187 = .ok (.iaload, 1) := by decide +kernel
theorem d_M_wrongState_188 : decode prog_6_method_10_code 188 = .ok (.ifCond .eq 13, 3) := by decide +kernel
theorem d_M_wrongState_191 : decode prog_6_method_10_code 191 = .ok (.aload_n 0, 1) := by decide +kernel
theorem d_M_wrongState_192 : decode prog_6_method_10_code 192 = .ok (.getfield 20, 3) := by decide +kernel
theorem d_M_wrongState_195 : decode prog_6_method_10_code 195 = .ok (.iload_n 2, 1) := by decide +kernel
theorem d_M_wrongState_196 : decode prog_6_method_10_code 196 = .ok (.iaload, 1) := by decide +kernel
theorem d_M_wrongState_197 : decode prog_6_method_10_code 197 = .ok (.iconst 2, 1) := by decide +kernel
theorem d_M_wrongState_198 : decode prog_6_method_10_code 198 = .ok (.if_icmp .ne 7, 3) := by decide +kernel
theorem d_M_wrongState_201 : decode prog_6_method_10_code 201 = .ok (.iconst 1, 1) := by decide +kernel
theorem d_M_wrongState_202 : decode prog_6_method_10_code 202 = .ok (.goto 4, 3) := by decide +kernel
theorem d_M_wrongState_205 : decode prog_6_method_10_code 205 = .ok (.iconst 0, 1) := by decide +kernel
theorem d_M_wrongState_206 : decode prog_6_method_10_code 206 = .ok (.ireturn, 1) := by decide +kernel
theorem d_M_wrongState_207 : decode prog_6_method_10_code 207 = .ok (.iconst 0, 1) := by decide +kernel
theorem d_M_wrongState_208 : decode prog_6_method_10_code 208 = .ok (.ireturn, 1) := by decide +kernel
theorem d_M_taken_0 : decode prog_6_method_11_code 0 = .ok (.iload_n 1, 1) := by decide +kernel
theorem d_M_taken_1 : decode prog_6_method_11_code 1 = .ok (.tableswitch 180 1 11 #[59, 89, 116, 180, 136, 180, 180, 180, 180, 151, 165], 59) := by decide +kernel
theorem d_M_taken_60 : decode prog_6_method_11_code 60 = .ok (.iload_n 2, 1) := by decide +kernel
theorem d_M_taken_61 : decode prog_6_method_11_code 61 = .ok (.istore 5, 2) := by decide +kernel
theorem d_M_taken_63 : decode prog_6_method_11_code 63 = .ok (.iload 5, 2) := by decide +kernel
theorem d_M_taken_65 : decode prog_6_method_11_code 65 = .ok (.iload_n 2, 1) := by decide +kernel
theorem d_M_taken_66 : decode prog_6_method_11_code 66 = .ok (.iload_n 3, 1) := by decide +kernel
theorem d_M_taken_67 : decode prog_6_method_11_code 67 = .ok (.iadd, 1) := by decide +kernel
theorem d_M_taken_68 : decode prog_6_method_11_code 68 = .ok (.if_icmp .ge 20, 3) := by decide +kernel
theorem d_M_taken_71 : decode prog_6_method_11_code 71 = .ok (.aload_n 0, 1) := by decide +kernel
theorem d_M_taken_72 : decode prog_6_method_11_code 72 = .ok (.iload 5, 2) := by decide +kernel
theorem d_M_taken_74 : decode prog_6_method_11_code 74 = .ok (.invokevirtual 61, 3) := by decide +kernel
theorem d_M_taken_77 : decode prog_6_method_11_code 77 = .ok (.ifCond .eq 5, 3) := by decide +kernel
theorem d_M_taken_80 : decode prog_6_method_11_code 80 = .ok (.iconst 1, 1) := by decide +kernel
theorem d_M_taken_81 : decode prog_6_method_11_code 81 = .ok (.ireturn, 1) := by decide +kernel
theorem d_M_taken_82 : decode prog_6_method_11_code 82 = .ok (.iinc 5 1, 3) := by decide +kernel
theorem d_M_taken_85 : decode prog_6_method_11_code 85 = .ok (.goto (-22), 3) := by decide +kernel
theorem d_M_taken_88 : decode prog_6_method_11_code 88 = .ok (.iconst 0, 1) := by decide +kernel
theorem d_M_taken_89 : decode prog_6_method_11_code 89 = .ok (.ireturn, 1) := by decide +kernel
theorem d_M_taken_90 : decode prog_6_method_11_code 90 = .ok (.aload_n 0, 1) := by decide +kernel
theorem d_M_taken_91 : decode prog_6_method_11_code 91 = .ok (.iload_n 3, 1) := by decide +kernel
theorem d_M_taken_92 : decode prog_6_method_11_code 92 = .ok (.invokevirtual 61, 3) := by decide +kernel
theorem d_M_taken_95 : decode prog_6_method_11_code 95 = .ok (.iconst 2, 1) := by decide +kernel
theorem d_M_taken_96 : decode prog_6_method_11_code 96 = .ok (.iload_n 2, 1) := by decide +kernel
theorem d_M_taken_97 : decode prog_6_method_11_code 97 = .ok (.iadd, 1) := by decide +kernel
theorem d_M_taken_98 : decode prog_6_method_11_code 98 = .ok (.if_icmp .ne 13, 3) := by decide +kernel
theorem d_M_taken_101 : decode prog_6_method_11_code 101 = .ok (.aload_n 0, 1) := by decide +kernel
theorem d_M_taken_102 : decode prog_6_method_11_code 102 = .ok (.iload 4, 2) := by decide +kernel
theorem d_M_taken_104 : decode prog_6_method_11_code 104 = .ok (.invokevirtual 61, 3) := by decide +kernel
theorem d_M_taken_107 : decode prog_6_method_11_code 107 = .ok (.iconst 1, 1) := by decide +kernel
theorem d_M_taken_108 : decode prog_6_method_11_code 108 = .ok (.if_icmp .eq 7, 3) := by decide +kernel
theorem d_M_taken_111 : decode prog_6_method_11_code 111 = .ok (.iconst 1, 1) := by decide +kernel
theorem d_M_taken_112 : decode prog_6_method_11_code 112 = .ok (.goto 4, 3) := by decide +kernel
theorem d_M_taken_115 : decode prog_6_method_11_code 115 = .ok (.iconst 0, 1) := by decide +kernel
theorem d_M_taken_116 : decode prog_6_method_11_code 116 = .ok (.ireturn, 1) := by decide +kernel
theorem d_M_taken_117 : decode prog_6_method_11_code 117 = .ok (.aload_n 0, 1) := by decide +kernel
theorem d_M_taken_118 : decode prog_6_method_11_code 118 = .ok (.iload_n 3, 1) := by decide +kernel
theorem d_M_taken_119 : decode prog_6_method_11_code 119 = .ok (.bipush 16, 2) := by decide +kernel
theorem d_M_taken_121 : decode prog_6_method_11_code 121 = .ok (.idiv, 1) := by decide +kernel
theorem d_M_taken_122 : decode prog_6_method_11_code 122 = .ok (.invokevirtual 61, 3) := by decide +kernel
theorem d_M_taken_125 : decode prog_6_method_11_code 125 = .ok (.iconst 2, 1) := by decide +kernel
theorem d_M_taken_126 : decode prog_6_method_11_code 126 = .ok (.iload_n 2, 1) := by decide +kernel
theorem d_M_taken_127 : decode prog_6_method_11_code 127 = .ok (.iadd, 1) := by decide +kernel
theorem d_M_taken_128 : decode prog_6_method_11_code 128 = .ok (.if_icmp .eq 7, 3) := by decide +kernel
theorem d_M_taken_131 : decode prog_6_method_11_code 131 = .ok (.iconst 1, 1) := by decide +kernel
theorem d_M_taken_132 : decode prog_6_method_11_code 132 = .ok (.goto 4, 3) := by decide +kernel
theorem d_M_taken_135 : decode prog_6_method_11_code 135 = .ok (.iconst 0, 1) := by decide +kernel
theorem d_M_taken_136 : decode prog_6_method_11_code 136 = .ok (.ireturn, 1) := by decide +kernel
theorem d_M_taken_137 : decode prog_6_method_11_code 137 = .ok (.aload_n 0, 1) := by decide +kernel
theorem d_M_taken_138 : decode prog_6_method_11_code 138 = .ok (.iload_n 3, 1) := by decide +kernel
theorem d_M_taken_139 : decode prog_6_method_11_code 139 = .ok (.invokevirtual 61, 3) := by decide +kernel
theorem d_M_taken_142 : decode prog_6_method_11_code 142 = .ok (.iconst 1, 1) := by decide +kernel
theorem d_M_taken_143 : decode prog_6_method_11_code 143 = .ok (.if_icmp .eq 7, 3) := by decide +kernel
theorem d_M_taken_146 : decode prog_6_method_11_code 146 = .ok (.iconst 1, 1) := by decide +kernel
theorem d_M_taken_147 : decode prog_6_method_11_code 147 = .ok (.goto 4, 3) := by decide +kernel
theorem d_M_taken_150 : decode prog_6_method_11_code 150 = .ok (.iconst 0, 1) := by decide +kernel
theorem d_M_taken_151 : decode prog_6_method_11_code 151 = .ok (.ireturn, 1) := by decide +kernel
theorem d_M_taken_152 : decode prog_6_method_11_code 152 = .ok (.aload_n 0, 1) := by decide +kernel
theorem d_M_taken_153 : decode prog_6_method_11_code 153 = .ok (.iload_n 2, 1) := by decide +kernel
theorem d_M_taken_154 : decode prog_6_method_11_code 154 = .ok (.invokevirtual 61, 3) := by decide +kernel
theorem d_M_taken_157 : decode prog_6_method_11_code 157 = .ok (.ifCond .eq 7, 3) := by decide +kernel
theorem d_M_taken_160 : decode prog_6_method_11_code 160 = .ok (.iconst 1, 1) := by decide +kernel
theorem d_M_taken_161 : decode prog_6_method_11_code 161 = .ok (.goto 4, 3) := by decide +kernel
theorem d_M_taken_164 : decode prog_6_method_11_code 164 = .ok (.iconst 0, 1) := by decide +kernel
theorem d_M_taken_165 : decode prog_6_method_11_code 165 = .ok (.ireturn, 1) := by decide +kernel
theorem d_M_taken_166 : decode prog_6_method_11_code 166 = .ok (.aload_n 0, 1) := by decide +kernel
theorem d_M_taken_167 : decode prog_6_method_11_code 167 = .ok (.iload_n 2, 1) := by decide +kernel
theorem d_M_taken_168 : decode prog_6_method_11_code 168 = .ok (.invokevirtual 61, 3) := by decide +kernel
theorem d_M_taken_171 : decode prog_6_method_11_code 171 = .ok (.iconst 1, 1) := by decide +kernel
theorem d_M_taken_172 : decode prog_6_method_11_code 172 = .ok (.if_icmp .eq 7, 3) := by decide +kernel
theorem d_M_taken_175 : decode prog_6_method_11_code 175 = .ok (.iconst 1, 1) := by decide +kernel
theorem d_M_taken_176 : decode prog_6_method_11_code 176 = .ok (.goto 4, 3) := by decide +kernel
theorem d_M_taken_179 : decode prog_6_method_11_code 179 = .ok (.iconst 0, 1) := by decide +kernel
theorem d_M_taken_180 : decode prog_6_method_11_code 180 = .ok (.ireturn, 1) := by decide +kernel
theorem d_M_taken_181 : decode prog_6_method_11_code 181 = .ok (.iconst 0, 1) := by decide +kernel
theorem d_M_taken_182 : decode prog_6_method_11_code 182 = .ok (.ireturn, 1) := by decide +kernel
theorem d_M_full_0 : decode prog_6_method_12_code 0 = .ok (.iload_n 1, 1) := by decide +kernel
theorem d_M_full_1 : decode prog_6_method_12_code 1 = .ok (.iconst 1, 1) := by decide +kernel
theorem d_M_full_2 : decode prog_6_method_12_code 2 = .ok (.if_icmp .ne 36, 3) := by decide +kernel
theorem d_M_full_5 : decode prog_6_method_12_code 5 = .ok (.aload_n 0, 1) := by decide +kernel
theorem d_M_full_6 : decode prog_6_method_12_code 6 = .ok (.getfield 20, 3) := by decide +kernel
theorem d_M_full_9 : decode prog_6_method_12_code 9 = .ok (.iconst 0, 1) := by decide +kernel
theorem d_M_full_10 : decode prog_6_method_12_code 10 = .ok (.iaload, 1) := by decide +kernel
theorem d_M_full_11 : decode prog_6_method_12_code 11 = .ok (.ifCond .le 25, 3) := by decide +kernel
theorem d_M_full_14 : decode prog_6_method_12_code 14 = .ok (.aload_n 0, 1) := by decide +kernel
theorem d_M_full_15 : decode prog_6_method_12_code 15 = .ok (.getfield 20, 3) := by decide +kernel
theorem d_M_full_18 : decode prog_6_method_12_code 18 = .ok (.iconst 1, 1) := by decide +kernel
theorem d_M_full_19 : decode prog_6_method_12_code 19 = .ok (.iaload, 1) := by decide +kernel
theorem d_M_full_20 : decode prog_6_method_12_code 20 = .ok (.ifCond .le 16, 3) := by decide +kernel
theorem d_M_full_23 : decode prog_6_method_12_code 23 = .ok (.aload_n 0, 1) := by decide +kernel
theorem d_M_full_24 : decode prog_6_method_12_code 24 = .ok (.getfield 20, 3) := by decide +kernel
theorem d_M_full_27 : decode prog_6_method_12_code 27 = .ok (.iconst 2, 1) := by decide +kernel
theorem d_M_full_28 : decode prog_6_method_12_code 28 = .ok (.iaload, 1) := by decide +kernel
theorem d_M_full_29 : decode prog_6_method_12_code 29 = .ok (.ifCond .le 7, 3) := by decide +kernel
theorem d_M_full_32 : decode prog_6_method_12_code 32 = .ok (.iconst 1, 1) := by decide +kernel
theorem d_M_full_33 : decode prog_6_method_12_code 33 = .ok (.goto 4, 3) := by decide +kernel
theorem d_M_full_36 : decode prog_6_method_12_code 36 = .ok (.iconst 0, 1) := by decide +kernel
theorem d_M_full_37 : decode prog_6_method_12_code 37 = .ok (.ireturn, 1) := by decide +kernel
theorem d_M_full_38 : decode prog_6_method_12_code 38 = .ok (.iload_n 1, 1) := by decide +kernel
theorem d_M_full_39 : decode prog_6_method_12_code 39 = .ok (.iconst 5, 1) := by decide +kernel
theorem d_M_full_40 : decode prog_6_method_12_code 40 = .ok (.if_icmp .ne 52, 3) := by decide +kernel
theorem d_M_full_43 : decode prog_6_method_12_code 43 = .ok (.iconst 0, 1) := by decide +kernel
theorem d_M_full_44 : decode prog_6_method_12_code 44 = .ok (.istore_n 3, 1) := by decide +kernel
theorem d_M_full_45 : decode prog_6_method_12_code 45 = .ok (.iconst 0, 1) := by decide +kernel
theorem d_M_full_46 : decode prog_6_method_12_code 46 = .ok (.istore 4, 2) := by decide +kernel
theorem d_M_full_48 : decode prog_6_method_12_code 48 = .ok (.iload 4, 2) := by decide +kernel
theorem d_M_full_50 : decode prog_6_method_12_code 50 = .ok (.bipush 16, 2) := by decide +kernel
theorem d_M_full_52 : decode prog_6_method_12_code 52 = .ok (.if_icmp .ge 29, 3) := by decide +kernel
theorem d_M_full_55 : decode prog_6_method_12_code 55 = .ok (.aload_n 0, 1) := by decide +kernel
theorem d_M_full_56 : decode prog_6_method_12_code 56 = .ok (.iload 4, 2) := by decide +kernel
theorem d_M_full_58 : decode prog_6_method_12_code 58 = .ok (.invokevirtual 61, 3) := by decide +kernel
theorem d_M_full_61 : decode prog_6_method_12_code 61 = .ok (.iconst 5, 1) := by decide +kernel
theorem d_M_full_62 : decode prog_6_method_12_code 62 = .ok (.iload_n 2, 1) := by decide +kernel
theorem d_M_full_63 : decode prog_6_method_12_code 63 = .ok (.iadd, 1) := by decide +kernel
theorem d_M_full_64 : decode prog_6_method_12_code 64 = .ok (.if_icmp .ne 9, 3) := by decide +kernel
theorem d_M_full_67 : decode prog_6_method_12_code 67 = .ok (.iload_n 3, 1) := by decide +kernel
theorem d_M_full_68 : decode prog_6_method_12_code 68 = .ok (.iconst 1, 1) := by decide +kernel
theorem d_M_full_69 : decode prog_6_method_12_code 69 = .ok (.iadd, 1) := by decide +kernel
theorem d_M_full_70 : decode prog_6_method_12_code 70 = .ok (.goto 4, 3) := by decide +kernel
theorem d_M_full_73 : decode prog_6_method_12_code 73 = .ok (.iload_n 3, 1) := by decide +kernel
theorem d_M_full_74 : decode prog_6_method_12_code 74 = .ok (.istore_n 3, 1) := by decide +kernel
theorem d_M_full_75 : decode prog_6_method_12_code 75 = .ok (.iinc 4 1, 3) := by decide +kernel
theorem d_M_full_78 : decode prog_6_method_12_code 78 = .ok (.goto (-30), 3) := by decide +kernel
theorem d_M_full_81 : decode prog_6_method_12_code 81 = .ok (.iload_n 3, 1) := by decide +kernel
theorem d_M_full_82 : decode prog_6_method_12_code 82 = .ok (.iconst 2, 1) := by decide +kernel
theorem d_M_full_83 : decode prog_6_method_12_code 83 = .ok (.if_icmp .lt 7, 3) := by decide +kernel
theorem d_M_full_86 : decode prog_6_method_12_code 86 = .ok (.iconst 1, 1) := by decide +kernel
theorem d_M_full_87 : decode prog_6_method_12_code 87 = .ok (.goto 4, 3) := by decide +kernel
theorem d_M_full_90 : decode prog_6_method_12_code 90 = .ok (.iconst 0, 1) := by decide +kernel
theorem d_M_full_91 : decode prog_6_method_12_code 91 = .ok (.ireturn, 1) := by decide +kernel
theorem d_M_full_92 : decode prog_6_method_12_code 92 = .ok (.iload_n 1, 1) := by decide +kernel
theorem d_M_full_93 : decode prog_6_method_12_code 93 = .ok (.iconst 2, 1) := by decide +kernel
theorem d_M_full_94 : decode prog_6_method_12_code 94 = .ok (.if_icmp .ne 14, 3) := by decide +kernel
theorem d_M_full_97 : decode prog_6_method_12_code 97 = .ok (.aload_n 0, 1) := by decide +kernel
theorem d_M_full_98 : decode prog_6_method_12_code 98 = .ok (.getfield 29, 3) := by decide +kernel
theorem d_M_full_101 : decode prog_6_method_12_code 101 = .ok (.iload_n 2, 1) := by decide +kernel
theorem d_M_full_102 : decode prog_6_method_12_code 102 = .ok (.iaload, 1) := by decide +kernel
theorem d_M_full_103 : decode prog_6_method_12_code 103 = .ok (.bipush 8, 2) := by decide +kernel
theorem d_M_full_105 : decode prog_6_method_12_code 105 = .ok (.if_icmp .ge 21, 3) := by decide +kernel
theorem d_M_full_108 : decode prog_6_method_12_code 108 = .ok (.iload_n 1, 1) := by decide +kernel
theorem d_M_full_109 : decode prog_6_method_12_code 109 = .ok (.iconst 3, 1) := by decide +kernel
theorem d_M_full_110 : decode prog_6_method_12_code 110 = .ok (.if_icmp .ne 20, 3) := by decide +kernel
theorem d_M_full_113 : decode prog_6_method_12_code 113 = .ok (.aload_n 0, 1) := by decide +kernel
theorem d_M_full_114 : decode prog_6_method_12_code 114 = .ok (.getfield 38, 3) := by decide +kernel
theorem d_M_full_117 : decode prog_6_method_12_code 117 = .ok (.iconst 2, 1) := by decide +kernel
theorem d_M_full_118 : decode prog_6_method_12_code 118 = .ok (.iload_n 2, 1) := by decide +kernel
theorem d_M_full_119 : decode prog_6_method_12_code 119 = .ok (.imul, 1) := by decide +kernel
theorem d_M_full_120 : decode prog_6_method_12_code 120 = .ok (.iconst 1, 1) := by decide +kernel
theorem d_M_full_121 : decode prog_6_method_12_code 121 = .ok (.iadd, 1) := by decide +kernel
theorem d_M_full_122 : decode prog_6_method_12_code 122 = .ok (.iaload, 1) := by decide +kernel
theorem d_M_full_123 : decode prog_6_method_12_code 123 = .ok (.ifCond .le 7, 3) := by decide +kernel
theorem d_M_full_126 : decode prog_6_method_12_code 126 = .ok (.iconst 1, 1) := by decide +kernel
theorem d_M_full_127 : decode prog_6_method_12_code 127 = .ok (.goto 4, 3) := by decide +kernel
theorem d_M_full_130 : decode prog_6_method_12_code 130 = .ok (.iconst 0, 1) := by decide +kernel
theorem d_M_full_131 : decode prog_6_method_12_code 131 = .ok (.ireturn, 1) := by decide +kernel
theorem d_M_system_0 : decode prog_6_method_13_code 0 = .ok (.iload_n 1, 1) := by decide +kernel
theorem d_M_system_1 : decode prog_6_method_13_code 1 = .ok (.iconst 1, 1) := by decide +kernel
theorem d_M_system_2 : decode prog_6_method_13_code 2 = .ok (.isub, 1) := by decide +kernel
theorem d_M_system_3 : decode prog_6_method_13_code 3 = .ok (.bipush 10, 2) := by decide +kernel
theorem d_M_system_5 : decode prog_6_method_13_code 5 = .ok (.invokestatic 57, 3) := by decide +kernel
theorem d_M_system_8 : decode prog_6_method_13_code 8 = .ok (.ifCond .eq 5, 3) := by decide +kernel
theorem d_M_system_11 : decode prog_6_method_13_code 11 = .ok (.iconst (-1), 1) := by decide +kernel
theorem d_M_system_12 : decode prog_6_method_13_code 12 = .ok (.ireturn, 1) := by decide +kernel
theorem d_M_system_13 : decode prog_6_method_13_code 13 = .ok (.iload_n 1, 1) := by decide +kernel
theorem d_M_system_14 : decode prog_6_method_13_code 14 = .ok (.iload_n 2, 1) := by decide +kernel
theorem d_M_system_15 : decode prog_6_method_13_code 15 = .ok (.iload_n 3, 1) := by decide +kernel
theorem d_M_system_16 : decode prog_6_method_13_code 16 = .ok (.iload 4, 2) := by decide +kernel
theorem d_M_system_18 : decode prog_6_method_13_code 18 = .ok (.invokestatic 70, 3) := by decide +kernel
theorem d_M_system_21 : decode prog_6_method_13_code 21 = .ok (.ifCond .eq 6, 3) := by decide +kernel
theorem d_M_system_24 : decode prog_6_method_13_code 24 = .ok (.bipush (-2), 2) := by decide +kernel
theorem d_M_system_26 : decode prog_6_method_13_code 26 = .ok (.ireturn, 1) := by decide +kernel
theorem d_M_system_27 : decode prog_6_method_13_code 27 = .ok (.aload_n 0, 1) := by decide +kernel
theorem d_M_system_28 : decode prog_6_method_13_code 28 = .ok (.iload_n 1, 1) := by decide +kernel
theorem d_M_system_29 : decode prog_6_method_13_code 29 = .ok (.iload_n 2, 1) := by decide +kernel
theorem d_M_system_30 : decode prog_6_method_13_code 30 = .ok (.iload_n 3, 1) := by decide +kernel
theorem d_M_system_31 : decode prog_6_method_13_code 31 = .ok (.invokevirtual 74, 3) := by decide +kernel
theorem d_M_system_34 : decode prog_6_method_13_code 34 = .ok (.ifCond .eq 6, 3) := by decide +kernel
theorem d_M_system_37 : decode prog_6_method_13_code 37 = .ok (.bipush (-3), 2) := by decide +kernel
theorem d_M_system_39 : decode prog_6_method_13_code 39 = .ok (.ireturn, 1) := by decide +kernel
theorem d_M_system_40 : decode prog_6_method_13_code 40 = .ok (.aload_n 0, 1) := by decide +kernel
theorem d_M_system_41 : decode prog_6_method_13_code 41 = .ok (.iload_n 1, 1) := by decide +kernel
theorem d_M_system_42 : decode prog_6_method_13_code 42 = .ok (.iload_n 2, 1) := by decide +kernel
theorem d_M_system_43 : decode prog_6_method_13_code 43 = .ok (.iload_n 3, 1) := by decide +kernel
theorem d_M_system_44 : decode prog_6_method_13_code 44 = .ok (.iload 4, 2) := by decide +kernel
theorem d_M_system_46 : decode prog_6_method_13_code 46 = .ok (.invokevirtual 78, 3) := by decide +kernel
theorem d_M_system_49 : decode prog_6_method_13_code 49 = .ok (.ifCond .eq 6, 3) := by decide +kernel
theorem d_M_system_52 : decode prog_6_method_13_code 52 = .ok (.bipush (-4), 2) := by decide +kernel
theorem d_M_system_54 : decode prog_6_method_13_code 54 = .ok (.ireturn, 1) := by decide +kernel
theorem d_M_system_55 : decode prog_6_method_13_code 55 = .ok (.aload_n 0, 1) := by decide +kernel
theorem d_M_system_56 : decode prog_6_method_13_code 56 = .ok (.iload_n 1, 1) := by decide +kernel
theorem d_M_system_57 : decode prog_6_method_13_code 57 = .ok (.iload_n 2, 1) := by decide +kernel
theorem d_M_system_58 : decode prog_6_method_13_code 58 = .ok (.invokevirtual 81, 3) := by decide +kernel
theorem d_M_system_61 : decode prog_6_method_13_code 61 = .ok (.ifCond .eq 6, 3) := by decide +kernel
theorem d_M_system_64 : decode prog_6_method_13_code 64 = .ok (.bipush (-5), 2) := by decide +kernel
theorem d_M_system_66 : decode prog_6_method_13_code 66 = .ok (.ireturn, 1) := by decide +kernel
theorem d_M_system_67 : decode prog_6_method_13_code 67 = .ok (.iload_n 1, 1) := by decide +kernel
theorem d_M_system_68 : decode prog_6_method_13_code 68 = .ok (.iconst 1, 1) := by decide +kernel
theorem d_M_system_69 : decode prog_6_method_13_code 69 = .ok (.if_icmp .ne 10, 3) := by decide +kernel
theorem d_M_system_72 : decode prog_6_method_13_code 72 = .ok (.aload_n 0, 1) := by decide +kernel
theorem d_M_system_73 : decode prog_6_method_13_code 73 = .ok (.iload_n 2, 1) := by decide +kernel
theorem d_M_system_74 : decode prog_6_method_13_code 74 = .ok (.iload_n 3, 1) := by decide +kernel
theorem d_M_system_75 : decode prog_6_method_13_code 75 = .ok (.invokevirtual 84, 3) := by decide +kernel
theorem d_M_system_78 : decode prog_6_method_13_code 78 = .ok (.ireturn, 1) := by decide +kernel
theorem d_M_system_79 : decode prog_6_method_13_code 79 = .ok (.iload_n 1, 1) := by decide +kernel
theorem d_M_system_80 : decode prog_6_method_13_code 80 = .ok (.iconst 3, 1) := by decide +kernel
theorem d_M_system_81 : decode prog_6_method_13_code 81 = .ok (.if_icmp .ne 30, 3) := by decide +kernel
theorem d_M_system_84 : decode prog_6_method_13_code 84 = .ok (.aload_n 0, 1) := by decide +kernel
theorem d_M_system_85 : decode prog_6_method_13_code 85 = .ok (.iload_n 2, 1) := by decide +kernel
theorem d_M_system_86 : decode prog_6_method_13_code 86 = .ok (.iconst 0, 1) := by decide +kernel
theorem d_M_system_87 : decode prog_6_method_13_code 87 = .ok (.invokevirtual 87, 3) := by decide +kernel
theorem d_M_system_90 : decode prog_6_method_13_code 90 = .ok (.ifCond .ne 13, 3) := by decide +kernel
theorem d_M_system_93 : decode prog_6_method_13_code 93 = .ok (.aload_n 0, 1) := by decide +kernel
theorem d_M_system_94 : decode prog_6_method_13_code 94 = .ok (.iload_n 2, 1) := by decide +kernel
theorem d_M_system_95 : decode prog_6_method_13_code 95 = .ok (.iconst 0, 1) := by decide +kernel
theorem d_M_system_96 : decode prog_6_method_13_code 96 = .ok (.iload_n 3, 1) := by decide +kernel
theorem d_M_system_97 : decode prog_6_method_13_code 97 = .ok (.invokevirtual 90, 3) := by decide +kernel
theorem d_M_system_100 : decode prog_6_method_13_code 100 = .ok (.goto 10, 3) := by decide +kernel
theorem d_M_system_103 : decode prog_6_method_13_code 103 = .ok (.aload_n 0, 1) := by decide +kernel
theorem d_M_system_104 : decode prog_6_method_13_code 104 = .ok (.iload_n 2, 1) := by decide +kernel
theorem d_M_system_105 : decode prog_6_method_13_code 105 = .ok (.iconst 1, 1) := by decide +kernel
theorem d_M_system_106 : decode prog_6_method_13_code 106 = .ok (.iload_n 3, 1) := by decide +kernel
theorem d_M_system_107 : decode prog_6_method_13_code 107 = .ok (.invokevirtual 90, 3) := by decide +kernel
theorem d_M_system_110 : decode prog_6_method_13_code 110 = .ok (.ireturn, 1) := by decide +kernel
theorem d_M_system_111 : decode prog_6_method_13_code 111 = .ok (.aload_n 0, 1) := by decide +kernel
theorem d_M_system_112 : decode prog_6_method_13_code 112 = .ok (.iload_n 1, 1) := by decide +kernel
theorem d_M_system_113 : decode prog_6_method_13_code 113 = .ok (.iload_n 2, 1) := by decide +kernel
theorem d_M_system_114 : decode prog_6_method_13_code 114 = .ok (.iload_n 3, 1) := by decide +kernel
theorem d_M_system_115 : decode prog_6_method_13_code 115 = .ok (.iload 4, 2) := by decide +kernel
theorem d_M_system_117 : decode prog_6_method_13_code 117 = .ok (.invokevirtual 94, 3) := by decide +kernel
theorem d_M_system_120 : decode prog_6_method_13_code 120 = .ok (.iconst 0, 1) := by decide +kernel
theorem d_M_system_121 : decode prog_6_method_13_code 121 = .ok (.ireturn, 1) := by decide +kernel
theorem d_M_create_0 : decode prog_6_method_14_code 0 = .ok (.aload_n 0, 1) := by decide +kernel
theorem d_M_create_1 : decode prog_6_method_14_code 1 = .ok (.getfield 20, 3) := by decide +kernel
theorem d_M_create_4 : decode prog_6_method_14_code 4 = .ok (.iconst 0, 1) := by decide +kernel
theorem d_M_create_5 : decode prog_6_method_14_code 5 = .ok (.iaload, 1) := by decide +kernel
theorem d_M_create_6 : decode prog_6_method_14_code 6 = .ok (.ifCond .ne 7, 3) := by decide +kernel
theorem d_M_create_9 : decode prog_6_method_14_code 9 = .ok (.iconst 0, 1) := by decide +kernel
theorem d_M_create_10 : decode prog_6_method_14_code 10 = .ok (.goto 17, 3) := by decide +kernel
theorem d_M_create_13 : decode prog_6_method_14_code 13 = .ok (.aload_n 0, 1) := by decide +kernel
theorem d_M_create_14 : decode prog_6_method_14_code 14 = .ok (.getfield 20, 3) := by decide +kernel
theorem d_M_create_17 : decode prog_6_method_14_code 17 = .ok (.iconst 1, 1) := by decide +kernel
theorem d_M_create_18 : decode prog_6_method_14_code 18 = .ok (.iaload, 1) := by decide +kernel
theorem d_M_create_19 : decode prog_6_method_14_code 19 = .ok (.ifCond .ne 7, 3) := by decide +kernel
theorem d_M_create_22 : decode prog_6_method_14_code 22 = .ok (.iconst 1, 1) := by decide +kernel
theorem d_M_create_23 : decode prog_6_method_14_code 23 = .ok (.goto 4, 3) := by decide +kernel
theorem d_M_create_26 : decode prog_6_method_14_code 26 = .ok (.iconst 2, 1) := by decide +kernel
theorem d_M_create_27 : decode prog_6_method_14_code 27 = .ok (.istore_n 3, 1) := by decide +kernel
theorem d_M_create_28 : decode prog_6_method_14_code 28 = .ok (.aload_n 0, 1) := by decide +kernel
theorem d_M_create_29 : decode prog_6_method_14_code 29 = .ok (.getfield 20, 3) := by decide +kernel
theorem d_M_create_32 : decode prog_6_method_14_code 32 = .ok (.iload_n 3, 1) := by decide +kernel
theorem d_M_create_33 : decode prog_6_method_14_code 33 = .ok (.iconst 1, 1) := by decide +kernel
theorem d_M_create_34 : decode prog_6_method_14_code 34 = .ok (.iastore, 1) := by decide +kernel
theorem d_M_create_35 : decode prog_6_method_14_code 35 = .ok (.aload_n 0, 1) := by decide +kernel
theorem d_M_create_36 : decode prog_6_method_14_code 36 = .ok (.getfield 23, 3) := by decide +kernel
theorem d_M_create_39 : decode prog_6_method_14_code 39 = .ok (.iload_n 3, 1) := by decide +kernel
theorem d_M_create_40 : decode prog_6_method_14_code 40 = .ok (.iload_n 1, 1) := by decide +kernel
theorem d_M_create_41 : decode prog_6_method_14_code 41 = .ok (.iastore, 1) := by decide +kernel
theorem d_M_create_42 : decode prog_6_method_14_code 42 = .ok (.aload_n 0, 1) := by decide +kernel
theorem d_M_create_43 : decode prog_6_method_14_code 43 = .ok (.getfield 26, 3) := by decide +kernel
theorem d_M_create_46 : decode prog_6_method_14_code 46 = .ok (.iload_n 3, 1) := by decide +kernel
theorem d_M_create_47 : decode prog_6_method_14_code 47 = .ok (.iload_n 2, 1) := by decide +kernel
theorem d_M_create_48 : decode prog_6_method_14_code 48 = .ok (.iastore, 1) := by decide +kernel
theorem d_M_create_49 : decode prog_6_method_14_code 49 = .ok (.aload_n 0, 1) := by decide +kernel
theorem d_M_create_50 : decode prog_6_method_14_code 50 = .ok (.getfield 29, 3) := by decide +kernel
theorem d_M_create_53 : decode prog_6_method_14_code 53 = .ok (.iload_n 3, 1) := by decide +kernel
theorem d_M_create_54 : decode prog_6_method_14_code 54 = .ok (.iconst 0, 1) := by decide +kernel
theorem d_M_create_55 : decode prog_6_method_14_code 55 = .ok (.iastore, 1) := by decide +kernel
theorem d_M_create_56 : decode prog_6_method_14_code 56 = .ok (.aload_n 0, 1) := by decide +kernel
theorem d_M_create_57 : decode prog_6_method_14_code 57 = .ok (.getfield 35, 3) := by decide +kernel
theorem d_M_create_60 : decode prog_6_method_14_code 60 = .ok (.iload_n 3, 1) := by decide +kernel
theorem d_M_create_61 : decode prog_6_method_14_code 61 = .ok (.iconst 0, 1) := by decide +kernel
theorem d_M_create_62 : decode prog_6_method_14_code 62 = .ok (.iastore, 1) := by decide +kernel
theorem d_M_create_63 : decode prog_6_method_14_code 63 = .ok (.aload_n 0, 1) := by decide +kernel
theorem d_M_create_64 : decode prog_6_method_14_code 64 = .ok (.iload_n 3, 1) := by decide +kernel
theorem d_M_create_65 : decode prog_6_method_14_code 65 = .ok (.iconst 1, 1) := by decide +kernel
theorem d_M_create_66 : decode prog_6_method_14_code 66 = .ok (.invokevirtual 98, 3) := by decide +kernel
theorem d_M_create_69 : decode prog_6_method_14_code 69 = .ok (.aload_n 0, 1) := by decide +kernel
theorem d_M_create_70 : decode prog_6_method_14_code 70 = .ok (.iload_n 3, 1) := by decide +kernel
theorem d_M_create_71 : decode prog_6_method_14_code 71 = .ok (.iload_n 1, 1) := by decide +kernel
theorem d_M_create_72 : decode prog_6_method_14_code 72 = .ok (.invokevirtual 98, 3) := by decide +kernel
theorem d_M_create_75 : decode prog_6_method_14_code 75 = .ok (.aload_n 0, 1) := by decide +kernel
theorem d_M_create_76 : decode prog_6_method_14_code 76 = .ok (.iload_n 3, 1) := by decide +kernel
theorem d_M_create_77 : decode prog_6_method_14_code 77 = .ok (.iload_n 2, 1) := by decide +kernel
theorem d_M_create_78 : decode prog_6_method_14_code 78 = .ok (.invokevirtual 98, 3) := by decide +kernel
theorem d_M_create_81 : decode prog_6_method_14_code 81 = .ok (.iload_n 3, 1) := by decide +kernel
theorem d_M_create_82 : decode prog_6_method_14_code 82 = .ok (.ireturn, 1) := by decide +kernel
theorem d_M_append_0 : decode prog_6_method_15_code 0 = .ok (.aload_n 0, 1) := by decide +kernel
theorem d_M_append_1 : decode prog_6_method_15_code 1 = .ok (.getfield 38, 3) := by decide +kernel
theorem d_M_append_4 : decode prog_6_method_15_code 4 = .ok (.iconst 2, 1) := by decide +kernel
theorem d_M_append_5 : decode prog_6_method_15_code 5 = .ok (.iload_n 1, 1) := by decide +kernel
theorem d_M_append_6 : decode prog_6_method_15_code 6 = .ok (.imul, 1) := by decide +kernel
theorem d_M_append_7 : decode prog_6_method_15_code 7 = .ok (.iload_n 2, 1) := by decide +kernel
theorem d_M_append_8 : decode prog_6_method_15_code 8 = .ok (.iadd, 1) := by decide +kernel
theorem d_M_append_9 : decode prog_6_method_15_code 9 = .ok (.iconst 1, 1) := by decide +kernel
theorem d_M_append_10 : decode prog_6_method_15_code 10 = .ok (.iastore, 1) := by decide +kernel
theorem d_M_append_11 : decode prog_6_method_15_code 11 = .ok (.aload_n 0, 1) := by decide +kernel
theorem d_M_append_12 : decode prog_6_method_15_code 12 = .ok (.getfield 41, 3) := by decide +kernel
theorem d_M_append_15 : decode prog_6_method_15_code 15 = .ok (.iconst 2, 1) := by decide +kernel
theorem d_M_append_16 : decode prog_6_method_15_code 16 = .ok (.iload_n 1, 1) := by decide +kernel
theorem d_M_append_17 : decode prog_6_method_15_code 17 = .ok (.imul, 1) := by decide +kernel
theorem d_M_append_18 : decode prog_6_method_15_code 18 = .ok (.iload_n 2, 1) := by decide +kernel
theorem d_M_append_19 : decode prog_6_method_15_code 19 = .ok (.iadd, 1) := by decide +kernel
theorem d_M_append_20 : decode prog_6_method_15_code 20 = .ok (.iload_n 3, 1) := by decide +kernel
theorem d_M_append_21 : decode prog_6_method_15_code 21 = .ok (.iastore, 1) := by decide +kernel
theorem d_M_append_22 : decode prog_6_method_15_code 22 = .ok (.aload_n 0, 1) := by decide +kernel
theorem d_M_append_23 : decode prog_6_method_15_code 23 = .ok (.iload_n 1, 1) := by decide +kernel
theorem d_M_append_24 : decode prog_6_method_15_code 24 = .ok (.iconst 3, 1) := by decide +kernel
theorem d_M_append_25 : decode prog_6_method_15_code 25 = .ok (.invokevirtual 98, 3) := by decide +kernel
theorem d_M_append_28 : decode prog_6_method_15_code 28 = .ok (.aload_n 0, 1) := by decide +kernel
theorem d_M_append_29 : decode prog_6_method_15_code 29 = .ok (.iload_n 1, 1) := by decide +kernel
theorem d_M_append_30 : decode prog_6_method_15_code 30 = .ok (.iload_n 3, 1) := by decide +kernel
theorem d_M_append_31 : decode prog_6_method_15_code 31 = .ok (.invokevirtual 98, 3) := by decide +kernel
theorem d_M_append_34 : decode prog_6_method_15_code 34 = .ok (.iload_n 2, 1) := by decide +kernel
theorem d_M_append_35 : decode prog_6_method_15_code 35 = .ok (.ireturn, 1) := by decide +kernel
theorem d_M_perform_0 : decode prog_6_method_16_code 0 = .ok (.iload_n 1, 1) := by decide +kernel
theorem d_M_perform_1 : decode prog_6_method_16_code 1 = .ok (.tableswitch 223 2 10 #[51, 223, 62, 78, 90, 173, 195, 205, 213], 51) := by decide +kernel
theorem d_M_perform_52 : decode prog_6_method_16_code 52 = .ok (.aload_n 0, 1) := by decide +kernel
theorem d_M_perform_53 : decode prog_6_method_16_code 53 = .ok (.iload_n 2, 1) := by decide +kernel
theorem d_M_perform_54 : decode prog_6_method_16_code 54 = .ok (.iload_n 3, 1) := by decide +kernel
theorem d_M_perform_55 : decode prog_6_method_16_code 55 = .ok (.iload 4, 2) := by decide +kernel
theorem d_M_perform_57 : decode prog_6_method_16_code 57 = .ok (.invokevirtual 102, 3) := by decide +kernel
theorem d_M_perform_60 : decode prog_6_method_16_code 60 = .ok (.goto 176, 3) := by decide +kernel
theorem d_M_perform_63 : decode prog_6_method_16_code 63 = .ok (.aload_n 0, 1) := by decide +kernel
theorem d_M_perform_64 : decode prog_6_method_16_code 64 = .ok (.getfield 20, 3) := by decide +kernel
theorem d_M_perform_67 : decode prog_6_method_16_code 67 = .ok (.iload_n 2, 1) := by decide +kernel
theorem d_M_perform_68 : decode prog_6_method_16_code 68 = .ok (.iconst 2, 1) := by decide +kernel
theorem d_M_perform_69 : decode prog_6_method_16_code 69 = .ok (.iastore, 1) := by decide +kernel
theorem d_M_perform_70 : decode prog_6_method_16_code 70 = .ok (.aload_n 0, 1) := by decide +kernel
theorem d_M_perform_71 : decode prog_6_method_16_code 71 = .ok (.iload_n 2, 1) := by decide +kernel
theorem d_M_perform_72 : decode prog_6_method_16_code 72 = .ok (.iconst 4, 1) := by decide +kernel
theorem d_M_perform_73 : decode prog_6_method_16_code 73 = .ok (.invokevirtual 98, 3) := by decide +kernel
theorem d_M_perform_76 : decode prog_6_method_16_code 76 = .ok (.goto 160, 3) := by decide +kernel
theorem d_M_perform_79 : decode prog_6_method_16_code 79 = .ok (.aload_n 0, 1) := by decide +kernel
theorem d_M_perform_80 : decode prog_6_method_16_code 80 = .ok (.getfield 17, 3) := by decide +kernel
theorem d_M_perform_83 : decode prog_6_method_16_code 83 = .ok (.iload_n 3, 1) := by decide +kernel
theorem d_M_perform_84 : decode prog_6_method_16_code 84 = .ok (.iconst 1, 1) := by decide +kernel
theorem d_M_perform_85 : decode prog_6_method_16_code 85 = .ok (.iload_n 2, 1) := by decide +kernel
theorem d_M_perform_86 : decode prog_6_method_16_code 86 = .ok (.iadd, 1) := by decide +kernel
theorem d_M_perform_87 : decode prog_6_method_16_code 87 = .ok (.iastore, 1) := by decide +kernel
theorem d_M_perform_88 : decode prog_6_method_16_code 88 = .ok (.goto 148, 3) := by decide +kernel
theorem d_M_perform_91 : decode prog_6_method_16_code 91 = .ok (.aload_n 0, 1) := by decide +kernel
theorem d_M_perform_92 : decode prog_6_method_16_code 92 = .ok (.iconst 2, 1) := by decide +kernel
theorem d_M_perform_93 : decode prog_6_method_16_code 93 = .ok (.iload_n 2, 1) := by decide +kernel
theorem d_M_perform_94 : decode prog_6_method_16_code 94 = .ok (.imul, 1) := by decide +kernel
theorem d_M_perform_95 : decode prog_6_method_16_code 95 = .ok (.iload_n 3, 1) := by decide +kernel
theorem d_M_perform_96 : decode prog_6_method_16_code 96 = .ok (.iadd, 1) := by decide +kernel
theorem d_M_perform_97 : decode prog_6_method_16_code 97 = .ok (.putfield 50, 3) := by decide +kernel
theorem d_M_perform_100 : decode prog_6_method_16_code 100 = .ok (.aload_n 0, 1) := by decide +kernel
theorem d_M_perform_101 : decode prog_6_method_16_code 101 = .ok (.getfield 38, 3) := by decide +kernel
theorem d_M_perform_104 : decode prog_6_method_16_code 104 = .ok (.aload_n 0, 1) := by decide +kernel
theorem d_M_perform_105 : decode prog_6_method_16_code 105 = .ok (.getfield 50, 3) := by decide +kernel
theorem d_M_perform_108 : decode prog_6_method_16_code 108 = .ok (.iconst 2, 1) := by decide +kernel
theorem d_M_perform_109 : decode prog_6_method_16_code 109 = .ok (.iastore, 1) := by decide +kernel
theorem d_M_perform_110 : decode prog_6_method_16_code 110 = .ok (.aload_n 0, 1) := by decide +kernel
theorem d_M_perform_111 : decode prog_6_method_16_code 111 = .ok (.getfield 47, 3) := by decide +kernel
theorem d_M_perform_114 : decode prog_6_method_16_code 114 = .ok (.aload_n 0, 1) := by decide +kernel
theorem d_M_perform_115 : decode prog_6_method_16_code 115 = .ok (.getfield 50, 3) := by decide +kernel
theorem d_M_perform_118 : decode prog_6_method_16_code 118 = .ok (.aload_n 0, 1) := by decide +kernel
theorem d_M_perform_119 : decode prog_6_method_16_code 119 = .ok (.getfield 41, 3) := by decide +kernel
theorem d_M_perform_122 : decode prog_6_method_16_code 122 = .ok (.aload_n 0, 1) := by decide +kernel
theorem d_M_perform_123 : decode prog_6_method_16_code 123 = .ok (.getfield 50, 3) := by decide +kernel
theorem d_M_perform_126 : decode prog_6_method_16_code 126 = .ok (.iaload, 1) := by decide +kernel
theorem d_M_perform_127 : decode prog_6_method_16_code 127 = .ok (.iastore, 1) := by decide +kernel
theorem d_M_perform_128 : decode prog_6_method_16_code 128 = .ok (.iconst 0, 1) := by decide +kernel
theorem d_M_perform_129 : decode prog_6_method_16_code 129 = .ok (.istore 5, 2) := by decide +kernel
theorem d_M_perform_131 : decode prog_6_method_16_code 131 = .ok (.iload 5, 2) := by decide +kernel
theorem d_M_perform_133 : decode prog_6_method_16_code 133 = .ok (.bipush 8, 2) := by decide +kernel
theorem d_M_perform_135 : decode prog_6_method_16_code 135 = .ok (.if_icmp .ge 36, 3) := by decide +kernel
theorem d_M_perform_138 : decode prog_6_method_16_code 138 = .ok (.aload_n 0, 1) := by decide +kernel
theorem d_M_perform_139 : decode prog_6_method_16_code 139 = .ok (.getfield 44, 3) := by decide +kernel
theorem d_M_perform_142 : decode prog_6_method_16_code 142 = .ok (.bipush 8, 2) := by decide +kernel
theorem d_M_perform_144 : decode prog_6_method_16_code 144 = .ok (.aload_n 0, 1) := by decide +kernel
theorem d_M_perform_145 : decode prog_6_method_16_code 145 = .ok (.getfield 50, 3) := by decide +kernel
theorem d_M_perform_148 : decode prog_6_method_16_code 148 = .ok (.imul, 1) := by decide +kernel
theorem d_M_perform_149 : decode prog_6_method_16_code 149 = .ok (.iload 5, 2) := by decide +kernel
theorem d_M_perform_151 : decode prog_6_method_16_code 151 = .ok (.iadd, 1) := by decide +kernel
theorem d_M_perform_152 : decode prog_6_method_16_code 152 = .ok (.iload 5, 2) := by decide +kernel
theorem d_M_perform_154 : decode prog_6_method_16_code 154 = .ok (.iconst 1, 1) := by decide +kernel
theorem d_M_perform_155 : decode prog_6_method_16_code 155 = .ok (.if_icmp .ne 8, 3) := by decide +kernel
theorem d_M_perform_158 : decode prog_6_method_16_code 158 = .ok (.iload 4, 2) := by decide +kernel
theorem d_M_perform_160 : decode prog_6_method_16_code 160 = .ok (.goto 4, 3) := by decide +kernel
theorem d_M_perform_163 : decode prog_6_method_16_code 163 = .ok (.iconst 0, 1) := by decide +kernel
theorem d_M_perform_164 : decode prog_6_method_16_code 164 = .ok (.iastore, 1) := by decide +kernel
theorem d_M_perform_165 : decode prog_6_method_16_code 165 = .ok (.iinc 5 1, 3) := by decide +kernel
theorem d_M_perform_168 : decode prog_6_method_16_code 168 = .ok (.goto (-37), 3) := by decide +kernel
theorem d_M_perform_171 : decode prog_6_method_16_code 171 = .ok (.goto 65, 3) := by decide +kernel
theorem d_M_perform_174 : decode prog_6_method_16_code 174 = .ok (.aload_n 0, 1) := by decide +kernel
theorem d_M_perform_175 : decode prog_6_method_16_code 175 = .ok (.iconst 2, 1) := by decide +kernel
theorem d_M_perform_176 : decode prog_6_method_16_code 176 = .ok (.iload_n 2, 1) := by decide +kernel
theorem d_M_perform_177 : decode prog_6_method_16_code 177 = .ok (.imul, 1) := by decide +kernel
theorem d_M_perform_178 : decode prog_6_method_16_code 178 = .ok (.iload_n 3, 1) := by decide +kernel
theorem d_M_perform_179 : decode prog_6_method_16_code 179 = .ok (.iadd, 1) := by decide +kernel
theorem d_M_perform_180 : decode prog_6_method_16_code 180 = .ok (.putfield 50, 3) := by decide +kernel
theorem d_M_perform_183 : decode prog_6_method_16_code 183 = .ok (.aload_n 0, 1) := by decide +kernel
theorem d_M_perform_184 : decode prog_6_method_16_code 184 = .ok (.getfield 38, 3) := by decide +kernel
theorem d_M_perform_187 : decode prog_6_method_16_code 187 = .ok (.aload_n 0, 1) := by decide +kernel
theorem d_M_perform_188 : decode prog_6_method_16_code 188 = .ok (.getfield 50, 3) := by decide +kernel
theorem d_M_perform_191 : decode prog_6_method_16_code 191 = .ok (.iconst 2, 1) := by decide +kernel
theorem d_M_perform_192 : decode prog_6_method_16_code 192 = .ok (.iastore, 1) := by decide +kernel
theorem d_M_perform_193 : decode prog_6_method_16_code 193 = .ok (.goto 43, 3) := by decide +kernel
theorem d_M_perform_196 : decode prog_6_method_16_code 196 = .ok (.aload_n 0, 1) := by decide +kernel
theorem d_M_perform_197 : decode prog_6_method_16_code 197 = .ok (.getfield 20, 3) := by decide +kernel
theorem d_M_perform_200 : decode prog_6_method_16_code 200 = .ok (.iload_n 2, 1) := by decide +kernel
theorem d_M_perform_201 : decode prog_6_method_16_code 201 = .ok (.iconst 3, 1) := by decide +kernel
theorem d_M_perform_202 : decode prog_6_method_16_code 202 = .ok (.iastore, 1) := by decide +kernel
theorem d_M_perform_203 : decode prog_6_method_16_code 203 = .ok (.goto 33, 3) := by decide +kernel
theorem d_M_perform_206 : decode prog_6_method_16_code 206 = .ok (.aload_n 0, 1) := by decide +kernel
theorem d_M_perform_207 : decode prog_6_method_16_code 207 = .ok (.iload_n 2, 1) := by decide +kernel
theorem d_M_perform_208 : decode prog_6_method_16_code 208 = .ok (.invokevirtual 106, 3) := by decide +kernel
theorem d_M_perform_211 : decode prog_6_method_16_code 211 = .ok (.goto 25, 3) := by decide +kernel
theorem d_M_perform_214 : decode prog_6_method_16_code 214 = .ok (.aload_n 0, 1) := by decide +kernel
theorem d_M_perform_215 : decode prog_6_method_16_code 215 = .ok (.getfield 13, 3) := by decide +kernel
theorem d_M_perform_218 : decode prog_6_method_16_code 218 = .ok (.iload_n 2, 1) := by decide +kernel
theorem d_M_perform_219 : decode prog_6_method_16_code 219 = .ok (.iconst 1, 1) := by decide +kernel
theorem d_M_perform_220 : decode prog_6_method_16_code 220 = .ok (.bastore, 1) := by decide +kernel
theorem d_M_perform_221 : decode prog_6_method_16_code 221 = .ok (.goto 15, 3) := by decide +kernel
theorem d_M_perform_224 : decode prog_6_method_16_code 224 = .ok (.aload_n 0, 1) := by decide +kernel
theorem d_M_perform_225 : decode prog_6_method_16_code 225 = .ok (.getfield 13, 3) := by decide +kernel
theorem d_M_perform_228 : decode prog_6_method_16_code 228 = .ok (.iload_n 2, 1) := by decide +kernel
theorem d_M_perform_229 : decode prog_6_method_16_code 229 = .ok (.iconst 0, 1) := by decide +kernel
theorem d_M_perform_230 : decode prog_6_method_16_code 230 = .ok (.bastore, 1) := by decide +kernel
theorem d_M_perform_231 : decode prog_6_method_16_code 231 = .ok (.aload_n 0, 1) := by decide +kernel
theorem d_M_perform_232 : decode prog_6_method_16_code 232 = .ok (.iload_n 2, 1) := by decide +kernel
theorem d_M_perform_233 : decode prog_6_method_16_code 233 = .ok (.invokevirtual 110, 3) := by decide +kernel
theorem d_M_perform_236 : decode prog_6_method_16_code 236 = .ok (.return_, 1) := by decide +kernel
theorem d_M_load_0 : decode prog_6_method_17_code 0 = .ok (.aload_n 0, 1) := by decide +kernel
theorem d_M_load_1 : decode prog_6_method_17_code 1 = .ok (.getfield 29, 3) := by decide +kernel
theorem d_M_load_4 : decode prog_6_method_17_code 4 = .ok (.iload_n 1, 1) := by decide +kernel
theorem d_M_load_5 : decode prog_6_method_17_code 5 = .ok (.dup2, 1) := by decide +kernel
theorem d_M_load_6 : decode prog_6_method_17_code 6 = .ok (.iaload, 1) := by decide +kernel
theorem d_M_load_7 : decode prog_6_method_17_code 7 = .ok (.iconst 1, 1) := by decide +kernel
theorem d_M_load_8 : decode prog_6_method_17_code 8 = .ok (.iadd, 1) := by decide +kernel
theorem d_M_load_9 : decode prog_6_method_17_code 9 = .ok (.iastore, 1) := by decide +kernel
theorem d_M_load_10 : decode prog_6_method_17_code 10 = .ok (.aload_n 0, 1) := by decide +kernel
theorem d_M_load_11 : decode prog_6_method_17_code 11 = .ok (.iload_n 1, 1) := by decide +kernel
theorem d_M_load_12 : decode prog_6_method_17_code 12 = .ok (.iconst 2, 1) := by decide +kernel
theorem d_M_load_13 : decode prog_6_method_17_code 13 = .ok (.invokevirtual 98, 3) := by decide +kernel
theorem d_M_load_16 : decode prog_6_method_17_code 16 = .ok (.aload_n 0, 1) := by decide +kernel
theorem d_M_load_17 : decode prog_6_method_17_code 17 = .ok (.iload_n 1, 1) := by decide +kernel
theorem d_M_load_18 : decode prog_6_method_17_code 18 = .ok (.iload_n 2, 1) := by decide +kernel
theorem d_M_load_19 : decode prog_6_method_17_code 19 = .ok (.invokevirtual 98, 3) := by decide +kernel
theorem d_M_load_22 : decode prog_6_method_17_code 22 = .ok (.iconst 0, 1) := by decide +kernel
theorem d_M_load_23 : decode prog_6_method_17_code 23 = .ok (.istore 4, 2) := by decide +kernel
theorem d_M_load_25 : decode prog_6_method_17_code 25 = .ok (.iload 4, 2) := by decide +kernel
theorem d_M_load_27 : decode prog_6_method_17_code 27 = .ok (.bipush 16, 2) := by decide +kernel
theorem d_M_load_29 : decode prog_6_method_17_code 29 = .ok (.if_icmp .ge 50, 3) := by decide +kernel
theorem d_M_load_32 : decode prog_6_method_17_code 32 = .ok (.aload_n 0, 1) := by decide +kernel
theorem d_M_load_33 : decode prog_6_method_17_code 33 = .ok (.getfield 7, 3) := by decide +kernel
theorem d_M_load_36 : decode prog_6_method_17_code 36 = .ok (.bipush 16, 2) := by decide +kernel
theorem d_M_load_38 : decode prog_6_method_17_code 38 = .ok (.iload_n 2, 1) := by decide +kernel
theorem d_M_load_39 : decode prog_6_method_17_code 39 = .ok (.imul, 1) := by decide +kernel
theorem d_M_load_40 : decode prog_6_method_17_code 40 = .ok (.iload 4, 2) := by decide +kernel
theorem d_M_load_42 : decode prog_6_method_17_code 42 = .ok (.iadd, 1) := by decide +kernel
theorem d_M_load_43 : decode prog_6_method_17_code 43 = .ok (.aload_n 0, 1) := by decide +kernel
theorem d_M_load_44 : decode prog_6_method_17_code 44 = .ok (.getfield 7, 3) := by decide +kernel
theorem d_M_load_47 : decode prog_6_method_17_code 47 = .ok (.bipush 16, 2) := by decide +kernel
theorem d_M_load_49 : decode prog_6_method_17_code 49 = .ok (.iload_n 3, 1) := by decide +kernel
theorem d_M_load_50 : decode prog_6_method_17_code 50 = .ok (.imul, 1) := by decide +kernel
theorem d_M_load_51 : decode prog_6_method_17_code 51 = .ok (.iload 4, 2) := by decide +kernel
theorem d_M_load_53 : decode prog_6_method_17_code 53 = .ok (.iadd, 1) := by decide +kernel
theorem d_M_load_54 : decode prog_6_method_17_code 54 = .ok (.iaload, 1) := by decide +kernel
theorem d_M_load_55 : decode prog_6_method_17_code 55 = .ok (.iastore, 1) := by decide +kernel
theorem d_M_load_56 : decode prog_6_method_17_code 56 = .ok (.aload_n 0, 1) := by decide +kernel
theorem d_M_load_57 : decode prog_6_method_17_code 57 = .ok (.iload_n 1, 1) := by decide +kernel

theorem d_M_load_58 : decode prog_6_method_17_code 58 = .ok (.aload_n 0, 1) := by decide +kernel
theorem d_M_load_59 : decode prog_6_method_17_code 59 = .ok (.getfield 7, 3) := by decide +kernel
theorem d_M_load_62 : decode prog_6_method_17_code 62 = .ok (.bipush 16, 2) := by decide +kernel
theorem d_M_load_64 : decode prog_6_method_17_code 64 = .ok (.iload_n 2, 1) := by decide +kernel
theorem d_M_load_65 : decode prog_6_method_17_code 65 = .ok (.imul, 1) := by decide +kernel
theorem d_M_load_66 : decode prog_6_method_17_code 66 = .ok (.iload 4, 2) := by decide +kernel
theorem d_M_load_68 : decode prog_6_method_17_code 68 = .ok (.iadd, 1) := by decide +kernel
theorem d_M_load_69 : decode prog_6_method_17_code 69 = .ok (.iaload, 1) := by decide +kernel
theorem d_M_load_70 : decode prog_6_method_17_code 70 = .ok (.invokevirtual 98, 3) := by decide +kernel
theorem d_M_load_73 : decode prog_6_method_17_code 73 = .ok (.iinc 4 1, 3) := by decide +kernel
theorem d_M_load_76 : decode prog_6_method_17_code 76 = .ok (.goto (-51), 3) := by decide +kernel
theorem d_M_load_79 : decode prog_6_method_17_code 79 = .ok (.return_, 1) := by decide +kernel
theorem d_M_wipe_0 : decode prog_6_method_18_code 0 = .ok (.iconst 0, 1) := by decide +kernel
theorem d_M_wipe_1 : decode prog_6_method_18_code 1 = .ok (.istore_n 2, 1) := by decide +kernel
theorem d_M_wipe_2 : decode prog_6_method_18_code 2 = .ok (.iload_n 2, 1) := by decide +kernel
theorem d_M_wipe_3 : decode prog_6_method_18_code 3 = .ok (.bipush 16, 2) := by decide +kernel
theorem d_M_wipe_5 : decode prog_6_method_18_code 5 = .ok (.if_icmp .ge 21, 3) := by decide +kernel
theorem d_M_wipe_8 : decode prog_6_method_18_code 8 = .ok (.aload_n 0, 1) := by decide +kernel
theorem d_M_wipe_9 : decode prog_6_method_18_code 9 = .ok (.getfield 7, 3) := by decide +kernel
theorem d_M_wipe_12 : decode prog_6_method_18_code 12 = .ok (.bipush 16, 2) := by decide +kernel
theorem d_M_wipe_14 : decode prog_6_method_18_code 14 = .ok (.iload_n 1, 1) := by decide +kernel
theorem d_M_wipe_15 : decode prog_6_method_18_code 15 = .ok (.imul, 1) := by decide +kernel
theorem d_M_wipe_16 : decode prog_6_method_18_code 16 = .ok (.iload_n 2, 1) := by decide +kernel
theorem d_M_wipe_17 : decode prog_6_method_18_code 17 = .ok (.iadd, 1) := by decide +kernel
theorem d_M_wipe_18 : decode prog_6_method_18_code 18 = .ok (.iconst 0, 1) := by decide +kernel
theorem d_M_wipe_19 : decode prog_6_method_18_code 19 = .ok (.iastore, 1) := by decide +kernel
theorem d_M_wipe_20 : decode prog_6_method_18_code 20 = .ok (.iinc 2 1, 3) := by decide +kernel
theorem d_M_wipe_23 : decode prog_6_method_18_code 23 = .ok (.goto (-21), 3) := by decide +kernel
theorem d_M_wipe_26 : decode prog_6_method_18_code 26 = .ok (.return_, 1) := by decide +kernel
theorem d_M_destroy_0 : decode prog_6_method_19_code 0 = .ok (.iconst 0, 1) := by decide +kernel
theorem d_M_destroy_1 : decode prog_6_method_19_code 1 = .ok (.istore_n 2, 1) := by decide +kernel
theorem d_M_destroy_2 : decode prog_6_method_19_code 2 = .ok (.iload_n 2, 1) := by decide +kernel
theorem d_M_destroy_3 : decode prog_6_method_19_code 3 = .ok (.bipush 16, 2) := by decide +kernel
theorem d_M_destroy_5 : decode prog_6_method_19_code 5 = .ok (.if_icmp .ge 44, 3) := by decide +kernel
theorem d_M_destroy_8 : decode prog_6_method_19_code 8 = .ok (.aload_n 0, 1) := by decide +kernel
theorem d_M_destroy_9 : decode prog_6_method_19_code 9 = .ok (.iload_n 2, 1) := by decide +kernel
theorem d_M_destroy_10 : decode prog_6_method_19_code 10 = .ok (.invokevirtual 61, 3) := by decide +kernel
theorem d_M_destroy_13 : decode prog_6_method_19_code 13 = .ok (.iconst 2, 1) := by decide +kernel
theorem d_M_destroy_14 : decode prog_6_method_19_code 14 = .ok (.iload_n 1, 1) := by decide +kernel
theorem d_M_destroy_15 : decode prog_6_method_19_code 15 = .ok (.iadd, 1) := by decide +kernel
theorem d_M_destroy_16 : decode prog_6_method_19_code 16 = .ok (.if_icmp .ne 8, 3) := by decide +kernel
theorem d_M_destroy_19 : decode prog_6_method_19_code 19 = .ok (.aload_n 0, 1) := by decide +kernel
theorem d_M_destroy_20 : decode prog_6_method_19_code 20 = .ok (.iload_n 2, 1) := by decide +kernel
theorem d_M_destroy_21 : decode prog_6_method_19_code 21 = .ok (.invokevirtual 110, 3) := by decide +kernel
theorem d_M_destroy_24 : decode prog_6_method_19_code 24 = .ok (.aload_n 0, 1) := by decide +kernel
theorem d_M_destroy_25 : decode prog_6_method_19_code 25 = .ok (.getfield 17, 3) := by decide +kernel
theorem d_M_destroy_28 : decode prog_6_method_19_code 28 = .ok (.iload_n 2, 1) := by decide +kernel
theorem d_M_destroy_29 : decode prog_6_method_19_code 29 = .ok (.iaload, 1) := by decide +kernel
theorem d_M_destroy_30 : decode prog_6_method_19_code 30 = .ok (.iconst 1, 1) := by decide +kernel
theorem d_M_destroy_31 : decode prog_6_method_19_code 31 = .ok (.iload_n 1, 1) := by decide +kernel
theorem d_M_destroy_32 : decode prog_6_method_19_code 32 = .ok (.iadd, 1) := by decide +kernel
theorem d_M_destroy_33 : decode prog_6_method_19_code 33 = .ok (.if_icmp .ne 10, 3) := by decide +kernel
theorem d_M_destroy_36 : decode prog_6_method_19_code 36 = .ok (.aload_n 0, 1) := by decide +kernel
theorem d_M_destroy_37 : decode prog_6_method_19_code 37 = .ok (.getfield 17, 3) := by decide +kernel
theorem d_M_destroy_40 : decode prog_6_method_19_code 40 = .ok (.iload_n 2, 1) := by decide +kernel
theorem d_M_destroy_41 : decode prog_6_method_19_code 41 = .ok (.iconst 0, 1) := by decide +kernel
theorem d_M_destroy_42 : decode prog_6_method_19_code 42 = .ok (.iastore, 1) := by decide +kernel
theorem d_M_destroy_43 : decode prog_6_method_19_code 43 = .ok (.iinc 2 1, 3) := by decide +kernel
theorem d_M_destroy_46 : decode prog_6_method_19_code 46 = .ok (.goto (-44), 3) := by decide +kernel
theorem d_M_destroy_49 : decode prog_6_method_19_code 49 = .ok (.aload_n 0, 1) := by decide +kernel
theorem d_M_destroy_50 : decode prog_6_method_19_code 50 = .ok (.getfield 20, 3) := by decide +kernel
theorem d_M_destroy_53 : decode prog_6_method_19_code 53 = .ok (.iload_n 1, 1) := by decide +kernel
theorem d_M_destroy_54 : decode prog_6_method_19_code 54 = .ok (.iconst 0, 1) := by decide +kernel
theorem d_M_destroy_55 : decode prog_6_method_19_code 55 = .ok (.iastore, 1) := by decide +kernel
theorem d_M_destroy_56 : decode prog_6_method_19_code 56 = .ok (.aload_n 0, 1) := by decide +kernel
theorem d_M_destroy_57 : decode prog_6_method_19_code 57 = .ok (.getfield 38, 3) := by decide +kernel
theorem d_M_destroy_60 : decode prog_6_method_19_code 60 = .ok (.iconst 2, 1) := by decide +kernel
theorem d_M_destroy_61 : decode prog_6_method_19_code 61 = .ok (.iload_n 1, 1) := by decide +kernel
theorem d_M_destroy_62 : decode prog_6_method_19_code 62 = .ok (.imul, 1) := by decide +kernel
theorem d_M_destroy_63 : decode prog_6_method_19_code 63 = .ok (.iconst 0, 1) := by decide +kernel
theorem d_M_destroy_64 : decode prog_6_method_19_code 64 = .ok (.iastore, 1) := by decide +kernel
theorem d_M_destroy_65 : decode prog_6_method_19_code 65 = .ok (.aload_n 0, 1) := by decide +kernel
theorem d_M_destroy_66 : decode prog_6_method_19_code 66 = .ok (.getfield 38, 3) := by decide +kernel
theorem d_M_destroy_69 : decode prog_6_method_19_code 69 = .ok (.iconst 2, 1) := by decide +kernel
theorem d_M_destroy_70 : decode prog_6_method_19_code 70 = .ok (.iload_n 1, 1) := by decide +kernel
theorem d_M_destroy_71 : decode prog_6_method_19_code 71 = .ok (.imul, 1) := by decide +kernel
theorem d_M_destroy_72 : decode prog_6_method_19_code 72 = .ok (.iconst 1, 1) := by decide +kernel
theorem d_M_destroy_73 : decode prog_6_method_19_code 73 = .ok (.iadd, 1) := by decide +kernel
theorem d_M_destroy_74 : decode prog_6_method_19_code 74 = .ok (.iconst 0, 1) := by decide +kernel
theorem d_M_destroy_75 : decode prog_6_method_19_code 75 = .ok (.iastore, 1) := by decide +kernel
theorem d_M_destroy_76 : decode prog_6_method_19_code 76 = .ok (.return_, 1) := by decide +kernel
theorem d_M_leave_0 : decode prog_6_method_20_code 0 = .ok (.aload_n 0, 1) := by decide +kernel
theorem d_M_leave_1 : decode prog_6_method_20_code 1 = .ok (.dup, 1) := by decide +kernel
theorem d_M_leave_2 : decode prog_6_method_20_code 2 = .ok (.getfield 113, 3) := by decide +kernel
theorem d_M_leave_5 : decode prog_6_method_20_code 5 = .ok (.iconst 1, 1) := by decide +kernel
theorem d_M_leave_6 : decode prog_6_method_20_code 6 = .ok (.iadd, 1) := by decide +kernel
theorem d_M_leave_7 : decode prog_6_method_20_code 7 = .ok (.putfield 113, 3) := by decide +kernel
theorem d_M_leave_10 : decode prog_6_method_20_code 10 = .ok (.aload_n 0, 1) := by decide +kernel
theorem d_M_leave_11 : decode prog_6_method_20_code 11 = .ok (.aload_n 0, 1) := by decide +kernel
theorem d_M_leave_12 : decode prog_6_method_20_code 12 = .ok (.getfield 50, 3) := by decide +kernel
theorem d_M_leave_15 : decode prog_6_method_20_code 15 = .ok (.iconst 2, 1) := by decide +kernel
theorem d_M_leave_16 : decode prog_6_method_20_code 16 = .ok (.idiv, 1) := by decide +kernel
theorem d_M_leave_17 : decode prog_6_method_20_code 17 = .ok (.putfield 116, 3) := by decide +kernel
theorem d_M_leave_20 : decode prog_6_method_20_code 20 = .ok (.aload_n 0, 1) := by decide +kernel
theorem d_M_leave_21 : decode prog_6_method_20_code 21 = .ok (.iload_n 1, 1) := by decide +kernel
theorem d_M_leave_22 : decode prog_6_method_20_code 22 = .ok (.putfield 119, 3) := by decide +kernel
theorem d_M_leave_25 : decode prog_6_method_20_code 25 = .ok (.aload_n 0, 1) := by decide +kernel
theorem d_M_leave_26 : decode prog_6_method_20_code 26 = .ok (.iload_n 2, 1) := by decide +kernel
theorem d_M_leave_27 : decode prog_6_method_20_code 27 = .ok (.putfield 122, 3) := by decide +kernel
theorem d_M_leave_30 : decode prog_6_method_20_code 30 = .ok (.aload_n 0, 1) := by decide +kernel
theorem d_M_leave_31 : decode prog_6_method_20_code 31 = .ok (.aload_n 0, 1) := by decide +kernel
theorem d_M_leave_32 : decode prog_6_method_20_code 32 = .ok (.getfield 125, 3) := by decide +kernel
theorem d_M_leave_35 : decode prog_6_method_20_code 35 = .ok (.putfield 128, 3) := by decide +kernel
theorem d_M_leave_38 : decode prog_6_method_20_code 38 = .ok (.aload_n 0, 1) := by decide +kernel
theorem d_M_leave_39 : decode prog_6_method_20_code 39 = .ok (.bipush 6, 2) := by decide +kernel
theorem d_M_leave_41 : decode prog_6_method_20_code 41 = .ok (.putfield 50, 3) := by decide +kernel
theorem d_M_leave_44 : decode prog_6_method_20_code 44 = .ok (.aload_n 0, 1) := by decide +kernel
theorem d_M_leave_45 : decode prog_6_method_20_code 45 = .ok (.getfield 44, 3) := by decide +kernel
theorem d_M_leave_48 : decode prog_6_method_20_code 48 = .ok (.bipush 49, 2) := by decide +kernel
theorem d_M_leave_50 : decode prog_6_method_20_code 50 = .ok (.iload_n 1, 1) := by decide +kernel
theorem d_M_leave_51 : decode prog_6_method_20_code 51 = .ok (.iastore, 1) := by decide +kernel
theorem d_M_leave_52 : decode prog_6_method_20_code 52 = .ok (.aload_n 0, 1) := by decide +kernel
theorem d_M_leave_53 : decode prog_6_method_20_code 53 = .ok (.getfield 44, 3) := by decide +kernel
theorem d_M_leave_56 : decode prog_6_method_20_code 56 = .ok (.bipush 50, 2) := by decide +kernel
theorem d_M_leave_58 : decode prog_6_method_20_code 58 = .ok (.iload_n 2, 1) := by decide +kernel
theorem d_M_leave_59 : decode prog_6_method_20_code 59 = .ok (.iastore, 1) := by decide +kernel
theorem d_M_leave_60 : decode prog_6_method_20_code 60 = .ok (.return_, 1) := by decide +kernel
theorem d_M_fault_0 : decode prog_6_method_21_code 0 = .ok (.aload_n 0, 1) := by decide +kernel
theorem d_M_fault_1 : decode prog_6_method_21_code 1 = .ok (.getfield 50, 3) := by decide +kernel
theorem d_M_fault_4 : decode prog_6_method_21_code 4 = .ok (.bipush 6, 2) := by decide +kernel
theorem d_M_fault_6 : decode prog_6_method_21_code 6 = .ok (.if_icmp .ne 11, 3) := by decide +kernel
theorem d_M_fault_9 : decode prog_6_method_21_code 9 = .ok (.aload_n 0, 1) := by decide +kernel
theorem d_M_fault_10 : decode prog_6_method_21_code 10 = .ok (.iconst 1, 1) := by decide +kernel
theorem d_M_fault_11 : decode prog_6_method_21_code 11 = .ok (.putfield 131, 3) := by decide +kernel
theorem d_M_fault_14 : decode prog_6_method_21_code 14 = .ok (.goto 19, 3) := by decide +kernel
theorem d_M_fault_17 : decode prog_6_method_21_code 17 = .ok (.aload_n 0, 1) := by decide +kernel
theorem d_M_fault_18 : decode prog_6_method_21_code 18 = .ok (.getfield 38, 3) := by decide +kernel
theorem d_M_fault_21 : decode prog_6_method_21_code 21 = .ok (.aload_n 0, 1) := by decide +kernel
theorem d_M_fault_22 : decode prog_6_method_21_code 22 = .ok (.getfield 50, 3) := by decide +kernel
theorem d_M_fault_25 : decode prog_6_method_21_code 25 = .ok (.iconst 1, 1) := by decide +kernel
theorem d_M_fault_26 : decode prog_6_method_21_code 26 = .ok (.iastore, 1) := by decide +kernel
theorem d_M_fault_27 : decode prog_6_method_21_code 27 = .ok (.aload_n 0, 1) := by decide +kernel
theorem d_M_fault_28 : decode prog_6_method_21_code 28 = .ok (.iload_n 1, 1) := by decide +kernel
theorem d_M_fault_29 : decode prog_6_method_21_code 29 = .ok (.iconst 0, 1) := by decide +kernel
theorem d_M_fault_30 : decode prog_6_method_21_code 30 = .ok (.invokevirtual 135, 3) := by decide +kernel
theorem d_M_fault_33 : decode prog_6_method_21_code 33 = .ok (.return_, 1) := by decide +kernel
theorem d_M_step_0 : decode prog_6_method_22_code 0 = .ok (.aload_n 0, 1) := by decide +kernel
theorem d_M_step_1 : decode prog_6_method_22_code 1 = .ok (.dup, 1) := by decide +kernel
theorem d_M_step_2 : decode prog_6_method_22_code 2 = .ok (.getfield 125, 3) := by decide +kernel
theorem d_M_step_5 : decode prog_6_method_22_code 5 = .ok (.iconst 1, 1) := by decide +kernel
theorem d_M_step_6 : decode prog_6_method_22_code 6 = .ok (.iadd, 1) := by decide +kernel
theorem d_M_step_7 : decode prog_6_method_22_code 7 = .ok (.putfield 125, 3) := by decide +kernel
theorem d_M_step_10 : decode prog_6_method_22_code 10 = .ok (.aload_n 0, 1) := by decide +kernel
theorem d_M_step_11 : decode prog_6_method_22_code 11 = .ok (.getfield 50, 3) := by decide +kernel
theorem d_M_step_14 : decode prog_6_method_22_code 14 = .ok (.bipush 6, 2) := by decide +kernel
theorem d_M_step_16 : decode prog_6_method_22_code 16 = .ok (.if_icmp .ge 39, 3) := by decide +kernel
theorem d_M_step_19 : decode prog_6_method_22_code 19 = .ok (.aload_n 0, 1) := by decide +kernel
theorem d_M_step_20 : decode prog_6_method_22_code 20 = .ok (.getfield 138, 3) := by decide +kernel
theorem d_M_step_23 : decode prog_6_method_22_code 23 = .ok (.ifCond .le 32, 3) := by decide +kernel
theorem d_M_step_26 : decode prog_6_method_22_code 26 = .ok (.aload_n 0, 1) := by decide +kernel
theorem d_M_step_27 : decode prog_6_method_22_code 27 = .ok (.getfield 125, 3) := by decide +kernel
theorem d_M_step_30 : decode prog_6_method_22_code 30 = .ok (.aload_n 0, 1) := by decide +kernel
theorem d_M_step_31 : decode prog_6_method_22_code 31 = .ok (.getfield 138, 3) := by decide +kernel
theorem d_M_step_34 : decode prog_6_method_22_code 34 = .ok (.irem, 1) := by decide +kernel
theorem d_M_step_35 : decode prog_6_method_22_code 35 = .ok (.ifCond .ne 20, 3) := by decide +kernel
theorem d_M_step_38 : decode prog_6_method_22_code 38 = .ok (.aload_n 0, 1) := by decide +kernel
theorem d_M_step_39 : decode prog_6_method_22_code 39 = .ok (.getfield 38, 3) := by decide +kernel
theorem d_M_step_42 : decode prog_6_method_22_code 42 = .ok (.aload_n 0, 1) := by decide +kernel
theorem d_M_step_43 : decode prog_6_method_22_code 43 = .ok (.getfield 50, 3) := by decide +kernel
theorem d_M_step_46 : decode prog_6_method_22_code 46 = .ok (.iconst 3, 1) := by decide +kernel
theorem d_M_step_47 : decode prog_6_method_22_code 47 = .ok (.iastore, 1) := by decide +kernel
theorem d_M_step_48 : decode prog_6_method_22_code 48 = .ok (.aload_n 0, 1) := by decide +kernel
theorem d_M_step_49 : decode prog_6_method_22_code 49 = .ok (.iconst 2, 1) := by decide +kernel
theorem d_M_step_50 : decode prog_6_method_22_code 50 = .ok (.iconst 0, 1) := by decide +kernel
theorem d_M_step_51 : decode prog_6_method_22_code 51 = .ok (.invokevirtual 135, 3) := by decide +kernel
theorem d_M_step_54 : decode prog_6_method_22_code 54 = .ok (.return_, 1) := by decide +kernel
theorem d_M_step_55 : decode prog_6_method_22_code 55 = .ok (.aload_n 0, 1) := by decide +kernel
theorem d_M_step_56 : decode prog_6_method_22_code 56 = .ok (.getfield 47, 3) := by decide +kernel
theorem d_M_step_59 : decode prog_6_method_22_code 59 = .ok (.aload_n 0, 1) := by decide +kernel
theorem d_M_step_60 : decode prog_6_method_22_code 60 = .ok (.getfield 50, 3) := by decide +kernel
theorem d_M_step_63 : decode prog_6_method_22_code 63 = .ok (.iaload, 1) := by decide +kernel
theorem d_M_step_64 : decode prog_6_method_22_code 64 = .ok (.istore_n 1, 1) := by decide +kernel
theorem d_M_step_65 : decode prog_6_method_22_code 65 = .ok (.aload_n 0, 1) := by decide +kernel
theorem d_M_step_66 : decode prog_6_method_22_code 66 = .ok (.aload_n 0, 1) := by decide +kernel
theorem d_M_step_67 : decode prog_6_method_22_code 67 = .ok (.getfield 50, 3) := by decide +kernel
theorem d_M_step_70 : decode prog_6_method_22_code 70 = .ok (.iload_n 1, 1) := by decide +kernel
theorem d_M_step_71 : decode prog_6_method_22_code 71 = .ok (.invokevirtual 141, 3) := by decide +kernel
theorem d_M_step_74 : decode prog_6_method_22_code 74 = .ok (.ifCond .ne 9, 3) := by decide +kernel
theorem d_M_step_77 : decode prog_6_method_22_code 77 = .ok (.aload_n 0, 1) := by decide +kernel
theorem d_M_step_78 : decode prog_6_method_22_code 78 = .ok (.iconst 3, 1) := by decide +kernel
theorem d_M_step_79 : decode prog_6_method_22_code 79 = .ok (.invokevirtual 144, 3) := by decide +kernel
theorem d_M_step_82 : decode prog_6_method_22_code 82 = .ok (.return_, 1) := by decide +kernel
theorem d_M_step_83 : decode prog_6_method_22_code 83 = .ok (.aload_n 0, 1) := by decide +kernel
theorem d_M_step_84 : decode prog_6_method_22_code 84 = .ok (.getfield 7, 3) := by decide +kernel
theorem d_M_step_87 : decode prog_6_method_22_code 87 = .ok (.iload_n 1, 1) := by decide +kernel
theorem d_M_step_88 : decode prog_6_method_22_code 88 = .ok (.iaload, 1) := by decide +kernel
theorem d_M_step_89 : decode prog_6_method_22_code 89 = .ok (.istore_n 2, 1) := by decide +kernel
theorem d_M_step_90 : decode prog_6_method_22_code 90 = .ok (.iload_n 2, 1) := by decide +kernel
theorem d_M_step_91 : decode prog_6_method_22_code 91 = .ok (.bipush 15, 2) := by decide +kernel
theorem d_M_step_93 : decode prog_6_method_22_code 93 = .ok (.iand, 1) := by decide +kernel
theorem d_M_step_94 : decode prog_6_method_22_code 94 = .ok (.istore_n 3, 1) := by decide +kernel
theorem d_M_step_95 : decode prog_6_method_22_code 95 = .ok (.bipush 8, 2) := by decide +kernel
theorem d_M_step_97 : decode prog_6_method_22_code 97 = .ok (.aload_n 0, 1) := by decide +kernel
theorem d_M_step_98 : decode prog_6_method_22_code 98 = .ok (.getfield 50, 3) := by decide +kernel
theorem d_M_step_101 : decode prog_6_method_22_code 101 = .ok (.imul, 1) := by decide +kernel
theorem d_M_step_102 : decode prog_6_method_22_code 102 = .ok (.istore 4, 2) := by decide +kernel
theorem d_M_step_104 : decode prog_6_method_22_code 104 = .ok (.iload_n 2, 1) := by decide +kernel
theorem d_M_step_105 : decode prog_6_method_22_code 105 = .ok (.iconst 4, 1) := by decide +kernel
theorem d_M_step_106 : decode prog_6_method_22_code 106 = .ok (.ishr, 1) := by decide +kernel
theorem d_M_step_107 : decode prog_6_method_22_code 107 = .ok (.bipush 7, 2) := by decide +kernel
theorem d_M_step_109 : decode prog_6_method_22_code 109 = .ok (.iand, 1) := by decide +kernel
theorem d_M_step_110 : decode prog_6_method_22_code 110 = .ok (.istore 5, 2) := by decide +kernel
theorem d_M_step_112 : decode prog_6_method_22_code 112 = .ok (.aload_n 0, 1) := by decide +kernel
theorem d_M_step_113 : decode prog_6_method_22_code 113 = .ok (.getfield 44, 3) := by decide +kernel
theorem d_M_step_116 : decode prog_6_method_22_code 116 = .ok (.iload 4, 2) := by decide +kernel
theorem d_M_step_118 : decode prog_6_method_22_code 118 = .ok (.iload_n 2, 1) := by decide +kernel
theorem d_M_step_119 : decode prog_6_method_22_code 119 = .ok (.bipush 7, 2) := by decide +kernel
theorem d_M_step_121 : decode prog_6_method_22_code 121 = .ok (.ishr, 1) := by decide +kernel
theorem d_M_step_122 : decode prog_6_method_22_code 122 = .ok (.bipush 7, 2) := by decide +kernel
theorem d_M_step_124 : decode prog_6_method_22_code 124 = .ok (.iand, 1) := by decide +kernel
theorem d_M_step_125 : decode prog_6_method_22_code 125 = .ok (.iadd, 1) := by decide +kernel
theorem d_M_step_126 : decode prog_6_method_22_code 126 = .ok (.iaload, 1) := by decide +kernel
theorem d_M_step_127 : decode prog_6_method_22_code 127 = .ok (.istore 6, 2) := by decide +kernel
theorem d_M_step_129 : decode prog_6_method_22_code 129 = .ok (.aload_n 0, 1) := by decide +kernel
theorem d_M_step_130 : decode prog_6_method_22_code 130 = .ok (.getfield 44, 3) := by decide +kernel
theorem d_M_step_133 : decode prog_6_method_22_code 133 = .ok (.iload 4, 2) := by decide +kernel
theorem d_M_step_135 : decode prog_6_method_22_code 135 = .ok (.iload_n 2, 1) := by decide +kernel
theorem d_M_step_136 : decode prog_6_method_22_code 136 = .ok (.bipush 10, 2) := by decide +kernel
theorem d_M_step_138 : decode prog_6_method_22_code 138 = .ok (.ishr, 1) := by decide +kernel
theorem d_M_step_139 : decode prog_6_method_22_code 139 = .ok (.bipush 7, 2) := by decide +kernel
theorem d_M_step_141 : decode prog_6_method_22_code 141 = .ok (.iand, 1) := by decide +kernel
theorem d_M_step_142 : decode prog_6_method_22_code 142 = .ok (.iadd, 1) := by decide +kernel
theorem d_M_step_143 : decode prog_6_method_22_code 143 = .ok (.iaload, 1) := by decide +kernel
theorem d_M_step_144 : decode prog_6_method_22_code 144 = .ok (.istore 7, 2) := by decide +kernel
theorem d_M_step_146 : decode prog_6_method_22_code 146 = .ok (.iload_n 2, 1) := by decide +kernel
theorem d_M_step_147 : decode prog_6_method_22_code 147 = .ok (.bipush 16, 2) := by decide +kernel
theorem d_M_step_149 : decode prog_6_method_22_code 149 = .ok (.ishr, 1) := by decide +kernel
theorem d_M_step_150 : decode prog_6_method_22_code 150 = .ok (.istore 8, 2) := by decide +kernel
theorem d_M_step_152 : decode prog_6_method_22_code 152 = .ok (.iload_n 3, 1) := by decide +kernel
theorem d_M_step_153 : decode prog_6_method_22_code 153 = .ok (.iconst 1, 1) := by decide +kernel
theorem d_M_step_154 : decode prog_6_method_22_code 154 = .ok (.if_icmp .lt 101, 3) := by decide +kernel
theorem d_M_step_157 : decode prog_6_method_22_code 157 = .ok (.iload_n 3, 1) := by decide +kernel
theorem d_M_step_158 : decode prog_6_method_22_code 158 = .ok (.bipush 6, 2) := by decide +kernel
theorem d_M_step_160 : decode prog_6_method_22_code 160 = .ok (.if_icmp .gt 95, 3) := by decide +kernel
theorem d_M_step_163 : decode prog_6_method_22_code 163 = .ok (.iload_n 3, 1) := by decide +kernel
theorem d_M_step_164 : decode prog_6_method_22_code 164 = .ok (.iconst 1, 1) := by decide +kernel
theorem d_M_step_165 : decode prog_6_method_22_code 165 = .ok (.if_icmp .ne 8, 3) := by decide +kernel
theorem d_M_step_168 : decode prog_6_method_22_code 168 = .ok (.iload 8, 2) := by decide +kernel
theorem d_M_step_170 : decode prog_6_method_22_code 170 = .ok (.goto 60, 3) := by decide +kernel
theorem d_M_step_173 : decode prog_6_method_22_code 173 = .ok (.iload_n 3, 1) := by decide +kernel
theorem d_M_step_174 : decode prog_6_method_22_code 174 = .ok (.iconst 2, 1) := by decide +kernel
theorem d_M_step_175 : decode prog_6_method_22_code 175 = .ok (.if_icmp .ne 11, 3) := by decide +kernel
theorem d_M_step_178 : decode prog_6_method_22_code 178 = .ok (.iload 6, 2) := by decide +kernel
theorem d_M_step_180 : decode prog_6_method_22_code 180 = .ok (.iload 8, 2) := by decide +kernel
theorem d_M_step_182 : decode prog_6_method_22_code 182 = .ok (.iadd, 1) := by decide +kernel
theorem d_M_step_183 : decode prog_6_method_22_code 183 = .ok (.goto 47, 3) := by decide +kernel
theorem d_M_step_186 : decode prog_6_method_22_code 186 = .ok (.iload_n 3, 1) := by decide +kernel
theorem d_M_step_187 : decode prog_6_method_22_code 187 = .ok (.iconst 3, 1) := by decide +kernel
theorem d_M_step_188 : decode prog_6_method_22_code 188 = .ok (.if_icmp .ne 11, 3) := by decide +kernel
theorem d_M_step_191 : decode prog_6_method_22_code 191 = .ok (.iload 6, 2) := by decide +kernel
theorem d_M_step_193 : decode prog_6_method_22_code 193 = .ok (.iload 7, 2) := by decide +kernel
theorem d_M_step_195 : decode prog_6_method_22_code 195 = .ok (.iadd, 1) := by decide +kernel
theorem d_M_step_196 : decode prog_6_method_22_code 196 = .ok (.goto 34, 3) := by decide +kernel
theorem d_M_step_199 : decode prog_6_method_22_code 199 = .ok (.iload_n 3, 1) := by decide +kernel
theorem d_M_step_200 : decode prog_6_method_22_code 200 = .ok (.iconst 4, 1) := by decide +kernel
theorem d_M_step_201 : decode prog_6_method_22_code 201 = .ok (.if_icmp .ne 11, 3) := by decide +kernel
theorem d_M_step_204 : decode prog_6_method_22_code 204 = .ok (.iload 6, 2) := by decide +kernel
theorem d_M_step_206 : decode prog_6_method_22_code 206 = .ok (.iload 7, 2) := by decide +kernel
theorem d_M_step_208 : decode prog_6_method_22_code 208 = .ok (.isub, 1) := by decide +kernel
theorem d_M_step_209 : decode prog_6_method_22_code 209 = .ok (.goto 21, 3) := by decide +kernel
theorem d_M_step_212 : decode prog_6_method_22_code 212 = .ok (.iload_n 3, 1) := by decide +kernel
theorem d_M_step_213 : decode prog_6_method_22_code 213 = .ok (.iconst 5, 1) := by decide +kernel
theorem d_M_step_214 : decode prog_6_method_22_code 214 = .ok (.if_icmp .ne 11, 3) := by decide +kernel
theorem d_M_step_217 : decode prog_6_method_22_code 217 = .ok (.iload 6, 2) := by decide +kernel
theorem d_M_step_219 : decode prog_6_method_22_code 219 = .ok (.iload 7, 2) := by decide +kernel
theorem d_M_step_221 : decode prog_6_method_22_code 221 = .ok (.imul, 1) := by decide +kernel
theorem d_M_step_222 : decode prog_6_method_22_code 222 = .ok (.goto 8, 3) := by decide +kernel
theorem d_M_step_225 : decode prog_6_method_22_code 225 = .ok (.iload 6, 2) := by decide +kernel
theorem d_M_step_227 : decode prog_6_method_22_code 227 = .ok (.iload 7, 2) := by decide +kernel
theorem d_M_step_229 : decode prog_6_method_22_code 229 = .ok (.ixor, 1) := by decide +kernel
theorem d_M_step_230 : decode prog_6_method_22_code 230 = .ok (.istore 9, 2) := by decide +kernel
theorem d_M_step_232 : decode prog_6_method_22_code 232 = .ok (.aload_n 0, 1) := by decide +kernel
theorem d_M_step_233 : decode prog_6_method_22_code 233 = .ok (.iload 5, 2) := by decide +kernel
theorem d_M_step_235 : decode prog_6_method_22_code 235 = .ok (.iload 9, 2) := by decide +kernel
theorem d_M_step_237 : decode prog_6_method_22_code 237 = .ok (.invokevirtual 147, 3) := by decide +kernel
theorem d_M_step_240 : decode prog_6_method_22_code 240 = .ok (.aload_n 0, 1) := by decide +kernel
theorem d_M_step_241 : decode prog_6_method_22_code 241 = .ok (.getfield 47, 3) := by decide +kernel
theorem d_M_step_244 : decode prog_6_method_22_code 244 = .ok (.aload_n 0, 1) := by decide +kernel
theorem d_M_step_245 : decode prog_6_method_22_code 245 = .ok (.getfield 50, 3) := by decide +kernel
theorem d_M_step_248 : decode prog_6_method_22_code 248 = .ok (.iload_n 1, 1) := by decide +kernel
theorem d_M_step_249 : decode prog_6_method_22_code 249 = .ok (.iconst 1, 1) := by decide +kernel
theorem d_M_step_250 : decode prog_6_method_22_code 250 = .ok (.iadd, 1) := by decide +kernel
theorem d_M_step_251 : decode prog_6_method_22_code 251 = .ok (.iastore, 1) := by decide +kernel
theorem d_M_step_252 : decode prog_6_method_22_code 252 = .ok (.goto 148, 3) := by decide +kernel
theorem d_M_step_255 : decode prog_6_method_22_code 255 = .ok (.iload_n 3, 1) := by decide +kernel
theorem d_M_step_256 : decode prog_6_method_22_code 256 = .ok (.bipush 7, 2) := by decide +kernel
theorem d_M_step_258 : decode prog_6_method_22_code 258 = .ok (.if_icmp .eq 9, 3) := by decide +kernel
theorem d_M_step_261 : decode prog_6_method_22_code 261 = .ok (.iload_n 3, 1) := by decide +kernel
theorem d_M_step_262 : decode prog_6_method_22_code 262 = .ok (.bipush 8, 2) := by decide +kernel
theorem d_M_step_264 : decode prog_6_method_22_code 264 = .ok (.if_icmp .ne 28, 3) := by decide +kernel
theorem d_M_step_267 : decode prog_6_method_22_code 267 = .ok (.aload_n 0, 1) := by decide +kernel
theorem d_M_step_268 : decode prog_6_method_22_code 268 = .ok (.iload_n 3, 1) := by decide +kernel
theorem d_M_step_269 : decode prog_6_method_22_code 269 = .ok (.bipush 7, 2) := by decide +kernel
theorem d_M_step_271 : decode prog_6_method_22_code 271 = .ok (.if_icmp .ne 7, 3) := by decide +kernel
theorem d_M_step_274 : decode prog_6_method_22_code 274 = .ok (.iconst 1, 1) := by decide +kernel
theorem d_M_step_275 : decode prog_6_method_22_code 275 = .ok (.goto 4, 3) := by decide +kernel
theorem d_M_step_278 : decode prog_6_method_22_code 278 = .ok (.iconst 0, 1) := by decide +kernel
theorem d_M_step_279 : decode prog_6_method_22_code 279 = .ok (.iload 5, 2) := by decide +kernel
theorem d_M_step_281 : decode prog_6_method_22_code 281 = .ok (.iload 6, 2) := by decide +kernel
theorem d_M_step_283 : decode prog_6_method_22_code 283 = .ok (.iload 8, 2) := by decide +kernel
theorem d_M_step_285 : decode prog_6_method_22_code 285 = .ok (.iadd, 1) := by decide +kernel
theorem d_M_step_286 : decode prog_6_method_22_code 286 = .ok (.invokevirtual 150, 3) := by decide +kernel
theorem d_M_step_289 : decode prog_6_method_22_code 289 = .ok (.goto 111, 3) := by decide +kernel
theorem d_M_step_292 : decode prog_6_method_22_code 292 = .ok (.iload_n 3, 1) := by decide +kernel
theorem d_M_step_293 : decode prog_6_method_22_code 293 = .ok (.bipush 9, 2) := by decide +kernel
theorem d_M_step_295 : decode prog_6_method_22_code 295 = .ok (.if_icmp .eq 9, 3) := by decide +kernel
theorem d_M_step_298 : decode prog_6_method_22_code 298 = .ok (.iload_n 3, 1) := by decide +kernel
theorem d_M_step_299 : decode prog_6_method_22_code 299 = .ok (.bipush 10, 2) := by decide +kernel
theorem d_M_step_301 : decode prog_6_method_22_code 301 = .ok (.if_icmp .ne 79, 3) := by decide +kernel
theorem d_M_step_304 : decode prog_6_method_22_code 304 = .ok (.aload_n 0, 1) := by decide +kernel
theorem d_M_step_305 : decode prog_6_method_22_code 305 = .ok (.getfield 44, 3) := by decide +kernel
theorem d_M_step_308 : decode prog_6_method_22_code 308 = .ok (.iload 4, 2) := by decide +kernel
theorem d_M_step_310 : decode prog_6_method_22_code 310 = .ok (.iload 5, 2) := by decide +kernel
theorem d_M_step_312 : decode prog_6_method_22_code 312 = .ok (.iadd, 1) := by decide +kernel
theorem d_M_step_313 : decode prog_6_method_22_code 313 = .ok (.iaload, 1) := by decide +kernel
theorem d_M_step_314 : decode prog_6_method_22_code 314 = .ok (.istore 9, 2) := by decide +kernel
theorem d_M_step_316 : decode prog_6_method_22_code 316 = .ok (.iload_n 3, 1) := by decide +kernel
theorem d_M_step_317 : decode prog_6_method_22_code 317 = .ok (.bipush 9, 2) := by decide +kernel
theorem d_M_step_319 : decode prog_6_method_22_code 319 = .ok (.if_icmp .ne 18, 3) := by decide +kernel
theorem d_M_step_322 : decode prog_6_method_22_code 322 = .ok (.iload 9, 2) := by decide +kernel
theorem d_M_step_324 : decode prog_6_method_22_code 324 = .ok (.iload 6, 2) := by decide +kernel
theorem d_M_step_326 : decode prog_6_method_22_code 326 = .ok (.if_icmp .ne 7, 3) := by decide +kernel
theorem d_M_step_329 : decode prog_6_method_22_code 329 = .ok (.iconst 1, 1) := by decide +kernel
theorem d_M_step_330 : decode prog_6_method_22_code 330 = .ok (.goto 19, 3) := by decide +kernel
theorem d_M_step_333 : decode prog_6_method_22_code 333 = .ok (.iconst 0, 1) := by decide +kernel
theorem d_M_step_334 : decode prog_6_method_22_code 334 = .ok (.goto 15, 3) := by decide +kernel
theorem d_M_step_337 : decode prog_6_method_22_code 337 = .ok (.iload 9, 2) := by decide +kernel
theorem d_M_step_339 : decode prog_6_method_22_code 339 = .ok (.iload 6, 2) := by decide +kernel
theorem d_M_step_341 : decode prog_6_method_22_code 341 = .ok (.if_icmp .ge 7, 3) := by decide +kernel
theorem d_M_step_344 : decode prog_6_method_22_code 344 = .ok (.iconst 1, 1) := by decide +kernel
theorem d_M_step_345 : decode prog_6_method_22_code 345 = .ok (.goto 4, 3) := by decide +kernel
theorem d_M_step_348 : decode prog_6_method_22_code 348 = .ok (.iconst 0, 1) := by decide +kernel
theorem d_M_step_349 : decode prog_6_method_22_code 349 = .ok (.istore 10, 2) := by decide +kernel
theorem d_M_step_351 : decode prog_6_method_22_code 351 = .ok (.aload_n 0, 1) := by decide +kernel
theorem d_M_step_352 : decode prog_6_method_22_code 352 = .ok (.getfield 47, 3) := by decide +kernel
theorem d_M_step_355 : decode prog_6_method_22_code 355 = .ok (.aload_n 0, 1) := by decide +kernel
theorem d_M_step_356 : decode prog_6_method_22_code 356 = .ok (.getfield 50, 3) := by decide +kernel
theorem d_M_step_359 : decode prog_6_method_22_code 359 = .ok (.iload 10, 2) := by decide +kernel
theorem d_M_step_361 : decode prog_6_method_22_code 361 = .ok (.ifCond .eq 12, 3) := by decide +kernel
theorem d_M_step_364 : decode prog_6_method_22_code 364 = .ok (.iload_n 1, 1) := by decide +kernel
theorem d_M_step_365 : decode prog_6_method_22_code 365 = .ok (.iconst 1, 1) := by decide +kernel
theorem d_M_step_366 : decode prog_6_method_22_code 366 = .ok (.iadd, 1) := by decide +kernel
theorem d_M_step_367 : decode prog_6_method_22_code 367 = .ok (.iload 8, 2) := by decide +kernel
theorem d_M_step_369 : decode prog_6_method_22_code 369 = .ok (.iadd, 1) := by decide +kernel
theorem d_M_step_370 : decode prog_6_method_22_code 370 = .ok (.goto 6, 3) := by decide +kernel
theorem d_M_step_373 : decode prog_6_method_22_code 373 = .ok (.iload_n 1, 1) := by decide +kernel
theorem d_M_step_374 : decode prog_6_method_22_code 374 = .ok (.iconst 1, 1) := by decide +kernel
theorem d_M_step_375 : decode prog_6_method_22_code 375 = .ok (.iadd, 1) := by decide +kernel
theorem d_M_step_376 : decode prog_6_method_22_code 376 = .ok (.iastore, 1) := by decide +kernel
theorem d_M_step_377 : decode prog_6_method_22_code 377 = .ok (.goto 23, 3) := by decide +kernel
theorem d_M_step_380 : decode prog_6_method_22_code 380 = .ok (.iload_n 3, 1) := by decide +kernel
theorem d_M_step_381 : decode prog_6_method_22_code 381 = .ok (.bipush 11, 2) := by decide +kernel
theorem d_M_step_383 : decode prog_6_method_22_code 383 = .ok (.if_icmp .ne 12, 3) := by decide +kernel
theorem d_M_step_386 : decode prog_6_method_22_code 386 = .ok (.aload_n 0, 1) := by decide +kernel
theorem d_M_step_387 : decode prog_6_method_22_code 387 = .ok (.iload 8, 2) := by decide +kernel
theorem d_M_step_389 : decode prog_6_method_22_code 389 = .ok (.invokevirtual 154, 3) := by decide +kernel
theorem d_M_step_392 : decode prog_6_method_22_code 392 = .ok (.goto 8, 3) := by decide +kernel
theorem d_M_step_395 : decode prog_6_method_22_code 395 = .ok (.aload_n 0, 1) := by decide +kernel
theorem d_M_step_396 : decode prog_6_method_22_code 396 = .ok (.iconst 4, 1) := by decide +kernel
theorem d_M_step_397 : decode prog_6_method_22_code 397 = .ok (.invokevirtual 144, 3) := by decide +kernel
theorem d_M_step_400 : decode prog_6_method_22_code 400 = .ok (.return_, 1) := by decide +kernel
theorem d_M_put_0 : decode prog_6_method_23_code 0 = .ok (.iload_n 1, 1) := by decide +kernel
theorem d_M_put_1 : decode prog_6_method_23_code 1 = .ok (.ifCond .le 18, 3) := by decide +kernel
theorem d_M_put_4 : decode prog_6_method_23_code 4 = .ok (.aload_n 0, 1) := by decide +kernel
theorem d_M_put_5 : decode prog_6_method_23_code 5 = .ok (.getfield 44, 3) := by decide +kernel
theorem d_M_put_8 : decode prog_6_method_23_code 8 = .ok (.bipush 8, 2) := by decide +kernel
theorem d_M_put_10 : decode prog_6_method_23_code 10 = .ok (.aload_n 0, 1) := by decide +kernel
theorem d_M_put_11 : decode prog_6_method_23_code 11 = .ok (.getfield 50, 3) := by decide +kernel
theorem d_M_put_14 : decode prog_6_method_23_code 14 = .ok (.imul, 1) := by decide +kernel
theorem d_M_put_15 : decode prog_6_method_23_code 15 = .ok (.iload_n 1, 1) := by decide +kernel
theorem d_M_put_16 : decode prog_6_method_23_code 16 = .ok (.iadd, 1) := by decide +kernel
theorem d_M_put_17 : decode prog_6_method_23_code 17 = .ok (.iload_n 2, 1) := by decide +kernel
theorem d_M_put_18 : decode prog_6_method_23_code 18 = .ok (.iastore, 1) := by decide +kernel
theorem d_M_put_19 : decode prog_6_method_23_code 19 = .ok (.return_, 1) := by decide +kernel
theorem d_M_access_0 : decode prog_6_method_24_code 0 = .ok (.aload_n 0, 1) := by decide +kernel
theorem d_M_access_1 : decode prog_6_method_24_code 1 = .ok (.aload_n 0, 1) := by decide +kernel
theorem d_M_access_2 : decode prog_6_method_24_code 2 = .ok (.getfield 50, 3) := by decide +kernel
theorem d_M_access_5 : decode prog_6_method_24_code 5 = .ok (.iload_n 3, 1) := by decide +kernel
theorem d_M_access_6 : decode prog_6_method_24_code 6 = .ok (.invokevirtual 141, 3) := by decide +kernel
theorem d_M_access_9 : decode prog_6_method_24_code 9 = .ok (.ifCond .ne 9, 3) := by decide +kernel
theorem d_M_access_12 : decode prog_6_method_24_code 12 = .ok (.aload_n 0, 1) := by decide +kernel
theorem d_M_access_13 : decode prog_6_method_24_code 13 = .ok (.iconst 3, 1) := by decide +kernel
theorem d_M_access_14 : decode prog_6_method_24_code 14 = .ok (.invokevirtual 144, 3) := by decide +kernel
theorem d_M_access_17 : decode prog_6_method_24_code 17 = .ok (.return_, 1) := by decide +kernel
theorem d_M_access_18 : decode prog_6_method_24_code 18 = .ok (.iload_n 1, 1) := by decide +kernel
theorem d_M_access_19 : decode prog_6_method_24_code 19 = .ok (.ifCond .eq 17, 3) := by decide +kernel
theorem d_M_access_22 : decode prog_6_method_24_code 22 = .ok (.aload_n 0, 1) := by decide +kernel
theorem d_M_access_23 : decode prog_6_method_24_code 23 = .ok (.iload_n 2, 1) := by decide +kernel
theorem d_M_access_24 : decode prog_6_method_24_code 24 = .ok (.aload_n 0, 1) := by decide +kernel
theorem d_M_access_25 : decode prog_6_method_24_code 25 = .ok (.getfield 7, 3) := by decide +kernel
theorem d_M_access_28 : decode prog_6_method_24_code 28 = .ok (.iload_n 3, 1) := by decide +kernel
theorem d_M_access_29 : decode prog_6_method_24_code 29 = .ok (.iaload, 1) := by decide +kernel
theorem d_M_access_30 : decode prog_6_method_24_code 30 = .ok (.invokevirtual 147, 3) := by decide +kernel
theorem d_M_access_33 : decode prog_6_method_24_code 33 = .ok (.goto 23, 3) := by decide +kernel
theorem d_M_access_36 : decode prog_6_method_24_code 36 = .ok (.aload_n 0, 1) := by decide +kernel
theorem d_M_access_37 : decode prog_6_method_24_code 37 = .ok (.getfield 7, 3) := by decide +kernel
theorem d_M_access_40 : decode prog_6_method_24_code 40 = .ok (.iload_n 3, 1) := by decide +kernel
theorem d_M_access_41 : decode prog_6_method_24_code 41 = .ok (.aload_n 0, 1) := by decide +kernel
theorem d_M_access_42 : decode prog_6_method_24_code 42 = .ok (.getfield 44, 3) := by decide +kernel
theorem d_M_access_45 : decode prog_6_method_24_code 45 = .ok (.bipush 8, 2) := by decide +kernel
theorem d_M_access_47 : decode prog_6_method_24_code 47 = .ok (.aload_n 0, 1) := by decide +kernel
theorem d_M_access_48 : decode prog_6_method_24_code 48 = .ok (.getfield 50, 3) := by decide +kernel
theorem d_M_access_51 : decode prog_6_method_24_code 51 = .ok (.imul, 1) := by decide +kernel
theorem d_M_access_52 : decode prog_6_method_24_code 52 = .ok (.iload_n 2, 1) := by decide +kernel
theorem d_M_access_53 : decode prog_6_method_24_code 53 = .ok (.iadd, 1) := by decide +kernel
theorem d_M_access_54 : decode prog_6_method_24_code 54 = .ok (.iaload, 1) := by decide +kernel
theorem d_M_access_55 : decode prog_6_method_24_code 55 = .ok (.iastore, 1) := by decide +kernel
theorem d_M_access_56 : decode prog_6_method_24_code 56 = .ok (.aload_n 0, 1) := by decide +kernel
theorem d_M_access_57 : decode prog_6_method_24_code 57 = .ok (.getfield 47, 3) := by decide +kernel
theorem d_M_access_60 : decode prog_6_method_24_code 60 = .ok (.aload_n 0, 1) := by decide +kernel
theorem d_M_access_61 : decode prog_6_method_24_code 61 = .ok (.getfield 50, 3) := by decide +kernel
theorem d_M_access_64 : decode prog_6_method_24_code 64 = .ok (.aload_n 0, 1) := by decide +kernel
theorem d_M_access_65 : decode prog_6_method_24_code 65 = .ok (.getfield 47, 3) := by decide +kernel
theorem d_M_access_68 : decode prog_6_method_24_code 68 = .ok (.aload_n 0, 1) := by decide +kernel
theorem d_M_access_69 : decode prog_6_method_24_code 69 = .ok (.getfield 50, 3) := by decide +kernel
theorem d_M_access_72 : decode prog_6_method_24_code 72 = .ok (.iaload, 1) := by decide +kernel
theorem d_M_access_73 : decode prog_6_method_24_code 73 = .ok (.iconst 1, 1) := by decide +kernel
theorem d_M_access_74 : decode prog_6_method_24_code 74 = .ok (.iadd, 1) := by decide +kernel
theorem d_M_access_75 : decode prog_6_method_24_code 75 = .ok (.iastore, 1) := by decide +kernel
theorem d_M_access_76 : decode prog_6_method_24_code 76 = .ok (.return_, 1) := by decide +kernel
theorem d_M_ask_0 : decode prog_6_method_25_code 0 = .ok (.aload_n 0, 1) := by decide +kernel
theorem d_M_ask_1 : decode prog_6_method_25_code 1 = .ok (.getfield 44, 3) := by decide +kernel
theorem d_M_ask_4 : decode prog_6_method_25_code 4 = .ok (.bipush 8, 2) := by decide +kernel
theorem d_M_ask_6 : decode prog_6_method_25_code 6 = .ok (.aload_n 0, 1) := by decide +kernel
theorem d_M_ask_7 : decode prog_6_method_25_code 7 = .ok (.getfield 50, 3) := by decide +kernel
theorem d_M_ask_10 : decode prog_6_method_25_code 10 = .ok (.imul, 1) := by decide +kernel
theorem d_M_ask_11 : decode prog_6_method_25_code 11 = .ok (.iconst 1, 1) := by decide +kernel
theorem d_M_ask_12 : decode prog_6_method_25_code 12 = .ok (.iadd, 1) := by decide +kernel
theorem d_M_ask_13 : decode prog_6_method_25_code 13 = .ok (.iaload, 1) := by decide +kernel
theorem d_M_ask_14 : decode prog_6_method_25_code 14 = .ok (.istore_n 2, 1) := by decide +kernel
theorem d_M_ask_15 : decode prog_6_method_25_code 15 = .ok (.aload_n 0, 1) := by decide +kernel
theorem d_M_ask_16 : decode prog_6_method_25_code 16 = .ok (.getfield 44, 3) := by decide +kernel
theorem d_M_ask_19 : decode prog_6_method_25_code 19 = .ok (.bipush 8, 2) := by decide +kernel
theorem d_M_ask_21 : decode prog_6_method_25_code 21 = .ok (.aload_n 0, 1) := by decide +kernel
theorem d_M_ask_22 : decode prog_6_method_25_code 22 = .ok (.getfield 50, 3) := by decide +kernel
theorem d_M_ask_25 : decode prog_6_method_25_code 25 = .ok (.imul, 1) := by decide +kernel
theorem d_M_ask_26 : decode prog_6_method_25_code 26 = .ok (.iconst 2, 1) := by decide +kernel
theorem d_M_ask_27 : decode prog_6_method_25_code 27 = .ok (.iadd, 1) := by decide +kernel
theorem d_M_ask_28 : decode prog_6_method_25_code 28 = .ok (.iaload, 1) := by decide +kernel
theorem d_M_ask_29 : decode prog_6_method_25_code 29 = .ok (.istore_n 3, 1) := by decide +kernel
theorem d_M_ask_30 : decode prog_6_method_25_code 30 = .ok (.aload_n 0, 1) := by decide +kernel
theorem d_M_ask_31 : decode prog_6_method_25_code 31 = .ok (.getfield 44, 3) := by decide +kernel
theorem d_M_ask_34 : decode prog_6_method_25_code 34 = .ok (.bipush 8, 2) := by decide +kernel
theorem d_M_ask_36 : decode prog_6_method_25_code 36 = .ok (.aload_n 0, 1) := by decide +kernel
theorem d_M_ask_37 : decode prog_6_method_25_code 37 = .ok (.getfield 50, 3) := by decide +kernel
theorem d_M_ask_40 : decode prog_6_method_25_code 40 = .ok (.imul, 1) := by decide +kernel
theorem d_M_ask_41 : decode prog_6_method_25_code 41 = .ok (.iconst 3, 1) := by decide +kernel
theorem d_M_ask_42 : decode prog_6_method_25_code 42 = .ok (.iadd, 1) := by decide +kernel
theorem d_M_ask_43 : decode prog_6_method_25_code 43 = .ok (.iaload, 1) := by decide +kernel
theorem d_M_ask_44 : decode prog_6_method_25_code 44 = .ok (.istore 4, 2) := by decide +kernel
theorem d_M_ask_46 : decode prog_6_method_25_code 46 = .ok (.aload_n 0, 1) := by decide +kernel
theorem d_M_ask_47 : decode prog_6_method_25_code 47 = .ok (.getfield 47, 3) := by decide +kernel
theorem d_M_ask_50 : decode prog_6_method_25_code 50 = .ok (.aload_n 0, 1) := by decide +kernel
theorem d_M_ask_51 : decode prog_6_method_25_code 51 = .ok (.getfield 50, 3) := by decide +kernel
theorem d_M_ask_54 : decode prog_6_method_25_code 54 = .ok (.aload_n 0, 1) := by decide +kernel
theorem d_M_ask_55 : decode prog_6_method_25_code 55 = .ok (.getfield 47, 3) := by decide +kernel
theorem d_M_ask_58 : decode prog_6_method_25_code 58 = .ok (.aload_n 0, 1) := by decide +kernel
theorem d_M_ask_59 : decode prog_6_method_25_code 59 = .ok (.getfield 50, 3) := by decide +kernel
theorem d_M_ask_62 : decode prog_6_method_25_code 62 = .ok (.iaload, 1) := by decide +kernel
theorem d_M_ask_63 : decode prog_6_method_25_code 63 = .ok (.iconst 1, 1) := by decide +kernel
theorem d_M_ask_64 : decode prog_6_method_25_code 64 = .ok (.iadd, 1) := by decide +kernel
theorem d_M_ask_65 : decode prog_6_method_25_code 65 = .ok (.iastore, 1) := by decide +kernel
theorem d_M_ask_66 : decode prog_6_method_25_code 66 = .ok (.iconst (-1), 1) := by decide +kernel
theorem d_M_ask_67 : decode prog_6_method_25_code 67 = .ok (.istore 5, 2) := by decide +kernel
theorem d_M_ask_69 : decode prog_6_method_25_code 69 = .ok (.aload_n 0, 1) := by decide +kernel
theorem d_M_ask_70 : decode prog_6_method_25_code 70 = .ok (.getfield 50, 3) := by decide +kernel
theorem d_M_ask_73 : decode prog_6_method_25_code 73 = .ok (.bipush 6, 2) := by decide +kernel
theorem d_M_ask_75 : decode prog_6_method_25_code 75 = .ok (.if_icmp .ne 31, 3) := by decide +kernel
theorem d_M_ask_78 : decode prog_6_method_25_code 78 = .ok (.aload_n 0, 1) := by decide +kernel
theorem d_M_ask_79 : decode prog_6_method_25_code 79 = .ok (.iload_n 1, 1) := by decide +kernel
theorem d_M_ask_80 : decode prog_6_method_25_code 80 = .ok (.iload_n 2, 1) := by decide +kernel
theorem d_M_ask_81 : decode prog_6_method_25_code 81 = .ok (.iload_n 3, 1) := by decide +kernel
theorem d_M_ask_82 : decode prog_6_method_25_code 82 = .ok (.iload 4, 2) := by decide +kernel
theorem d_M_ask_84 : decode prog_6_method_25_code 84 = .ok (.invokevirtual 157, 3) := by decide +kernel
theorem d_M_ask_87 : decode prog_6_method_25_code 87 = .ok (.istore 5, 2) := by decide +kernel
theorem d_M_ask_89 : decode prog_6_method_25_code 89 = .ok (.aload_n 0, 1) := by decide +kernel
theorem d_M_ask_90 : decode prog_6_method_25_code 90 = .ok (.getfield 50, 3) := by decide +kernel
theorem d_M_ask_93 : decode prog_6_method_25_code 93 = .ok (.bipush 6, 2) := by decide +kernel
theorem d_M_ask_95 : decode prog_6_method_25_code 95 = .ok (.if_icmp .ne 10, 3) := by decide +kernel
theorem d_M_ask_98 : decode prog_6_method_25_code 98 = .ok (.aload_n 0, 1) := by decide +kernel
theorem d_M_ask_99 : decode prog_6_method_25_code 99 = .ok (.iconst 1, 1) := by decide +kernel
theorem d_M_ask_100 : decode prog_6_method_25_code 100 = .ok (.iload 5, 2) := by decide +kernel
theorem d_M_ask_102 : decode prog_6_method_25_code 102 = .ok (.invokevirtual 147, 3) := by decide +kernel
theorem d_M_ask_105 : decode prog_6_method_25_code 105 = .ok (.return_, 1) := by decide +kernel
theorem d_M_ask_106 : decode prog_6_method_25_code 106 = .ok (.iload_n 1, 1) := by decide +kernel
theorem d_M_ask_107 : decode prog_6_method_25_code 107 = .ok (.bipush 16, 2) := by decide +kernel
theorem d_M_ask_109 : decode prog_6_method_25_code 109 = .ok (.if_icmp .ne 20, 3) := by decide +kernel
theorem d_M_ask_112 : decode prog_6_method_25_code 112 = .ok (.aload_n 0, 1) := by decide +kernel
theorem d_M_ask_113 : decode prog_6_method_25_code 113 = .ok (.getfield 38, 3) := by decide +kernel
theorem d_M_ask_116 : decode prog_6_method_25_code 116 = .ok (.aload_n 0, 1) := by decide +kernel
theorem d_M_ask_117 : decode prog_6_method_25_code 117 = .ok (.getfield 50, 3) := by decide +kernel
theorem d_M_ask_120 : decode prog_6_method_25_code 120 = .ok (.iconst 1, 1) := by decide +kernel
theorem d_M_ask_121 : decode prog_6_method_25_code 121 = .ok (.iastore, 1) := by decide +kernel
theorem d_M_ask_122 : decode prog_6_method_25_code 122 = .ok (.aload_n 0, 1) := by decide +kernel
theorem d_M_ask_123 : decode prog_6_method_25_code 123 = .ok (.iconst 1, 1) := by decide +kernel
theorem d_M_ask_124 : decode prog_6_method_25_code 124 = .ok (.iload_n 2, 1) := by decide +kernel
theorem d_M_ask_125 : decode prog_6_method_25_code 125 = .ok (.invokevirtual 135, 3) := by decide +kernel
theorem d_M_ask_128 : decode prog_6_method_25_code 128 = .ok (.return_, 1) := by decide +kernel
theorem d_M_ask_129 : decode prog_6_method_25_code 129 = .ok (.iload_n 1, 1) := by decide +kernel
theorem d_M_ask_130 : decode prog_6_method_25_code 130 = .ok (.bipush 17, 2) := by decide +kernel
theorem d_M_ask_132 : decode prog_6_method_25_code 132 = .ok (.if_icmp .ne 23, 3) := by decide +kernel
theorem d_M_ask_135 : decode prog_6_method_25_code 135 = .ok (.aload_n 0, 1) := by decide +kernel
theorem d_M_ask_136 : decode prog_6_method_25_code 136 = .ok (.aload_n 0, 1) := by decide +kernel
theorem d_M_ask_137 : decode prog_6_method_25_code 137 = .ok (.aload_n 0, 1) := by decide +kernel
theorem d_M_ask_138 : decode prog_6_method_25_code 138 = .ok (.getfield 50, 3) := by decide +kernel
theorem d_M_ask_141 : decode prog_6_method_25_code 141 = .ok (.iconst 2, 1) := by decide +kernel
theorem d_M_ask_142 : decode prog_6_method_25_code 142 = .ok (.idiv, 1) := by decide +kernel
theorem d_M_ask_143 : decode prog_6_method_25_code 143 = .ok (.invokevirtual 161, 3) := by decide +kernel
theorem d_M_ask_146 : decode prog_6_method_25_code 146 = .ok (.iload_n 2, 1) := by decide +kernel
theorem d_M_ask_147 : decode prog_6_method_25_code 147 = .ok (.invokevirtual 164, 3) := by decide +kernel
theorem d_M_ask_150 : decode prog_6_method_25_code 150 = .ok (.istore 5, 2) := by decide +kernel
theorem d_M_ask_152 : decode prog_6_method_25_code 152 = .ok (.goto 64, 3) := by decide +kernel
theorem d_M_ask_155 : decode prog_6_method_25_code 155 = .ok (.iload_n 1, 1) := by decide +kernel
theorem d_M_ask_156 : decode prog_6_method_25_code 156 = .ok (.bipush 18, 2) := by decide +kernel
theorem d_M_ask_158 : decode prog_6_method_25_code 158 = .ok (.if_icmp .ne 34, 3) := by decide +kernel
theorem d_M_ask_161 : decode prog_6_method_25_code 161 = .ok (.aload_n 0, 1) := by decide +kernel
theorem d_M_ask_162 : decode prog_6_method_25_code 162 = .ok (.getfield 54, 3) := by decide +kernel
theorem d_M_ask_165 : decode prog_6_method_25_code 165 = .ok (.aload_n 0, 1) := by decide +kernel
theorem d_M_ask_166 : decode prog_6_method_25_code 166 = .ok (.aload_n 0, 1) := by decide +kernel
theorem d_M_ask_167 : decode prog_6_method_25_code 167 = .ok (.getfield 50, 3) := by decide +kernel
theorem d_M_ask_170 : decode prog_6_method_25_code 170 = .ok (.iconst 2, 1) := by decide +kernel
theorem d_M_ask_171 : decode prog_6_method_25_code 171 = .ok (.idiv, 1) := by decide +kernel
theorem d_M_ask_172 : decode prog_6_method_25_code 172 = .ok (.invokevirtual 161, 3) := by decide +kernel
theorem d_M_ask_175 : decode prog_6_method_25_code 175 = .ok (.invokestatic 66, 3) := by decide +kernel
theorem d_M_ask_178 : decode prog_6_method_25_code 178 = .ok (.istore 5, 2) := by decide +kernel
theorem d_M_ask_180 : decode prog_6_method_25_code 180 = .ok (.iload 5, 2) := by decide +kernel
theorem d_M_ask_182 : decode prog_6_method_25_code 182 = .ok (.bipush 18, 2) := by decide +kernel
theorem d_M_ask_184 : decode prog_6_method_25_code 184 = .ok (.invokestatic 66, 3) := by decide +kernel
theorem d_M_ask_187 : decode prog_6_method_25_code 187 = .ok (.istore 5, 2) := by decide +kernel
theorem d_M_ask_189 : decode prog_6_method_25_code 189 = .ok (.goto 27, 3) := by decide +kernel
theorem d_M_ask_192 : decode prog_6_method_25_code 192 = .ok (.iload_n 1, 1) := by decide +kernel
theorem d_M_ask_193 : decode prog_6_method_25_code 193 = .ok (.bipush 19, 2) := by decide +kernel
theorem d_M_ask_195 : decode prog_6_method_25_code 195 = .ok (.if_icmp .ne 21, 3) := by decide +kernel
theorem d_M_ask_198 : decode prog_6_method_25_code 198 = .ok (.aload_n 0, 1) := by decide +kernel
theorem d_M_ask_199 : decode prog_6_method_25_code 199 = .ok (.iload_n 2, 1) := by decide +kernel
theorem d_M_ask_200 : decode prog_6_method_25_code 200 = .ok (.iload_n 3, 1) := by decide +kernel
theorem d_M_ask_201 : decode prog_6_method_25_code 201 = .ok (.invokevirtual 164, 3) := by decide +kernel
theorem d_M_ask_204 : decode prog_6_method_25_code 204 = .ok (.iload 4, 2) := by decide +kernel
theorem d_M_ask_206 : decode prog_6_method_25_code 206 = .ok (.if_icmp .ne 7, 3) := by decide +kernel
theorem d_M_ask_209 : decode prog_6_method_25_code 209 = .ok (.iconst 1, 1) := by decide +kernel
theorem d_M_ask_210 : decode prog_6_method_25_code 210 = .ok (.goto 4, 3) := by decide +kernel
theorem d_M_ask_213 : decode prog_6_method_25_code 213 = .ok (.iconst 0, 1) := by decide +kernel
theorem d_M_ask_214 : decode prog_6_method_25_code 214 = .ok (.istore 5, 2) := by decide +kernel
theorem d_M_ask_216 : decode prog_6_method_25_code 216 = .ok (.aload_n 0, 1) := by decide +kernel
theorem d_M_ask_217 : decode prog_6_method_25_code 217 = .ok (.iconst 1, 1) := by decide +kernel
theorem d_M_ask_218 : decode prog_6_method_25_code 218 = .ok (.iload 5, 2) := by decide +kernel
theorem d_M_ask_220 : decode prog_6_method_25_code 220 = .ok (.invokevirtual 147, 3) := by decide +kernel
theorem d_M_ask_223 : decode prog_6_method_25_code 223 = .ok (.return_, 1) := by decide +kernel
theorem d_M_poke_0 : decode prog_6_method_26_code 0 = .ok (.aload_n 0, 1) := by decide +kernel
theorem d_M_poke_1 : decode prog_6_method_26_code 1 = .ok (.bipush 6, 2) := by decide +kernel
theorem d_M_poke_3 : decode prog_6_method_26_code 3 = .ok (.iload_n 1, 1) := by decide +kernel
theorem d_M_poke_4 : decode prog_6_method_26_code 4 = .ok (.invokevirtual 141, 3) := by decide +kernel
theorem d_M_poke_7 : decode prog_6_method_26_code 7 = .ok (.ifCond .ne 5, 3) := by decide +kernel
theorem d_M_poke_10 : decode prog_6_method_26_code 10 = .ok (.iconst 0, 1) := by decide +kernel
theorem d_M_poke_11 : decode prog_6_method_26_code 11 = .ok (.ireturn, 1) := by decide +kernel
theorem d_M_poke_12 : decode prog_6_method_26_code 12 = .ok (.aload_n 0, 1) := by decide +kernel
theorem d_M_poke_13 : decode prog_6_method_26_code 13 = .ok (.getfield 7, 3) := by decide +kernel
theorem d_M_poke_16 : decode prog_6_method_26_code 16 = .ok (.iload_n 1, 1) := by decide +kernel
theorem d_M_poke_17 : decode prog_6_method_26_code 17 = .ok (.iload_n 2, 1) := by decide +kernel
theorem d_M_poke_18 : decode prog_6_method_26_code 18 = .ok (.iastore, 1) := by decide +kernel
theorem d_M_poke_19 : decode prog_6_method_26_code 19 = .ok (.iconst 1, 1) := by decide +kernel
theorem d_M_poke_20 : decode prog_6_method_26_code 20 = .ok (.ireturn, 1) := by decide +kernel
theorem d_M_peek_0 : decode prog_6_method_27_code 0 = .ok (.aload_n 0, 1) := by decide +kernel
theorem d_M_peek_1 : decode prog_6_method_27_code 1 = .ok (.bipush 6, 2) := by decide +kernel
theorem d_M_peek_3 : decode prog_6_method_27_code 3 = .ok (.iload_n 1, 1) := by decide +kernel
theorem d_M_peek_4 : decode prog_6_method_27_code 4 = .ok (.invokevirtual 141, 3) := by decide +kernel
theorem d_M_peek_7 : decode prog_6_method_27_code 7 = .ok (.ifCond .eq 12, 3) := by decide +kernel
theorem d_M_peek_10 : decode prog_6_method_27_code 10 = .ok (.aload_n 0, 1) := by decide +kernel
theorem d_M_peek_11 : decode prog_6_method_27_code 11 = .ok (.getfield 7, 3) := by decide +kernel
theorem d_M_peek_14 : decode prog_6_method_27_code 14 = .ok (.iload_n 1, 1) := by decide +kernel
theorem d_M_peek_15 : decode prog_6_method_27_code 15 = .ok (.iaload, 1) := by decide +kernel
theorem d_M_peek_16 : decode prog_6_method_27_code 16 = .ok (.goto 4, 3) := by decide +kernel
theorem d_M_peek_19 : decode prog_6_method_27_code 19 = .ok (.iconst 0, 1) := by decide +kernel
theorem d_M_peek_20 : decode prog_6_method_27_code 20 = .ok (.ireturn, 1) := by decide +kernel
theorem d_M_bare_0 : decode prog_6_method_28_code 0 = .ok (.iload_n 1, 1) := by decide +kernel
theorem d_M_bare_1 : decode prog_6_method_28_code 1 = .ok (.sipush 255, 3) := by decide +kernel
theorem d_M_bare_4 : decode prog_6_method_28_code 4 = .ok (.invokestatic 57, 3) := by decide +kernel
theorem d_M_bare_7 : decode prog_6_method_28_code 7 = .ok (.ifCond .eq 7, 3) := by decide +kernel
theorem d_M_bare_10 : decode prog_6_method_28_code 10 = .ok (.iconst 0, 1) := by decide +kernel
theorem d_M_bare_11 : decode prog_6_method_28_code 11 = .ok (.goto 9, 3) := by decide +kernel
theorem d_M_bare_14 : decode prog_6_method_28_code 14 = .ok (.aload_n 0, 1) := by decide +kernel
theorem d_M_bare_15 : decode prog_6_method_28_code 15 = .ok (.getfield 7, 3) := by decide +kernel
theorem d_M_bare_18 : decode prog_6_method_28_code 18 = .ok (.iload_n 1, 1) := by decide +kernel
theorem d_M_bare_19 : decode prog_6_method_28_code 19 = .ok (.iaload, 1) := by decide +kernel
theorem d_M_bare_20 : decode prog_6_method_28_code 20 = .ok (.ireturn, 1) := by decide +kernel
theorem d_M_give_0 : decode prog_6_method_29_code 0 = .ok (.iload_n 1, 1) := by decide +kernel
theorem d_M_give_1 : decode prog_6_method_29_code 1 = .ok (.iconst 1, 1) := by decide +kernel
theorem d_M_give_2 : decode prog_6_method_29_code 2 = .ok (.if_icmp .lt 18, 3) := by decide +kernel
theorem d_M_give_5 : decode prog_6_method_29_code 5 = .ok (.iload_n 1, 1) := by decide +kernel
theorem d_M_give_6 : decode prog_6_method_29_code 6 = .ok (.bipush 7, 2) := by decide +kernel
theorem d_M_give_8 : decode prog_6_method_29_code 8 = .ok (.if_icmp .gt 12, 3) := by decide +kernel
theorem d_M_give_11 : decode prog_6_method_29_code 11 = .ok (.aload_n 0, 1) := by decide +kernel
theorem d_M_give_12 : decode prog_6_method_29_code 12 = .ok (.getfield 50, 3) := by decide +kernel
theorem d_M_give_15 : decode prog_6_method_29_code 15 = .ok (.bipush 6, 2) := by decide +kernel
theorem d_M_give_17 : decode prog_6_method_29_code 17 = .ok (.if_icmp .ge 5, 3) := by decide +kernel
theorem d_M_give_20 : decode prog_6_method_29_code 20 = .ok (.iconst 0, 1) := by decide +kernel
theorem d_M_give_21 : decode prog_6_method_29_code 21 = .ok (.ireturn, 1) := by decide +kernel
theorem d_M_give_22 : decode prog_6_method_29_code 22 = .ok (.aload_n 0, 1) := by decide +kernel
theorem d_M_give_23 : decode prog_6_method_29_code 23 = .ok (.getfield 44, 3) := by decide +kernel
theorem d_M_give_26 : decode prog_6_method_29_code 26 = .ok (.bipush 48, 2) := by decide +kernel
theorem d_M_give_28 : decode prog_6_method_29_code 28 = .ok (.iload_n 1, 1) := by decide +kernel
theorem d_M_give_29 : decode prog_6_method_29_code 29 = .ok (.iadd, 1) := by decide +kernel
theorem d_M_give_30 : decode prog_6_method_29_code 30 = .ok (.iload_n 2, 1) := by decide +kernel
theorem d_M_give_31 : decode prog_6_method_29_code 31 = .ok (.iastore, 1) := by decide +kernel
theorem d_M_give_32 : decode prog_6_method_29_code 32 = .ok (.iconst 1, 1) := by decide +kernel
theorem d_M_give_33 : decode prog_6_method_29_code 33 = .ok (.ireturn, 1) := by decide +kernel
theorem d_M_register_0 : decode prog_6_method_30_code 0 = .ok (.iload_n 1, 1) := by decide +kernel
theorem d_M_register_1 : decode prog_6_method_30_code 1 = .ok (.bipush 7, 2) := by decide +kernel
theorem d_M_register_3 : decode prog_6_method_30_code 3 = .ok (.invokestatic 57, 3) := by decide +kernel
theorem d_M_register_6 : decode prog_6_method_30_code 6 = .ok (.ifCond .eq 7, 3) := by decide +kernel
theorem d_M_register_9 : decode prog_6_method_30_code 9 = .ok (.iconst 0, 1) := by decide +kernel
theorem d_M_register_10 : decode prog_6_method_30_code 10 = .ok (.goto 12, 3) := by decide +kernel
theorem d_M_register_13 : decode prog_6_method_30_code 13 = .ok (.aload_n 0, 1) := by decide +kernel
theorem d_M_register_14 : decode prog_6_method_30_code 14 = .ok (.getfield 44, 3) := by decide +kernel
theorem d_M_register_17 : decode prog_6_method_30_code 17 = .ok (.bipush 48, 2) := by decide +kernel
theorem d_M_register_19 : decode prog_6_method_30_code 19 = .ok (.iload_n 1, 1) := by decide +kernel
theorem d_M_register_20 : decode prog_6_method_30_code 20 = .ok (.iadd, 1) := by decide +kernel
theorem d_M_register_21 : decode prog_6_method_30_code 21 = .ok (.iaload, 1) := by decide +kernel
theorem d_M_register_22 : decode prog_6_method_30_code 22 = .ok (.ireturn, 1) := by decide +kernel
theorem d_M_pc_0 : decode prog_6_method_31_code 0 = .ok (.aload_n 0, 1) := by decide +kernel
theorem d_M_pc_1 : decode prog_6_method_31_code 1 = .ok (.getfield 47, 3) := by decide +kernel
theorem d_M_pc_4 : decode prog_6_method_31_code 4 = .ok (.bipush 6, 2) := by decide +kernel
theorem d_M_pc_6 : decode prog_6_method_31_code 6 = .ok (.iaload, 1) := by decide +kernel
theorem d_M_pc_7 : decode prog_6_method_31_code 7 = .ok (.ireturn, 1) := by decide +kernel
theorem d_M_boot_0 : decode prog_6_method_32_code 0 = .ok (.aload_n 0, 1) := by decide +kernel
theorem d_M_boot_1 : decode prog_6_method_32_code 1 = .ok (.getfield 50, 3) := by decide +kernel
theorem d_M_boot_4 : decode prog_6_method_32_code 4 = .ok (.bipush 6, 2) := by decide +kernel
theorem d_M_boot_6 : decode prog_6_method_32_code 6 = .ok (.if_icmp .ge 5, 3) := by decide +kernel
theorem d_M_boot_9 : decode prog_6_method_32_code 9 = .ok (.iconst 0, 1) := by decide +kernel
theorem d_M_boot_10 : decode prog_6_method_32_code 10 = .ok (.ireturn, 1) := by decide +kernel
theorem d_M_boot_11 : decode prog_6_method_32_code 11 = .ok (.aload_n 0, 1) := by decide +kernel
theorem d_M_boot_12 : decode prog_6_method_32_code 12 = .ok (.getfield 47, 3) := by decide +kernel
theorem d_M_boot_15 : decode prog_6_method_32_code 15 = .ok (.bipush 6, 2) := by decide +kernel
theorem d_M_boot_17 : decode prog_6_method_32_code 17 = .ok (.iload_n 1, 1) := by decide +kernel
theorem d_M_boot_18 : decode prog_6_method_32_code 18 = .ok (.iastore, 1) := by decide +kernel
theorem d_M_boot_19 : decode prog_6_method_32_code 19 = .ok (.aload_n 0, 1) := by decide +kernel
theorem d_M_boot_20 : decode prog_6_method_32_code 20 = .ok (.iconst 0, 1) := by decide +kernel
theorem d_M_boot_21 : decode prog_6_method_32_code 21 = .ok (.putfield 131, 3) := by decide +kernel
theorem d_M_boot_24 : decode prog_6_method_32_code 24 = .ok (.iconst 1, 1) := by decide +kernel
theorem d_M_boot_25 : decode prog_6_method_32_code 25 = .ok (.ireturn, 1) := by decide +kernel
theorem d_M_halted_0 : decode prog_6_method_33_code 0 = .ok (.aload_n 0, 1) := by decide +kernel
theorem d_M_halted_1 : decode prog_6_method_33_code 1 = .ok (.getfield 131, 3) := by decide +kernel
theorem d_M_halted_4 : decode prog_6_method_33_code 4 = .ok (.ireturn, 1) := by decide +kernel
theorem d_M_call_0 : decode prog_6_method_34_code 0 = .ok (.aload_n 0, 1) := by decide +kernel
theorem d_M_call_1 : decode prog_6_method_34_code 1 = .ok (.getfield 50, 3) := by decide +kernel
theorem d_M_call_4 : decode prog_6_method_34_code 4 = .ok (.bipush 6, 2) := by decide +kernel
theorem d_M_call_6 : decode prog_6_method_34_code 6 = .ok (.if_icmp .ge 8, 3) := by decide +kernel
theorem d_M_call_9 : decode prog_6_method_34_code 9 = .ok (.bipush (-6), 2) := by decide +kernel
theorem d_M_call_11 : decode prog_6_method_34_code 11 = .ok (.goto 12, 3) := by decide +kernel
theorem d_M_call_14 : decode prog_6_method_34_code 14 = .ok (.aload_n 0, 1) := by decide +kernel
theorem d_M_call_15 : decode prog_6_method_34_code 15 = .ok (.iload_n 1, 1) := by decide +kernel
theorem d_M_call_16 : decode prog_6_method_34_code 16 = .ok (.iload_n 2, 1) := by decide +kernel
theorem d_M_call_17 : decode prog_6_method_34_code 17 = .ok (.iload_n 3, 1) := by decide +kernel
theorem d_M_call_18 : decode prog_6_method_34_code 18 = .ok (.iload 4, 2) := by decide +kernel
theorem d_M_call_20 : decode prog_6_method_34_code 20 = .ok (.invokevirtual 157, 3) := by decide +kernel
theorem d_M_call_23 : decode prog_6_method_34_code 23 = .ok (.ireturn, 1) := by decide +kernel
theorem d_M_run_0 : decode prog_6_method_35_code 0 = .ok (.iconst 0, 1) := by decide +kernel
theorem d_M_run_1 : decode prog_6_method_35_code 1 = .ok (.istore_n 2, 1) := by decide +kernel
theorem d_M_run_2 : decode prog_6_method_35_code 2 = .ok (.iload_n 1, 1) := by decide +kernel
theorem d_M_run_3 : decode prog_6_method_35_code 3 = .ok (.sipush 1000, 3) := by decide +kernel
theorem d_M_run_6 : decode prog_6_method_35_code 6 = .ok (.invokestatic 57, 3) := by decide +kernel
theorem d_M_run_9 : decode prog_6_method_35_code 9 = .ok (.ifCond .eq 5, 3) := by decide +kernel
theorem d_M_run_12 : decode prog_6_method_35_code 12 = .ok (.iconst 0, 1) := by decide +kernel
theorem d_M_run_13 : decode prog_6_method_35_code 13 = .ok (.ireturn, 1) := by decide +kernel
theorem d_M_run_14 : decode prog_6_method_35_code 14 = .ok (.iload_n 2, 1) := by decide +kernel
theorem d_M_run_15 : decode prog_6_method_35_code 15 = .ok (.iload_n 1, 1) := by decide +kernel
theorem d_M_run_16 : decode prog_6_method_35_code 16 = .ok (.if_icmp .ge 29, 3) := by decide +kernel
theorem d_M_run_19 : decode prog_6_method_35_code 19 = .ok (.aload_n 0, 1) := by decide +kernel
theorem d_M_run_20 : decode prog_6_method_35_code 20 = .ok (.getfield 50, 3) := by decide +kernel
theorem d_M_run_23 : decode prog_6_method_35_code 23 = .ok (.bipush 6, 2) := by decide +kernel
theorem d_M_run_25 : decode prog_6_method_35_code 25 = .ok (.if_icmp .ne 10, 3) := by decide +kernel
theorem d_M_run_28 : decode prog_6_method_35_code 28 = .ok (.aload_n 0, 1) := by decide +kernel
theorem d_M_run_29 : decode prog_6_method_35_code 29 = .ok (.getfield 131, 3) := by decide +kernel
theorem d_M_run_32 : decode prog_6_method_35_code 32 = .ok (.ifCond .ne 13, 3) := by decide +kernel
theorem d_M_run_35 : decode prog_6_method_35_code 35 = .ok (.aload_n 0, 1) := by decide +kernel
theorem d_M_run_36 : decode prog_6_method_35_code 36 = .ok (.invokevirtual 167, 3) := by decide +kernel
theorem d_M_run_39 : decode prog_6_method_35_code 39 = .ok (.iinc 2 1, 3) := by decide +kernel
theorem d_M_run_42 : decode prog_6_method_35_code 42 = .ok (.goto (-28), 3) := by decide +kernel
theorem d_M_run_45 : decode prog_6_method_35_code 45 = .ok (.iload_n 2, 1) := by decide +kernel
theorem d_M_run_46 : decode prog_6_method_35_code 46 = .ok (.ireturn, 1) := by decide +kernel
theorem d_M_period_0 : decode prog_6_method_36_code 0 = .ok (.aload_n 0, 1) := by decide +kernel
theorem d_M_period_1 : decode prog_6_method_36_code 1 = .ok (.iload_n 1, 1) := by decide +kernel
theorem d_M_period_2 : decode prog_6_method_36_code 2 = .ok (.putfield 138, 3) := by decide +kernel
theorem d_M_period_5 : decode prog_6_method_36_code 5 = .ok (.return_, 1) := by decide +kernel
theorem d_M_tick_0 : decode prog_6_method_37_code 0 = .ok (.aload_n 0, 1) := by decide +kernel
theorem d_M_tick_1 : decode prog_6_method_37_code 1 = .ok (.getfield 125, 3) := by decide +kernel
theorem d_M_tick_4 : decode prog_6_method_37_code 4 = .ok (.ireturn, 1) := by decide +kernel
theorem d_M_running_0 : decode prog_6_method_38_code 0 = .ok (.aload_n 0, 1) := by decide +kernel
theorem d_M_running_1 : decode prog_6_method_38_code 1 = .ok (.getfield 50, 3) := by decide +kernel
theorem d_M_running_4 : decode prog_6_method_38_code 4 = .ok (.bipush 6, 2) := by decide +kernel
theorem d_M_running_6 : decode prog_6_method_38_code 6 = .ok (.if_icmp .ne 7, 3) := by decide +kernel
theorem d_M_running_9 : decode prog_6_method_38_code 9 = .ok (.iconst (-1), 1) := by decide +kernel
theorem d_M_running_10 : decode prog_6_method_38_code 10 = .ok (.goto 7, 3) := by decide +kernel
theorem d_M_running_13 : decode prog_6_method_38_code 13 = .ok (.aload_n 0, 1) := by decide +kernel
theorem d_M_running_14 : decode prog_6_method_38_code 14 = .ok (.getfield 50, 3) := by decide +kernel
theorem d_M_running_17 : decode prog_6_method_38_code 17 = .ok (.ireturn, 1) := by decide +kernel
theorem d_M_region_0 : decode prog_6_method_39_code 0 = .ok (.iload_n 1, 1) := by decide +kernel
theorem d_M_region_1 : decode prog_6_method_39_code 1 = .ok (.bipush 15, 2) := by decide +kernel
theorem d_M_region_3 : decode prog_6_method_39_code 3 = .ok (.invokestatic 57, 3) := by decide +kernel
theorem d_M_region_6 : decode prog_6_method_39_code 6 = .ok (.ifCond .eq 7, 3) := by decide +kernel
theorem d_M_region_9 : decode prog_6_method_39_code 9 = .ok (.iconst (-1), 1) := by decide +kernel
theorem d_M_region_10 : decode prog_6_method_39_code 10 = .ok (.goto 8, 3) := by decide +kernel
theorem d_M_region_13 : decode prog_6_method_39_code 13 = .ok (.aload_n 0, 1) := by decide +kernel
theorem d_M_region_14 : decode prog_6_method_39_code 14 = .ok (.iload_n 1, 1) := by decide +kernel
theorem d_M_region_15 : decode prog_6_method_39_code 15 = .ok (.invokevirtual 61, 3) := by decide +kernel
theorem d_M_region_18 : decode prog_6_method_39_code 18 = .ok (.ireturn, 1) := by decide +kernel
theorem d_M_enclave_0 : decode prog_6_method_40_code 0 = .ok (.iload_n 1, 1) := by decide +kernel
theorem d_M_enclave_1 : decode prog_6_method_40_code 1 = .ok (.iconst 2, 1) := by decide +kernel
theorem d_M_enclave_2 : decode prog_6_method_40_code 2 = .ok (.invokestatic 57, 3) := by decide +kernel
theorem d_M_enclave_5 : decode prog_6_method_40_code 5 = .ok (.ifCond .eq 7, 3) := by decide +kernel
theorem d_M_enclave_8 : decode prog_6_method_40_code 8 = .ok (.iconst (-1), 1) := by decide +kernel
theorem d_M_enclave_9 : decode prog_6_method_40_code 9 = .ok (.goto 9, 3) := by decide +kernel
theorem d_M_enclave_12 : decode prog_6_method_40_code 12 = .ok (.aload_n 0, 1) := by decide +kernel
theorem d_M_enclave_13 : decode prog_6_method_40_code 13 = .ok (.getfield 20, 3) := by decide +kernel
theorem d_M_enclave_16 : decode prog_6_method_40_code 16 = .ok (.iload_n 1, 1) := by decide +kernel
theorem d_M_enclave_17 : decode prog_6_method_40_code 17 = .ok (.iaload, 1) := by decide +kernel
theorem d_M_enclave_18 : decode prog_6_method_40_code 18 = .ok (.ireturn, 1) := by decide +kernel
theorem d_M_thread_0 : decode prog_6_method_41_code 0 = .ok (.iload_n 1, 1) := by decide +kernel
theorem d_M_thread_1 : decode prog_6_method_41_code 1 = .ok (.iconst 2, 1) := by decide +kernel
theorem d_M_thread_2 : decode prog_6_method_41_code 2 = .ok (.invokestatic 57, 3) := by decide +kernel
theorem d_M_thread_5 : decode prog_6_method_41_code 5 = .ok (.ifCond .ne 11, 3) := by decide +kernel
theorem d_M_thread_8 : decode prog_6_method_41_code 8 = .ok (.iload_n 2, 1) := by decide +kernel
theorem d_M_thread_9 : decode prog_6_method_41_code 9 = .ok (.iconst 1, 1) := by decide +kernel
theorem d_M_thread_10 : decode prog_6_method_41_code 10 = .ok (.invokestatic 57, 3) := by decide +kernel
theorem d_M_thread_13 : decode prog_6_method_41_code 13 = .ok (.ifCond .eq 7, 3) := by decide +kernel
theorem d_M_thread_16 : decode prog_6_method_41_code 16 = .ok (.iconst 0, 1) := by decide +kernel
theorem d_M_thread_17 : decode prog_6_method_41_code 17 = .ok (.goto 13, 3) := by decide +kernel
theorem d_M_thread_20 : decode prog_6_method_41_code 20 = .ok (.aload_n 0, 1) := by decide +kernel
theorem d_M_thread_21 : decode prog_6_method_41_code 21 = .ok (.getfield 38, 3) := by decide +kernel
theorem d_M_thread_24 : decode prog_6_method_41_code 24 = .ok (.iconst 2, 1) := by decide +kernel
theorem d_M_thread_25 : decode prog_6_method_41_code 25 = .ok (.iload_n 1, 1) := by decide +kernel
theorem d_M_thread_26 : decode prog_6_method_41_code 26 = .ok (.imul, 1) := by decide +kernel
theorem d_M_thread_27 : decode prog_6_method_41_code 27 = .ok (.iload_n 2, 1) := by decide +kernel
theorem d_M_thread_28 : decode prog_6_method_41_code 28 = .ok (.iadd, 1) := by decide +kernel
theorem d_M_thread_29 : decode prog_6_method_41_code 29 = .ok (.iaload, 1) := by decide +kernel
theorem d_M_thread_30 : decode prog_6_method_41_code 30 = .ok (.ireturn, 1) := by decide +kernel
theorem d_M_kept_0 : decode prog_6_method_42_code 0 = .ok (.aload_n 0, 1) := by decide +kernel
theorem d_M_kept_1 : decode prog_6_method_42_code 1 = .ok (.iload_n 1, 1) := by decide +kernel
theorem d_M_kept_2 : decode prog_6_method_42_code 2 = .ok (.iload_n 2, 1) := by decide +kernel
theorem d_M_kept_3 : decode prog_6_method_42_code 3 = .ok (.invokevirtual 87, 3) := by decide +kernel
theorem d_M_kept_6 : decode prog_6_method_42_code 6 = .ok (.iconst 2, 1) := by decide +kernel
theorem d_M_kept_7 : decode prog_6_method_42_code 7 = .ok (.if_icmp .lt 12, 3) := by decide +kernel
theorem d_M_kept_10 : decode prog_6_method_42_code 10 = .ok (.iload_n 3, 1) := by decide +kernel
theorem d_M_kept_11 : decode prog_6_method_42_code 11 = .ok (.bipush 8, 2) := by decide +kernel
theorem d_M_kept_13 : decode prog_6_method_42_code 13 = .ok (.invokestatic 57, 3) := by decide +kernel
theorem d_M_kept_16 : decode prog_6_method_42_code 16 = .ok (.ifCond .eq 5, 3) := by decide +kernel
theorem d_M_kept_19 : decode prog_6_method_42_code 19 = .ok (.iconst 0, 1) := by decide +kernel
theorem d_M_kept_20 : decode prog_6_method_42_code 20 = .ok (.ireturn, 1) := by decide +kernel
theorem d_M_kept_21 : decode prog_6_method_42_code 21 = .ok (.iload_n 3, 1) := by decide +kernel
theorem d_M_kept_22 : decode prog_6_method_42_code 22 = .ok (.bipush 8, 2) := by decide +kernel
theorem d_M_kept_24 : decode prog_6_method_42_code 24 = .ok (.if_icmp .ne 16, 3) := by decide +kernel
theorem d_M_kept_27 : decode prog_6_method_42_code 27 = .ok (.aload_n 0, 1) := by decide +kernel
theorem d_M_kept_28 : decode prog_6_method_42_code 28 = .ok (.getfield 47, 3) := by decide +kernel
theorem d_M_kept_31 : decode prog_6_method_42_code 31 = .ok (.iconst 2, 1) := by decide +kernel
theorem d_M_kept_32 : decode prog_6_method_42_code 32 = .ok (.iload_n 1, 1) := by decide +kernel
theorem d_M_kept_33 : decode prog_6_method_42_code 33 = .ok (.imul, 1) := by decide +kernel
theorem d_M_kept_34 : decode prog_6_method_42_code 34 = .ok (.iload_n 2, 1) := by decide +kernel
theorem d_M_kept_35 : decode prog_6_method_42_code 35 = .ok (.iadd, 1) := by decide +kernel
theorem d_M_kept_36 : decode prog_6_method_42_code 36 = .ok (.iaload, 1) := by decide +kernel
theorem d_M_kept_37 : decode prog_6_method_42_code 37 = .ok (.goto 19, 3) := by decide +kernel
theorem d_M_kept_40 : decode prog_6_method_42_code 40 = .ok (.aload_n 0, 1) := by decide +kernel
theorem d_M_kept_41 : decode prog_6_method_42_code 41 = .ok (.getfield 44, 3) := by decide +kernel
theorem d_M_kept_44 : decode prog_6_method_42_code 44 = .ok (.bipush 16, 2) := by decide +kernel
theorem d_M_kept_46 : decode prog_6_method_42_code 46 = .ok (.iload_n 1, 1) := by decide +kernel
theorem d_M_kept_47 : decode prog_6_method_42_code 47 = .ok (.imul, 1) := by decide +kernel
theorem d_M_kept_48 : decode prog_6_method_42_code 48 = .ok (.bipush 8, 2) := by decide +kernel
theorem d_M_kept_50 : decode prog_6_method_42_code 50 = .ok (.iload_n 2, 1) := by decide +kernel
theorem d_M_kept_51 : decode prog_6_method_42_code 51 = .ok (.imul, 1) := by decide +kernel
theorem d_M_kept_52 : decode prog_6_method_42_code 52 = .ok (.iadd, 1) := by decide +kernel
theorem d_M_kept_53 : decode prog_6_method_42_code 53 = .ok (.iload_n 3, 1) := by decide +kernel
theorem d_M_kept_54 : decode prog_6_method_42_code 54 = .ok (.iadd, 1) := by decide +kernel
theorem d_M_kept_55 : decode prog_6_method_42_code 55 = .ok (.iaload, 1) := by decide +kernel
theorem d_M_kept_56 : decode prog_6_method_42_code 56 = .ok (.ireturn, 1) := by decide +kernel
theorem d_M_measure_0 : decode prog_6_method_43_code 0 = .ok (.iload_n 1, 1) := by decide +kernel
theorem d_M_measure_1 : decode prog_6_method_43_code 1 = .ok (.iconst 2, 1) := by decide +kernel
theorem d_M_measure_2 : decode prog_6_method_43_code 2 = .ok (.invokestatic 57, 3) := by decide +kernel
theorem d_M_measure_5 : decode prog_6_method_43_code 5 = .ok (.ifCond .ne 12, 3) := by decide +kernel
theorem d_M_measure_8 : decode prog_6_method_43_code 8 = .ok (.aload_n 0, 1) := by decide +kernel
theorem d_M_measure_9 : decode prog_6_method_43_code 9 = .ok (.getfield 20, 3) := by decide +kernel
theorem d_M_measure_12 : decode prog_6_method_43_code 12 = .ok (.iload_n 1, 1) := by decide +kernel
theorem d_M_measure_13 : decode prog_6_method_43_code 13 = .ok (.iaload, 1) := by decide +kernel
theorem d_M_measure_14 : decode prog_6_method_43_code 14 = .ok (.ifCond .ne 7, 3) := by decide +kernel
theorem d_M_measure_17 : decode prog_6_method_43_code 17 = .ok (.iconst 0, 1) := by decide +kernel
theorem d_M_measure_18 : decode prog_6_method_43_code 18 = .ok (.goto 8, 3) := by decide +kernel
theorem d_M_measure_21 : decode prog_6_method_43_code 21 = .ok (.aload_n 0, 1) := by decide +kernel
theorem d_M_measure_22 : decode prog_6_method_43_code 22 = .ok (.iload_n 1, 1) := by decide +kernel
theorem d_M_measure_23 : decode prog_6_method_43_code 23 = .ok (.invokevirtual 161, 3) := by decide +kernel
theorem d_M_measure_26 : decode prog_6_method_43_code 26 = .ok (.ireturn, 1) := by decide +kernel
theorem d_M_vouch_0 : decode prog_6_method_44_code 0 = .ok (.aload_n 0, 1) := by decide +kernel
theorem d_M_vouch_1 : decode prog_6_method_44_code 1 = .ok (.iload_n 1, 1) := by decide +kernel
theorem d_M_vouch_2 : decode prog_6_method_44_code 2 = .ok (.iload_n 2, 1) := by decide +kernel
theorem d_M_vouch_3 : decode prog_6_method_44_code 3 = .ok (.invokevirtual 164, 3) := by decide +kernel
theorem d_M_vouch_6 : decode prog_6_method_44_code 6 = .ok (.iload_n 3, 1) := by decide +kernel
theorem d_M_vouch_7 : decode prog_6_method_44_code 7 = .ok (.if_icmp .ne 7, 3) := by decide +kernel
theorem d_M_vouch_10 : decode prog_6_method_44_code 10 = .ok (.iconst 1, 1) := by decide +kernel
theorem d_M_vouch_11 : decode prog_6_method_44_code 11 = .ok (.goto 4, 3) := by decide +kernel
theorem d_M_vouch_14 : decode prog_6_method_44_code 14 = .ok (.iconst 0, 1) := by decide +kernel
theorem d_M_vouch_15 : decode prog_6_method_44_code 15 = .ok (.ireturn, 1) := by decide +kernel
theorem d_M_exit_0 : decode prog_6_method_45_code 0 = .ok (.iload_n 1, 1) := by decide +kernel
theorem d_M_exit_1 : decode prog_6_method_45_code 1 = .ok (.ifCond .ne 10, 3) := by decide +kernel
theorem d_M_exit_4 : decode prog_6_method_45_code 4 = .ok (.aload_n 0, 1) := by decide +kernel
theorem d_M_exit_5 : decode prog_6_method_45_code 5 = .ok (.getfield 113, 3) := by decide +kernel
theorem d_M_exit_8 : decode prog_6_method_45_code 8 = .ok (.goto 52, 3) := by decide +kernel
theorem d_M_exit_11 : decode prog_6_method_45_code 11 = .ok (.iload_n 1, 1) := by decide +kernel
theorem d_M_exit_12 : decode prog_6_method_45_code 12 = .ok (.iconst 1, 1) := by decide +kernel
theorem d_M_exit_13 : decode prog_6_method_45_code 13 = .ok (.if_icmp .ne 10, 3) := by decide +kernel
theorem d_M_exit_16 : decode prog_6_method_45_code 16 = .ok (.aload_n 0, 1) := by decide +kernel
theorem d_M_exit_17 : decode prog_6_method_45_code 17 = .ok (.getfield 116, 3) := by decide +kernel
theorem d_M_exit_20 : decode prog_6_method_45_code 20 = .ok (.goto 40, 3) := by decide +kernel
theorem d_M_exit_23 : decode prog_6_method_45_code 23 = .ok (.iload_n 1, 1) := by decide +kernel
theorem d_M_exit_24 : decode prog_6_method_45_code 24 = .ok (.iconst 2, 1) := by decide +kernel
theorem d_M_exit_25 : decode prog_6_method_45_code 25 = .ok (.if_icmp .ne 10, 3) := by decide +kernel
theorem d_M_exit_28 : decode prog_6_method_45_code 28 = .ok (.aload_n 0, 1) := by decide +kernel
theorem d_M_exit_29 : decode prog_6_method_45_code 29 = .ok (.getfield 119, 3) := by decide +kernel
theorem d_M_exit_32 : decode prog_6_method_45_code 32 = .ok (.goto 28, 3) := by decide +kernel
theorem d_M_exit_35 : decode prog_6_method_45_code 35 = .ok (.iload_n 1, 1) := by decide +kernel
theorem d_M_exit_36 : decode prog_6_method_45_code 36 = .ok (.iconst 3, 1) := by decide +kernel
theorem d_M_exit_37 : decode prog_6_method_45_code 37 = .ok (.if_icmp .ne 10, 3) := by decide +kernel
theorem d_M_exit_40 : decode prog_6_method_45_code 40 = .ok (.aload_n 0, 1) := by decide +kernel
theorem d_M_exit_41 : decode prog_6_method_45_code 41 = .ok (.getfield 122, 3) := by decide +kernel
theorem d_M_exit_44 : decode prog_6_method_45_code 44 = .ok (.goto 16, 3) := by decide +kernel
theorem d_M_exit_47 : decode prog_6_method_45_code 47 = .ok (.iload_n 1, 1) := by decide +kernel
theorem d_M_exit_48 : decode prog_6_method_45_code 48 = .ok (.iconst 4, 1) := by decide +kernel
theorem d_M_exit_49 : decode prog_6_method_45_code 49 = .ok (.if_icmp .ne 10, 3) := by decide +kernel
theorem d_M_exit_52 : decode prog_6_method_45_code 52 = .ok (.aload_n 0, 1) := by decide +kernel
theorem d_M_exit_53 : decode prog_6_method_45_code 53 = .ok (.getfield 128, 3) := by decide +kernel
theorem d_M_exit_56 : decode prog_6_method_45_code 56 = .ok (.goto 4, 3) := by decide +kernel
theorem d_M_exit_59 : decode prog_6_method_45_code 59 = .ok (.iconst 0, 1) := by decide +kernel
theorem d_M_exit_60 : decode prog_6_method_45_code 60 = .ok (.ireturn, 1) := by decide +kernel

/-! What each instruction is. By program. -/
theorem d_Lw_load_0 : decode method_3_code 0 = .ok (.aload_n 1, 1) := by decide +kernel
theorem d_Lw_load_1 : decode method_3_code 1 = .ok (.iconst 0, 1) := by decide +kernel
theorem d_Lw_load_2 : decode method_3_code 2 = .ok (.aload_n 0, 1) := by decide +kernel
theorem d_Lw_load_3 : decode method_3_code 3 = .ok (.invokevirtual 7, 3) := by decide +kernel
theorem d_Lw_load_6 : decode method_3_code 6 = .ok (.i2l, 1) := by decide +kernel
theorem d_Lw_load_7 : decode method_3_code 7 = .ok (.lastore, 1) := by decide +kernel
theorem d_Lw_load_8 : decode method_3_code 8 = .ok (.goto 6, 3) := by decide +kernel
theorem d_Lw_load_11 : decode method_3_code 11 = .ok (.astore_n 2, 1) := by decide +kernel
theorem d_Lw_load_12 : decode method_3_code 12 = .ok (.iconst 1, 1) := by decide +kernel
theorem d_Lw_load_13 : decode method_3_code 13 = .ok (.ireturn, 1) := by decide +kernel
theorem d_Lw_load_14 : decode method_3_code 14 = .ok (.iconst 0, 1) := by decide +kernel
theorem d_Lw_load_15 : decode method_3_code 15 = .ok (.ireturn, 1) := by decide +kernel
theorem d_Md_init_0 : decode prog_6_method_1_code 0 = .ok (.aload_n 0, 1) := by decide +kernel
theorem d_Md_init_1 : decode prog_6_method_1_code 1 = .ok (.invokespecial 1, 3) := by decide +kernel
theorem d_Md_init_4 : decode prog_6_method_1_code 4 = .ok (.aload_n 0, 1) := by decide +kernel
theorem d_Md_init_5 : decode prog_6_method_1_code 5 = .ok (.ldc 7, 2) := by decide +kernel
theorem d_Md_init_7 : decode prog_6_method_1_code 7 = .ok (.newarray .byte, 2) := by decide +kernel
theorem d_Md_init_9 : decode prog_6_method_1_code 9 = .ok (.putfield 8, 3) := by decide +kernel
theorem d_Md_init_12 : decode prog_6_method_1_code 12 = .ok (.aload_n 0, 1) := by decide +kernel
theorem d_Md_init_13 : decode prog_6_method_1_code 13 = .ok (.ldc 14, 2) := by decide +kernel
theorem d_Md_init_15 : decode prog_6_method_1_code 15 = .ok (.newarray .int, 2) := by decide +kernel
theorem d_Md_init_17 : decode prog_6_method_1_code 17 = .ok (.putfield 15, 3) := by decide +kernel
theorem d_Md_init_20 : decode prog_6_method_1_code 20 = .ok (.aload_n 0, 1) := by decide +kernel
theorem d_Md_init_21 : decode prog_6_method_1_code 21 = .ok (.ldc 14, 2) := by decide +kernel
theorem d_Md_init_23 : decode prog_6_method_1_code 23 = .ok (.newarray .int, 2) := by decide +kernel
theorem d_Md_init_25 : decode prog_6_method_1_code 25 = .ok (.putfield 19, 3) := by decide +kernel
theorem d_Md_init_28 : decode prog_6_method_1_code 28 = .ok (.aload_n 0, 1) := by decide +kernel
theorem d_Md_init_29 : decode prog_6_method_1_code 29 = .ok (.invokevirtual 22, 3) := by decide +kernel
theorem d_Md_init_32 : decode prog_6_method_1_code 32 = .ok (.aload_n 0, 1) := by decide +kernel
theorem d_Md_init_33 : decode prog_6_method_1_code 33 = .ok (.getfield 15, 3) := by decide +kernel
theorem d_Md_init_36 : decode prog_6_method_1_code 36 = .ok (.astore_n 1, 1) := by decide +kernel
theorem d_Md_init_37 : decode prog_6_method_1_code 37 = .ok (.aload_n 0, 1) := by decide +kernel
theorem d_Md_init_38 : decode prog_6_method_1_code 38 = .ok (.aload_n 0, 1) := by decide +kernel
theorem d_Md_init_39 : decode prog_6_method_1_code 39 = .ok (.getfield 19, 3) := by decide +kernel
theorem d_Md_init_42 : decode prog_6_method_1_code 42 = .ok (.putfield 15, 3) := by decide +kernel
theorem d_Md_init_45 : decode prog_6_method_1_code 45 = .ok (.aload_n 0, 1) := by decide +kernel
theorem d_Md_init_46 : decode prog_6_method_1_code 46 = .ok (.aload_n 1, 1) := by decide +kernel
theorem d_Md_init_47 : decode prog_6_method_1_code 47 = .ok (.putfield 19, 3) := by decide +kernel
theorem d_Md_init_50 : decode prog_6_method_1_code 50 = .ok (.return_, 1) := by decide +kernel
theorem d_Md_nothing_0 : decode prog_6_method_3_code 0 = .ok (.iconst 0, 1) := by decide +kernel
theorem d_Md_nothing_1 : decode prog_6_method_3_code 1 = .ok (.istore_n 1, 1) := by decide +kernel
theorem d_Md_nothing_2 : decode prog_6_method_3_code 2 = .ok (.iload_n 1, 1) := by decide +kernel
theorem d_Md_nothing_3 : decode prog_6_method_3_code 3 = .ok (.aload_n 0, 1) := by decide +kernel
theorem d_Md_nothing_4 : decode prog_6_method_3_code 4 = .ok (.getfield 19, 3) := by decide +kernel
theorem d_Md_nothing_7 : decode prog_6_method_3_code 7 = .ok (.arraylength, 1) := by decide +kernel
theorem d_Md_nothing_8 : decode prog_6_method_3_code 8 = .ok (.if_icmp .ge 16, 3) := by decide +kernel
theorem d_Md_nothing_11 : decode prog_6_method_3_code 11 = .ok (.aload_n 0, 1) := by decide +kernel
theorem d_Md_nothing_12 : decode prog_6_method_3_code 12 = .ok (.getfield 19, 3) := by decide +kernel
theorem d_Md_nothing_15 : decode prog_6_method_3_code 15 = .ok (.iload_n 1, 1) := by decide +kernel
theorem d_Md_nothing_16 : decode prog_6_method_3_code 16 = .ok (.iconst 0, 1) := by decide +kernel
theorem d_Md_nothing_17 : decode prog_6_method_3_code 17 = .ok (.iastore, 1) := by decide +kernel
theorem d_Md_nothing_18 : decode prog_6_method_3_code 18 = .ok (.iinc 1 1, 3) := by decide +kernel
theorem d_Md_nothing_21 : decode prog_6_method_3_code 21 = .ok (.goto (-19), 3) := by decide +kernel
theorem d_Md_nothing_24 : decode prog_6_method_3_code 24 = .ok (.aload_n 0, 1) := by decide +kernel
theorem d_Md_nothing_25 : decode prog_6_method_3_code 25 = .ok (.getfield 19, 3) := by decide +kernel
theorem d_Md_nothing_28 : decode prog_6_method_3_code 28 = .ok (.ldc 29, 2) := by decide +kernel
theorem d_Md_nothing_30 : decode prog_6_method_3_code 30 = .ok (.bipush 32, 2) := by decide +kernel
theorem d_Md_nothing_32 : decode prog_6_method_3_code 32 = .ok (.iastore, 1) := by decide +kernel
theorem d_Md_nothing_33 : decode prog_6_method_3_code 33 = .ok (.aload_n 0, 1) := by decide +kernel
theorem d_Md_nothing_34 : decode prog_6_method_3_code 34 = .ok (.getfield 19, 3) := by decide +kernel
theorem d_Md_nothing_37 : decode prog_6_method_3_code 37 = .ok (.ldc 30, 2) := by decide +kernel
theorem d_Md_nothing_39 : decode prog_6_method_3_code 39 = .ok (.ldc 31, 2) := by decide +kernel
theorem d_Md_nothing_41 : decode prog_6_method_3_code 41 = .ok (.iastore, 1) := by decide +kernel
theorem d_Md_nothing_42 : decode prog_6_method_3_code 42 = .ok (.aload_n 0, 1) := by decide +kernel
theorem d_Md_nothing_43 : decode prog_6_method_3_code 43 = .ok (.getfield 19, 3) := by decide +kernel
theorem d_Md_nothing_46 : decode prog_6_method_3_code 46 = .ok (.ldc 32, 2) := by decide +kernel
theorem d_Md_nothing_48 : decode prog_6_method_3_code 48 = .ok (.sipush 16384, 3) := by decide +kernel
theorem d_Md_nothing_51 : decode prog_6_method_3_code 51 = .ok (.iastore, 1) := by decide +kernel
theorem d_Md_nothing_52 : decode prog_6_method_3_code 52 = .ok (.return_, 1) := by decide +kernel
theorem d_Md_thrown_0 : decode prog_6_method_2_code 0 = .ok (.aload_n 0, 1) := by decide +kernel
theorem d_Md_thrown_1 : decode prog_6_method_2_code 1 = .ok (.getfield 25, 3) := by decide +kernel
theorem d_Md_thrown_4 : decode prog_6_method_2_code 4 = .ok (.ireturn, 1) := by decide +kernel
theorem d_Md_feed_0 : decode prog_6_method_4_code 0 = .ok (.aload_n 0, 1) := by decide +kernel
theorem d_Md_feed_1 : decode prog_6_method_4_code 1 = .ok (.iconst 0, 1) := by decide +kernel
theorem d_Md_feed_2 : decode prog_6_method_4_code 2 = .ok (.putfield 25, 3) := by decide +kernel
theorem d_Md_feed_5 : decode prog_6_method_4_code 5 = .ok (.aload_n 0, 1) := by decide +kernel
theorem d_Md_feed_6 : decode prog_6_method_4_code 6 = .ok (.getfield 33, 3) := by decide +kernel
theorem d_Md_feed_9 : decode prog_6_method_4_code 9 = .ok (.bipush 20, 2) := by decide +kernel
theorem d_Md_feed_11 : decode prog_6_method_4_code 11 = .ok (.iadd, 1) := by decide +kernel
theorem d_Md_feed_12 : decode prog_6_method_4_code 12 = .ok (.ldc 7, 2) := by decide +kernel
theorem d_Md_feed_14 : decode prog_6_method_4_code 14 = .ok (.if_icmp .le 5, 3) := by decide +kernel
theorem d_Md_feed_17 : decode prog_6_method_4_code 17 = .ok (.iconst 0, 1) := by decide +kernel
theorem d_Md_feed_18 : decode prog_6_method_4_code 18 = .ok (.ireturn, 1) := by decide +kernel
theorem d_Md_feed_19 : decode prog_6_method_4_code 19 = .ok (.iconst 0, 1) := by decide +kernel
theorem d_Md_feed_20 : decode prog_6_method_4_code 20 = .ok (.istore 6, 2) := by decide +kernel
theorem d_Md_feed_22 : decode prog_6_method_4_code 22 = .ok (.iload 6, 2) := by decide +kernel
theorem d_Md_feed_24 : decode prog_6_method_4_code 24 = .ok (.bipush 20, 2) := by decide +kernel
theorem d_Md_feed_26 : decode prog_6_method_4_code 26 = .ok (.if_icmp .ge 90, 3) := by decide +kernel
theorem d_Md_feed_29 : decode prog_6_method_4_code 29 = .ok (.iload 6, 2) := by decide +kernel
theorem d_Md_feed_31 : decode prog_6_method_4_code 31 = .ok (.iconst 4, 1) := by decide +kernel
theorem d_Md_feed_32 : decode prog_6_method_4_code 32 = .ok (.if_icmp .ge 7, 3) := by decide +kernel
theorem d_Md_feed_35 : decode prog_6_method_4_code 35 = .ok (.iload_n 1, 1) := by decide +kernel
theorem d_Md_feed_36 : decode prog_6_method_4_code 36 = .ok (.goto 39, 3) := by decide +kernel
theorem d_Md_feed_39 : decode prog_6_method_4_code 39 = .ok (.iload 6, 2) := by decide +kernel
theorem d_Md_feed_41 : decode prog_6_method_4_code 41 = .ok (.bipush 8, 2) := by decide +kernel
theorem d_Md_feed_43 : decode prog_6_method_4_code 43 = .ok (.if_icmp .ge 7, 3) := by decide +kernel
theorem d_Md_feed_46 : decode prog_6_method_4_code 46 = .ok (.iload_n 2, 1) := by decide +kernel
theorem d_Md_feed_47 : decode prog_6_method_4_code 47 = .ok (.goto 28, 3) := by decide +kernel
theorem d_Md_feed_50 : decode prog_6_method_4_code 50 = .ok (.iload 6, 2) := by decide +kernel
theorem d_Md_feed_52 : decode prog_6_method_4_code 52 = .ok (.bipush 12, 2) := by decide +kernel
theorem d_Md_feed_54 : decode prog_6_method_4_code 54 = .ok (.if_icmp .ge 7, 3) := by decide +kernel
theorem d_Md_feed_57 : decode prog_6_method_4_code 57 = .ok (.iload_n 3, 1) := by decide +kernel
theorem d_Md_feed_58 : decode prog_6_method_4_code 58 = .ok (.goto 17, 3) := by decide +kernel
theorem d_Md_feed_61 : decode prog_6_method_4_code 61 = .ok (.iload 6, 2) := by decide +kernel
theorem d_Md_feed_63 : decode prog_6_method_4_code 63 = .ok (.bipush 16, 2) := by decide +kernel
theorem d_Md_feed_65 : decode prog_6_method_4_code 65 = .ok (.if_icmp .ge 8, 3) := by decide +kernel
theorem d_Md_feed_68 : decode prog_6_method_4_code 68 = .ok (.iload 4, 2) := by decide +kernel
theorem d_Md_feed_70 : decode prog_6_method_4_code 70 = .ok (.goto 5, 3) := by decide +kernel
theorem d_Md_feed_73 : decode prog_6_method_4_code 73 = .ok (.iload 5, 2) := by decide +kernel
theorem d_Md_feed_75 : decode prog_6_method_4_code 75 = .ok (.istore 7, 2) := by decide +kernel
theorem d_Md_feed_77 : decode prog_6_method_4_code 77 = .ok (.aload_n 0, 1) := by decide +kernel
theorem d_Md_feed_78 : decode prog_6_method_4_code 78 = .ok (.getfield 8, 3) := by decide +kernel
theorem d_Md_feed_81 : decode prog_6_method_4_code 81 = .ok (.aload_n 0, 1) := by decide +kernel
theorem d_Md_feed_82 : decode prog_6_method_4_code 82 = .ok (.getfield 33, 3) := by decide +kernel
theorem d_Md_feed_85 : decode prog_6_method_4_code 85 = .ok (.iload 7, 2) := by decide +kernel
theorem d_Md_feed_87 : decode prog_6_method_4_code 87 = .ok (.bipush 24, 2) := by decide +kernel
theorem d_Md_feed_89 : decode prog_6_method_4_code 89 = .ok (.bipush 8, 2) := by decide +kernel
theorem d_Md_feed_91 : decode prog_6_method_4_code 91 = .ok (.iload 6, 2) := by decide +kernel
theorem d_Md_feed_93 : decode prog_6_method_4_code 93 = .ok (.iconst 4, 1) := by decide +kernel
theorem d_Md_feed_94 : decode prog_6_method_4_code 94 = .ok (.irem, 1) := by decide +kernel
theorem d_Md_feed_95 : decode prog_6_method_4_code 95 = .ok (.imul, 1) := by decide +kernel
theorem d_Md_feed_96 : decode prog_6_method_4_code 96 = .ok (.isub, 1) := by decide +kernel
theorem d_Md_feed_97 : decode prog_6_method_4_code 97 = .ok (.ishr, 1) := by decide +kernel
theorem d_Md_feed_98 : decode prog_6_method_4_code 98 = .ok (.i2b, 1) := by decide +kernel
theorem d_Md_feed_99 : decode prog_6_method_4_code 99 = .ok (.bastore, 1) := by decide +kernel
theorem d_Md_feed_100 : decode prog_6_method_4_code 100 = .ok (.aload_n 0, 1) := by decide +kernel
theorem d_Md_feed_101 : decode prog_6_method_4_code 101 = .ok (.dup, 1) := by decide +kernel
theorem d_Md_feed_102 : decode prog_6_method_4_code 102 = .ok (.getfield 33, 3) := by decide +kernel
theorem d_Md_feed_105 : decode prog_6_method_4_code 105 = .ok (.iconst 1, 1) := by decide +kernel
theorem d_Md_feed_106 : decode prog_6_method_4_code 106 = .ok (.iadd, 1) := by decide +kernel
theorem d_Md_feed_107 : decode prog_6_method_4_code 107 = .ok (.putfield 33, 3) := by decide +kernel
theorem d_Md_feed_110 : decode prog_6_method_4_code 110 = .ok (.iinc 6 1, 3) := by decide +kernel
theorem d_Md_feed_113 : decode prog_6_method_4_code 113 = .ok (.goto (-91), 3) := by decide +kernel
theorem d_Md_feed_116 : decode prog_6_method_4_code 116 = .ok (.iconst 1, 1) := by decide +kernel
theorem d_Md_feed_117 : decode prog_6_method_4_code 117 = .ok (.ireturn, 1) := by decide +kernel
theorem d_Md_end_0 : decode prog_6_method_5_code 0 = .ok (.aload_n 0, 1) := by decide +kernel
theorem d_Md_end_1 : decode prog_6_method_5_code 1 = .ok (.iconst 0, 1) := by decide +kernel
theorem d_Md_end_2 : decode prog_6_method_5_code 2 = .ok (.putfield 25, 3) := by decide +kernel
theorem d_Md_end_5 : decode prog_6_method_5_code 5 = .ok (.iload_n 1, 1) := by decide +kernel
theorem d_Md_end_6 : decode prog_6_method_5_code 6 = .ok (.ifCond .lt 11, 3) := by decide +kernel
theorem d_Md_end_9 : decode prog_6_method_5_code 9 = .ok (.iload_n 1, 1) := by decide +kernel
theorem d_Md_end_10 : decode prog_6_method_5_code 10 = .ok (.aload_n 0, 1) := by decide +kernel
theorem d_Md_end_11 : decode prog_6_method_5_code 11 = .ok (.getfield 33, 3) := by decide +kernel
theorem d_Md_end_14 : decode prog_6_method_5_code 14 = .ok (.if_icmp .le 5, 3) := by decide +kernel
theorem d_Md_end_17 : decode prog_6_method_5_code 17 = .ok (.iconst 0, 1) := by decide +kernel
theorem d_Md_end_18 : decode prog_6_method_5_code 18 = .ok (.ireturn, 1) := by decide +kernel
theorem d_Md_end_19 : decode prog_6_method_5_code 19 = .ok (.aload_n 0, 1) := by decide +kernel
theorem d_Md_end_20 : decode prog_6_method_5_code 20 = .ok (.iload_n 1, 1) := by decide +kernel
theorem d_Md_end_21 : decode prog_6_method_5_code 21 = .ok (.putfield 33, 3) := by decide +kernel
theorem d_Md_end_24 : decode prog_6_method_5_code 24 = .ok (.iconst 1, 1) := by decide +kernel
theorem d_Md_end_25 : decode prog_6_method_5_code 25 = .ok (.ireturn, 1) := by decide +kernel
theorem d_Md_size_0 : decode prog_6_method_6_code 0 = .ok (.aload_n 0, 1) := by decide +kernel
theorem d_Md_size_1 : decode prog_6_method_6_code 1 = .ok (.iconst 0, 1) := by decide +kernel
theorem d_Md_size_2 : decode prog_6_method_6_code 2 = .ok (.putfield 25, 3) := by decide +kernel
theorem d_Md_size_5 : decode prog_6_method_6_code 5 = .ok (.aload_n 0, 1) := by decide +kernel
theorem d_Md_size_6 : decode prog_6_method_6_code 6 = .ok (.getfield 33, 3) := by decide +kernel
theorem d_Md_size_9 : decode prog_6_method_6_code 9 = .ok (.ireturn, 1) := by decide +kernel
theorem d_Md_load_0 : decode prog_6_method_32_code 0 = .ok (.aload_n 0, 1) := by decide +kernel
theorem d_Md_load_1 : decode prog_6_method_32_code 1 = .ok (.iconst 0, 1) := by decide +kernel
theorem d_Md_load_2 : decode prog_6_method_32_code 2 = .ok (.putfield 36, 3) := by decide +kernel
theorem d_Md_load_5 : decode prog_6_method_32_code 5 = .ok (.aload_n 0, 1) := by decide +kernel
theorem d_Md_load_6 : decode prog_6_method_32_code 6 = .ok (.iconst 0, 1) := by decide +kernel
theorem d_Md_load_7 : decode prog_6_method_32_code 7 = .ok (.putfield 39, 3) := by decide +kernel
theorem d_Md_load_10 : decode prog_6_method_32_code 10 = .ok (.aload_n 0, 1) := by decide +kernel
theorem d_Md_load_11 : decode prog_6_method_32_code 11 = .ok (.iconst 0, 1) := by decide +kernel
theorem d_Md_load_12 : decode prog_6_method_32_code 12 = .ok (.putfield 42, 3) := by decide +kernel
theorem d_Md_load_15 : decode prog_6_method_32_code 15 = .ok (.aload_n 0, 1) := by decide +kernel
theorem d_Md_load_16 : decode prog_6_method_32_code 16 = .ok (.aload_n 0, 1) := by decide +kernel
theorem d_Md_load_17 : decode prog_6_method_32_code 17 = .ok (.getfield 33, 3) := by decide +kernel
theorem d_Md_load_20 : decode prog_6_method_32_code 20 = .ok (.putfield 45, 3) := by decide +kernel
theorem d_Md_load_23 : decode prog_6_method_32_code 23 = .ok (.aload_n 0, 1) := by decide +kernel
theorem d_Md_load_24 : decode prog_6_method_32_code 24 = .ok (.iconst 0, 1) := by decide +kernel
theorem d_Md_load_25 : decode prog_6_method_32_code 25 = .ok (.putfield 33, 3) := by decide +kernel
theorem d_Md_load_28 : decode prog_6_method_32_code 28 = .ok (.aload_n 0, 1) := by decide +kernel
theorem d_Md_load_29 : decode prog_6_method_32_code 29 = .ok (.invokevirtual 22, 3) := by decide +kernel
theorem d_Md_load_32 : decode prog_6_method_32_code 32 = .ok (.aload_n 0, 1) := by decide +kernel
theorem d_Md_load_33 : decode prog_6_method_32_code 33 = .ok (.invokevirtual 225, 3) := by decide +kernel
theorem d_Md_load_36 : decode prog_6_method_32_code 36 = .ok (.istore_n 1, 1) := by decide +kernel
theorem d_Md_load_37 : decode prog_6_method_32_code 37 = .ok (.aload_n 0, 1) := by decide +kernel
theorem d_Md_load_38 : decode prog_6_method_32_code 38 = .ok (.iload_n 1, 1) := by decide +kernel
theorem d_Md_load_39 : decode prog_6_method_32_code 39 = .ok (.ifCond .eq 7, 3) := by decide +kernel
theorem d_Md_load_42 : decode prog_6_method_32_code 42 = .ok (.iconst 0, 1) := by decide +kernel
theorem d_Md_load_43 : decode prog_6_method_32_code 43 = .ok (.goto 4, 3) := by decide +kernel
theorem d_Md_load_46 : decode prog_6_method_32_code 46 = .ok (.iconst 1, 1) := by decide +kernel
theorem d_Md_load_47 : decode prog_6_method_32_code 47 = .ok (.putfield 25, 3) := by decide +kernel
theorem d_Md_load_50 : decode prog_6_method_32_code 50 = .ok (.iload_n 1, 1) := by decide +kernel
theorem d_Md_load_51 : decode prog_6_method_32_code 51 = .ok (.ifCond .ne 5, 3) := by decide +kernel
theorem d_Md_load_54 : decode prog_6_method_32_code 54 = .ok (.iconst 0, 1) := by decide +kernel
theorem d_Md_load_55 : decode prog_6_method_32_code 55 = .ok (.ireturn, 1) := by decide +kernel
theorem d_Md_load_56 : decode prog_6_method_32_code 56 = .ok (.aload_n 0, 1) := by decide +kernel
theorem d_Md_load_57 : decode prog_6_method_32_code 57 = .ok (.getfield 15, 3) := by decide +kernel
theorem d_Md_load_60 : decode prog_6_method_32_code 60 = .ok (.astore_n 2, 1) := by decide +kernel
theorem d_Md_load_61 : decode prog_6_method_32_code 61 = .ok (.aload_n 0, 1) := by decide +kernel
theorem d_Md_load_62 : decode prog_6_method_32_code 62 = .ok (.aload_n 0, 1) := by decide +kernel
theorem d_Md_load_63 : decode prog_6_method_32_code 63 = .ok (.getfield 19, 3) := by decide +kernel
theorem d_Md_load_66 : decode prog_6_method_32_code 66 = .ok (.putfield 15, 3) := by decide +kernel
theorem d_Md_load_69 : decode prog_6_method_32_code 69 = .ok (.aload_n 0, 1) := by decide +kernel
theorem d_Md_load_70 : decode prog_6_method_32_code 70 = .ok (.aload_n 2, 1) := by decide +kernel
theorem d_Md_load_71 : decode prog_6_method_32_code 71 = .ok (.putfield 19, 3) := by decide +kernel
theorem d_Md_load_74 : decode prog_6_method_32_code 74 = .ok (.aload_n 0, 1) := by decide +kernel
theorem d_Md_load_75 : decode prog_6_method_32_code 75 = .ok (.getfield 15, 3) := by decide +kernel
theorem d_Md_load_78 : decode prog_6_method_32_code 78 = .ok (.iconst 3, 1) := by decide +kernel
theorem d_Md_load_79 : decode prog_6_method_32_code 79 = .ok (.iaload, 1) := by decide +kernel
theorem d_Md_load_80 : decode prog_6_method_32_code 80 = .ok (.ireturn, 1) := by decide +kernel
theorem d_Md_scene_0 : decode prog_6_method_31_code 0 = .ok (.aload_n 0, 1) := by decide +kernel
theorem d_Md_scene_1 : decode prog_6_method_31_code 1 = .ok (.bipush 123, 2) := by decide +kernel
theorem d_Md_scene_3 : decode prog_6_method_31_code 3 = .ok (.invokevirtual 71, 3) := by decide +kernel
theorem d_Md_scene_6 : decode prog_6_method_31_code 6 = .ok (.ifCond .ne 5, 3) := by decide +kernel
theorem d_Md_scene_9 : decode prog_6_method_31_code 9 = .ok (.iconst 0, 1) := by decide +kernel
theorem d_Md_scene_10 : decode prog_6_method_31_code 10 = .ok (.ireturn, 1) := by decide +kernel
theorem d_Md_scene_11 : decode prog_6_method_31_code 11 = .ok (.iconst 0, 1) := by decide +kernel
theorem d_Md_scene_12 : decode prog_6_method_31_code 12 = .ok (.istore_n 1, 1) := by decide +kernel
theorem d_Md_scene_13 : decode prog_6_method_31_code 13 = .ok (.aload_n 0, 1) := by decide +kernel
theorem d_Md_scene_14 : decode prog_6_method_31_code 14 = .ok (.bipush 125, 2) := by decide +kernel
theorem d_Md_scene_16 : decode prog_6_method_31_code 16 = .ok (.invokevirtual 51, 3) := by decide +kernel
theorem d_Md_scene_19 : decode prog_6_method_31_code 19 = .ok (.ifCond .ne 7, 3) := by decide +kernel
theorem d_Md_scene_22 : decode prog_6_method_31_code 22 = .ok (.iconst 1, 1) := by decide +kernel
theorem d_Md_scene_23 : decode prog_6_method_31_code 23 = .ok (.goto 4, 3) := by decide +kernel
theorem d_Md_scene_26 : decode prog_6_method_31_code 26 = .ok (.iconst 0, 1) := by decide +kernel
theorem d_Md_scene_27 : decode prog_6_method_31_code 27 = .ok (.istore_n 2, 1) := by decide +kernel
theorem d_Md_scene_28 : decode prog_6_method_31_code 28 = .ok (.iload_n 2, 1) := by decide +kernel
theorem d_Md_scene_29 : decode prog_6_method_31_code 29 = .ok (.ifCond .eq 104, 3) := by decide +kernel
theorem d_Md_scene_32 : decode prog_6_method_31_code 32 = .ok (.iload_n 1, 1) := by decide +kernel
theorem d_Md_scene_33 : decode prog_6_method_31_code 33 = .ok (.istore_n 3, 1) := by decide +kernel
theorem d_Md_scene_34 : decode prog_6_method_31_code 34 = .ok (.iload_n 3, 1) := by decide +kernel
theorem d_Md_scene_35 : decode prog_6_method_31_code 35 = .ok (.bipush 7, 2) := by decide +kernel
theorem d_Md_scene_37 : decode prog_6_method_31_code 37 = .ok (.if_icmp .ge 21, 3) := by decide +kernel
theorem d_Md_scene_40 : decode prog_6_method_31_code 40 = .ok (.aload_n 0, 1) := by decide +kernel
theorem d_Md_scene_41 : decode prog_6_method_31_code 41 = .ok (.aload_n 0, 1) := by decide +kernel
theorem d_Md_scene_42 : decode prog_6_method_31_code 42 = .ok (.iload_n 3, 1) := by decide +kernel
theorem d_Md_scene_43 : decode prog_6_method_31_code 43 = .ok (.invokevirtual 209, 3) := by decide +kernel
theorem d_Md_scene_46 : decode prog_6_method_31_code 46 = .ok (.invokevirtual 67, 3) := by decide +kernel
theorem d_Md_scene_49 : decode prog_6_method_31_code 49 = .ok (.ifCond .ne 9, 3) := by decide +kernel
theorem d_Md_scene_52 : decode prog_6_method_31_code 52 = .ok (.iinc 3 1, 3) := by decide +kernel
theorem d_Md_scene_55 : decode prog_6_method_31_code 55 = .ok (.goto (-21), 3) := by decide +kernel
theorem d_Md_scene_58 : decode prog_6_method_31_code 58 = .ok (.iload_n 3, 1) := by decide +kernel
theorem d_Md_scene_59 : decode prog_6_method_31_code 59 = .ok (.bipush 7, 2) := by decide +kernel
theorem d_Md_scene_61 : decode prog_6_method_31_code 61 = .ok (.if_icmp .ne 13, 3) := by decide +kernel
theorem d_Md_scene_64 : decode prog_6_method_31_code 64 = .ok (.aload_n 0, 1) := by decide +kernel
theorem d_Md_scene_65 : decode prog_6_method_31_code 65 = .ok (.iconst 1, 1) := by decide +kernel
theorem d_Md_scene_66 : decode prog_6_method_31_code 66 = .ok (.aload_n 0, 1) := by decide +kernel
theorem d_Md_scene_67 : decode prog_6_method_31_code 67 = .ok (.getfield 42, 3) := by decide +kernel
theorem d_Md_scene_70 : decode prog_6_method_31_code 70 = .ok (.invokevirtual 55, 3) := by decide +kernel
theorem d_Md_scene_73 : decode prog_6_method_31_code 73 = .ok (.ireturn, 1) := by decide +kernel
theorem d_Md_scene_74 : decode prog_6_method_31_code 74 = .ok (.aload_n 0, 1) := by decide +kernel
theorem d_Md_scene_75 : decode prog_6_method_31_code 75 = .ok (.iload_n 3, 1) := by decide +kernel
theorem d_Md_scene_76 : decode prog_6_method_31_code 76 = .ok (.invokevirtual 222, 3) := by decide +kernel
theorem d_Md_scene_79 : decode prog_6_method_31_code 79 = .ok (.ifCond .ne 5, 3) := by decide +kernel
theorem d_Md_scene_82 : decode prog_6_method_31_code 82 = .ok (.iconst 0, 1) := by decide +kernel
theorem d_Md_scene_83 : decode prog_6_method_31_code 83 = .ok (.ireturn, 1) := by decide +kernel
theorem d_Md_scene_84 : decode prog_6_method_31_code 84 = .ok (.iload_n 3, 1) := by decide +kernel
theorem d_Md_scene_85 : decode prog_6_method_31_code 85 = .ok (.iconst 1, 1) := by decide +kernel
theorem d_Md_scene_86 : decode prog_6_method_31_code 86 = .ok (.iadd, 1) := by decide +kernel
theorem d_Md_scene_87 : decode prog_6_method_31_code 87 = .ok (.istore_n 1, 1) := by decide +kernel
theorem d_Md_scene_88 : decode prog_6_method_31_code 88 = .ok (.iload_n 1, 1) := by decide +kernel
theorem d_Md_scene_89 : decode prog_6_method_31_code 89 = .ok (.bipush 7, 2) := by decide +kernel
theorem d_Md_scene_91 : decode prog_6_method_31_code 91 = .ok (.if_icmp .ge 16, 3) := by decide +kernel
theorem d_Md_scene_94 : decode prog_6_method_31_code 94 = .ok (.aload_n 0, 1) := by decide +kernel
theorem d_Md_scene_95 : decode prog_6_method_31_code 95 = .ok (.bipush 44, 2) := by decide +kernel
theorem d_Md_scene_97 : decode prog_6_method_31_code 97 = .ok (.invokevirtual 51, 3) := by decide +kernel
theorem d_Md_scene_100 : decode prog_6_method_31_code 100 = .ok (.ifCond .eq 7, 3) := by decide +kernel
theorem d_Md_scene_103 : decode prog_6_method_31_code 103 = .ok (.iconst 1, 1) := by decide +kernel
theorem d_Md_scene_104 : decode prog_6_method_31_code 104 = .ok (.goto 4, 3) := by decide +kernel
theorem d_Md_scene_107 : decode prog_6_method_31_code 107 = .ok (.iconst 0, 1) := by decide +kernel
theorem d_Md_scene_108 : decode prog_6_method_31_code 108 = .ok (.istore_n 2, 1) := by decide +kernel
theorem d_Md_scene_109 : decode prog_6_method_31_code 109 = .ok (.aload_n 0, 1) := by decide +kernel
theorem d_Md_scene_110 : decode prog_6_method_31_code 110 = .ok (.iload_n 2, 1) := by decide +kernel
theorem d_Md_scene_111 : decode prog_6_method_31_code 111 = .ok (.ifCond .eq 12, 3) := by decide +kernel
theorem d_Md_scene_114 : decode prog_6_method_31_code 114 = .ok (.aload_n 0, 1) := by decide +kernel
theorem d_Md_scene_115 : decode prog_6_method_31_code 115 = .ok (.getfield 42, 3) := by decide +kernel
theorem d_Md_scene_118 : decode prog_6_method_31_code 118 = .ok (.iconst 1, 1) := by decide +kernel
theorem d_Md_scene_119 : decode prog_6_method_31_code 119 = .ok (.iadd, 1) := by decide +kernel
theorem d_Md_scene_120 : decode prog_6_method_31_code 120 = .ok (.goto 7, 3) := by decide +kernel
theorem d_Md_scene_123 : decode prog_6_method_31_code 123 = .ok (.aload_n 0, 1) := by decide +kernel
theorem d_Md_scene_124 : decode prog_6_method_31_code 124 = .ok (.getfield 42, 3) := by decide +kernel
theorem d_Md_scene_127 : decode prog_6_method_31_code 127 = .ok (.putfield 42, 3) := by decide +kernel
theorem d_Md_scene_130 : decode prog_6_method_31_code 130 = .ok (.goto (-102), 3) := by decide +kernel
theorem d_Md_scene_133 : decode prog_6_method_31_code 133 = .ok (.aload_n 0, 1) := by decide +kernel
theorem d_Md_scene_134 : decode prog_6_method_31_code 134 = .ok (.bipush 125, 2) := by decide +kernel
theorem d_Md_scene_136 : decode prog_6_method_31_code 136 = .ok (.invokevirtual 71, 3) := by decide +kernel
theorem d_Md_scene_139 : decode prog_6_method_31_code 139 = .ok (.ifCond .ne 5, 3) := by decide +kernel
theorem d_Md_scene_142 : decode prog_6_method_31_code 142 = .ok (.iconst 0, 1) := by decide +kernel
theorem d_Md_scene_143 : decode prog_6_method_31_code 143 = .ok (.ireturn, 1) := by decide +kernel
theorem d_Md_scene_144 : decode prog_6_method_31_code 144 = .ok (.aload_n 0, 1) := by decide +kernel
theorem d_Md_scene_145 : decode prog_6_method_31_code 145 = .ok (.invokevirtual 48, 3) := by decide +kernel
theorem d_Md_scene_148 : decode prog_6_method_31_code 148 = .ok (.aload_n 0, 1) := by decide +kernel
theorem d_Md_scene_149 : decode prog_6_method_31_code 149 = .ok (.getfield 42, 3) := by decide +kernel
theorem d_Md_scene_152 : decode prog_6_method_31_code 152 = .ok (.aload_n 0, 1) := by decide +kernel
theorem d_Md_scene_153 : decode prog_6_method_31_code 153 = .ok (.getfield 45, 3) := by decide +kernel
theorem d_Md_scene_156 : decode prog_6_method_31_code 156 = .ok (.if_icmp .eq 15, 3) := by decide +kernel
theorem d_Md_scene_159 : decode prog_6_method_31_code 159 = .ok (.aload_n 0, 1) := by decide +kernel
theorem d_Md_scene_160 : decode prog_6_method_31_code 160 = .ok (.iconst 1, 1) := by decide +kernel
theorem d_Md_scene_161 : decode prog_6_method_31_code 161 = .ok (.aload_n 0, 1) := by decide +kernel
theorem d_Md_scene_162 : decode prog_6_method_31_code 162 = .ok (.getfield 42, 3) := by decide +kernel
theorem d_Md_scene_165 : decode prog_6_method_31_code 165 = .ok (.invokevirtual 55, 3) := by decide +kernel
theorem d_Md_scene_168 : decode prog_6_method_31_code 168 = .ok (.ifCond .eq 7, 3) := by decide +kernel
theorem d_Md_scene_171 : decode prog_6_method_31_code 171 = .ok (.iconst 1, 1) := by decide +kernel
theorem d_Md_scene_172 : decode prog_6_method_31_code 172 = .ok (.goto 4, 3) := by decide +kernel
theorem d_Md_scene_175 : decode prog_6_method_31_code 175 = .ok (.iconst 0, 1) := by decide +kernel
theorem d_Md_scene_176 : decode prog_6_method_31_code 176 = .ok (.ireturn, 1) := by decide +kernel
theorem d_Md_sign_0 : decode prog_6_method_10_code 0 = .ok (.aload_n 0, 1) := by decide +kernel
theorem d_Md_sign_1 : decode prog_6_method_10_code 1 = .ok (.iload_n 1, 1) := by decide +kernel
theorem d_Md_sign_2 : decode prog_6_method_10_code 2 = .ok (.invokevirtual 51, 3) := by decide +kernel
theorem d_Md_sign_5 : decode prog_6_method_10_code 5 = .ok (.ifCond .ne 13, 3) := by decide +kernel
theorem d_Md_sign_8 : decode prog_6_method_10_code 8 = .ok (.aload_n 0, 1) := by decide +kernel
theorem d_Md_sign_9 : decode prog_6_method_10_code 9 = .ok (.iconst 1, 1) := by decide +kernel
theorem d_Md_sign_10 : decode prog_6_method_10_code 10 = .ok (.aload_n 0, 1) := by decide +kernel
theorem d_Md_sign_11 : decode prog_6_method_10_code 11 = .ok (.getfield 42, 3) := by decide +kernel
theorem d_Md_sign_14 : decode prog_6_method_10_code 14 = .ok (.invokevirtual 55, 3) := by decide +kernel
theorem d_Md_sign_17 : decode prog_6_method_10_code 17 = .ok (.ireturn, 1) := by decide +kernel
theorem d_Md_sign_18 : decode prog_6_method_10_code 18 = .ok (.aload_n 0, 1) := by decide +kernel
theorem d_Md_sign_19 : decode prog_6_method_10_code 19 = .ok (.dup, 1) := by decide +kernel
theorem d_Md_sign_20 : decode prog_6_method_10_code 20 = .ok (.getfield 42, 3) := by decide +kernel
theorem d_Md_sign_23 : decode prog_6_method_10_code 23 = .ok (.iconst 1, 1) := by decide +kernel
theorem d_Md_sign_24 : decode prog_6_method_10_code 24 = .ok (.iadd, 1) := by decide +kernel
theorem d_Md_sign_25 : decode prog_6_method_10_code 25 = .ok (.putfield 42, 3) := by decide +kernel
theorem d_Md_sign_28 : decode prog_6_method_10_code 28 = .ok (.iconst 1, 1) := by decide +kernel
theorem d_Md_sign_29 : decode prog_6_method_10_code 29 = .ok (.ireturn, 1) := by decide +kernel
theorem d_Md_comes_0 : decode prog_6_method_9_code 0 = .ok (.aload_n 0, 1) := by decide +kernel
theorem d_Md_comes_1 : decode prog_6_method_9_code 1 = .ok (.invokevirtual 48, 3) := by decide +kernel
theorem d_Md_comes_4 : decode prog_6_method_9_code 4 = .ok (.aload_n 0, 1) := by decide +kernel
theorem d_Md_comes_5 : decode prog_6_method_9_code 5 = .ok (.getfield 42, 3) := by decide +kernel
theorem d_Md_comes_8 : decode prog_6_method_9_code 8 = .ok (.aload_n 0, 1) := by decide +kernel
theorem d_Md_comes_9 : decode prog_6_method_9_code 9 = .ok (.getfield 45, 3) := by decide +kernel
theorem d_Md_comes_12 : decode prog_6_method_9_code 12 = .ok (.if_icmp .ge 20, 3) := by decide +kernel
theorem d_Md_comes_15 : decode prog_6_method_9_code 15 = .ok (.aload_n 0, 1) := by decide +kernel
theorem d_Md_comes_16 : decode prog_6_method_9_code 16 = .ok (.getfield 8, 3) := by decide +kernel
theorem d_Md_comes_19 : decode prog_6_method_9_code 19 = .ok (.aload_n 0, 1) := by decide +kernel
theorem d_Md_comes_20 : decode prog_6_method_9_code 20 = .ok (.getfield 42, 3) := by decide +kernel
theorem d_Md_comes_23 : decode prog_6_method_9_code 23 = .ok (.baload, 1) := by decide +kernel
theorem d_Md_comes_24 : decode prog_6_method_9_code 24 = .ok (.iload_n 1, 1) := by decide +kernel
theorem d_Md_comes_25 : decode prog_6_method_9_code 25 = .ok (.if_icmp .ne 7, 3) := by decide +kernel
theorem d_Md_comes_28 : decode prog_6_method_9_code 28 = .ok (.iconst 1, 1) := by decide +kernel
theorem d_Md_comes_29 : decode prog_6_method_9_code 29 = .ok (.goto 4, 3) := by decide +kernel
theorem d_Md_comes_32 : decode prog_6_method_9_code 32 = .ok (.iconst 0, 1) := by decide +kernel
theorem d_Md_comes_33 : decode prog_6_method_9_code 33 = .ok (.ireturn, 1) := by decide +kernel
theorem d_Md_skip_0 : decode prog_6_method_8_code 0 = .ok (.aload_n 0, 1) := by decide +kernel
theorem d_Md_skip_1 : decode prog_6_method_8_code 1 = .ok (.getfield 42, 3) := by decide +kernel
theorem d_Md_skip_4 : decode prog_6_method_8_code 4 = .ok (.aload_n 0, 1) := by decide +kernel
theorem d_Md_skip_5 : decode prog_6_method_8_code 5 = .ok (.getfield 45, 3) := by decide +kernel
theorem d_Md_skip_8 : decode prog_6_method_8_code 8 = .ok (.if_icmp .ge 72, 3) := by decide +kernel
theorem d_Md_skip_11 : decode prog_6_method_8_code 11 = .ok (.aload_n 0, 1) := by decide +kernel
theorem d_Md_skip_12 : decode prog_6_method_8_code 12 = .ok (.getfield 8, 3) := by decide +kernel
theorem d_Md_skip_15 : decode prog_6_method_8_code 15 = .ok (.aload_n 0, 1) := by decide +kernel
theorem d_Md_skip_16 : decode prog_6_method_8_code 16 = .ok (.getfield 42, 3) := by decide +kernel
theorem d_Md_skip_19 : decode prog_6_method_8_code 19 = .ok (.baload, 1) := by decide +kernel
theorem d_Md_skip_20 : decode prog_6_method_8_code 20 = .ok (.bipush 32, 2) := by decide +kernel
theorem d_Md_skip_22 : decode prog_6_method_8_code 22 = .ok (.if_icmp .eq 45, 3) := by decide +kernel
theorem d_Md_skip_25 : decode prog_6_method_8_code 25 = .ok (.aload_n 0, 1) := by decide +kernel
theorem d_Md_skip_26 : decode prog_6_method_8_code 26 = .ok (.getfield 8, 3) := by decide +kernel
theorem d_Md_skip_29 : decode prog_6_method_8_code 29 = .ok (.aload_n 0, 1) := by decide +kernel
theorem d_Md_skip_30 : decode prog_6_method_8_code 30 = .ok (.getfield 42, 3) := by decide +kernel
theorem d_Md_skip_33 : decode prog_6_method_8_code 33 = .ok (.baload, 1) := by decide +kernel
theorem d_Md_skip_34 : decode prog_6_method_8_code 34 = .ok (.bipush 10, 2) := by decide +kernel
theorem d_Md_skip_36 : decode prog_6_method_8_code 36 = .ok (.if_icmp .eq 31, 3) := by decide +kernel
theorem d_Md_skip_39 : decode prog_6_method_8_code 39 = .ok (.aload_n 0, 1) := by decide +kernel
theorem d_Md_skip_40 : decode prog_6_method_8_code 40 = .ok (.getfield 8, 3) := by decide +kernel
theorem d_Md_skip_43 : decode prog_6_method_8_code 43 = .ok (.aload_n 0, 1) := by decide +kernel
theorem d_Md_skip_44 : decode prog_6_method_8_code 44 = .ok (.getfield 42, 3) := by decide +kernel
theorem d_Md_skip_47 : decode prog_6_method_8_code 47 = .ok (.baload, 1) := by decide +kernel
theorem d_Md_skip_48 : decode prog_6_method_8_code 48 = .ok (.bipush 13, 2) := by decide +kernel
theorem d_Md_skip_50 : decode prog_6_method_8_code 50 = .ok (.if_icmp .eq 17, 3) := by decide +kernel
theorem d_Md_skip_53 : decode prog_6_method_8_code 53 = .ok (.aload_n 0, 1) := by decide +kernel
theorem d_Md_skip_54 : decode prog_6_method_8_code 54 = .ok (.getfield 8, 3) := by decide +kernel
theorem d_Md_skip_57 : decode prog_6_method_8_code 57 = .ok (.aload_n 0, 1) := by decide +kernel
theorem d_Md_skip_58 : decode prog_6_method_8_code 58 = .ok (.getfield 42, 3) := by decide +kernel
theorem d_Md_skip_61 : decode prog_6_method_8_code 61 = .ok (.baload, 1) := by decide +kernel
theorem d_Md_skip_62 : decode prog_6_method_8_code 62 = .ok (.bipush 9, 2) := by decide +kernel
theorem d_Md_skip_64 : decode prog_6_method_8_code 64 = .ok (.if_icmp .ne 16, 3) := by decide +kernel
theorem d_Md_skip_67 : decode prog_6_method_8_code 67 = .ok (.aload_n 0, 1) := by decide +kernel
theorem d_Md_skip_68 : decode prog_6_method_8_code 68 = .ok (.dup, 1) := by decide +kernel
theorem d_Md_skip_69 : decode prog_6_method_8_code 69 = .ok (.getfield 42, 3) := by decide +kernel
theorem d_Md_skip_72 : decode prog_6_method_8_code 72 = .ok (.iconst 1, 1) := by decide +kernel
theorem d_Md_skip_73 : decode prog_6_method_8_code 73 = .ok (.iadd, 1) := by decide +kernel
theorem d_Md_skip_74 : decode prog_6_method_8_code 74 = .ok (.putfield 42, 3) := by decide +kernel
theorem d_Md_skip_77 : decode prog_6_method_8_code 77 = .ok (.goto (-77), 3) := by decide +kernel
theorem d_Md_skip_80 : decode prog_6_method_8_code 80 = .ok (.return_, 1) := by decide +kernel
theorem d_Md_fails_0 : decode prog_6_method_7_code 0 = .ok (.aload_n 0, 1) := by decide +kernel
theorem d_Md_fails_1 : decode prog_6_method_7_code 1 = .ok (.iload_n 1, 1) := by decide +kernel
theorem d_Md_fails_2 : decode prog_6_method_7_code 2 = .ok (.putfield 36, 3) := by decide +kernel
theorem d_Md_fails_5 : decode prog_6_method_7_code 5 = .ok (.aload_n 0, 1) := by decide +kernel
theorem d_Md_fails_6 : decode prog_6_method_7_code 6 = .ok (.iload_n 2, 1) := by decide +kernel
theorem d_Md_fails_7 : decode prog_6_method_7_code 7 = .ok (.putfield 39, 3) := by decide +kernel
theorem d_Md_fails_10 : decode prog_6_method_7_code 10 = .ok (.iconst 0, 1) := by decide +kernel
theorem d_Md_fails_11 : decode prog_6_method_7_code 11 = .ok (.ireturn, 1) := by decide +kernel
theorem d_Md_nameOf_0 : decode prog_6_method_29_code 0 = .ok (.iload_n 1, 1) := by decide +kernel
theorem d_Md_nameOf_1 : decode prog_6_method_29_code 1 = .ok (.tableswitch 63 0 5 #[39, 43, 47, 51, 55, 59], 39) := by decide +kernel
theorem d_Md_nameOf_40 : decode prog_6_method_29_code 40 = .ok (.ldc2_w 195, 3) := by decide +kernel
theorem d_Md_nameOf_43 : decode prog_6_method_29_code 43 = .ok (.lreturn, 1) := by decide +kernel
theorem d_Md_nameOf_44 : decode prog_6_method_29_code 44 = .ok (.ldc2_w 197, 3) := by decide +kernel
theorem d_Md_nameOf_47 : decode prog_6_method_29_code 47 = .ok (.lreturn, 1) := by decide +kernel
theorem d_Md_nameOf_48 : decode prog_6_method_29_code 48 = .ok (.ldc2_w 199, 3) := by decide +kernel
theorem d_Md_nameOf_51 : decode prog_6_method_29_code 51 = .ok (.lreturn, 1) := by decide +kernel
theorem d_Md_nameOf_52 : decode prog_6_method_29_code 52 = .ok (.ldc2_w 201, 3) := by decide +kernel
theorem d_Md_nameOf_55 : decode prog_6_method_29_code 55 = .ok (.lreturn, 1) := by decide +kernel
theorem d_Md_nameOf_56 : decode prog_6_method_29_code 56 = .ok (.ldc2_w 203, 3) := by decide +kernel
theorem d_Md_nameOf_59 : decode prog_6_method_29_code 59 = .ok (.lreturn, 1) := by decide +kernel
theorem d_Md_nameOf_60 : decode prog_6_method_29_code 60 = .ok (.ldc2_w 205, 3) := by decide +kernel
theorem d_Md_nameOf_63 : decode prog_6_method_29_code 63 = .ok (.lreturn, 1) := by decide +kernel
theorem d_Md_nameOf_64 : decode prog_6_method_29_code 64 = .ok (.ldc2_w 207, 3) := by decide +kernel
theorem d_Md_nameOf_67 : decode prog_6_method_29_code 67 = .ok (.lreturn, 1) := by decide +kernel
theorem d_Md_isWord_0 : decode prog_6_method_12_code 0 = .ok (.aload_n 0, 1) := by decide +kernel
theorem d_Md_isWord_1 : decode prog_6_method_12_code 1 = .ok (.invokevirtual 48, 3) := by decide +kernel
theorem d_Md_isWord_4 : decode prog_6_method_12_code 4 = .ok (.lload_n 1, 1) := by decide +kernel
theorem d_Md_isWord_5 : decode prog_6_method_12_code 5 = .ok (.invokestatic 59, 3) := by decide +kernel
theorem d_Md_isWord_8 : decode prog_6_method_12_code 8 = .ok (.istore_n 3, 1) := by decide +kernel
theorem d_Md_isWord_9 : decode prog_6_method_12_code 9 = .ok (.aload_n 0, 1) := by decide +kernel
theorem d_Md_isWord_10 : decode prog_6_method_12_code 10 = .ok (.getfield 42, 3) := by decide +kernel
theorem d_Md_isWord_13 : decode prog_6_method_12_code 13 = .ok (.iload_n 3, 1) := by decide +kernel
theorem d_Md_isWord_14 : decode prog_6_method_12_code 14 = .ok (.iadd, 1) := by decide +kernel
theorem d_Md_isWord_15 : decode prog_6_method_12_code 15 = .ok (.iconst 2, 1) := by decide +kernel
theorem d_Md_isWord_16 : decode prog_6_method_12_code 16 = .ok (.iadd, 1) := by decide +kernel
theorem d_Md_isWord_17 : decode prog_6_method_12_code 17 = .ok (.aload_n 0, 1) := by decide +kernel
theorem d_Md_isWord_18 : decode prog_6_method_12_code 18 = .ok (.getfield 45, 3) := by decide +kernel
theorem d_Md_isWord_21 : decode prog_6_method_12_code 21 = .ok (.if_icmp .gt 35, 3) := by decide +kernel
theorem d_Md_isWord_24 : decode prog_6_method_12_code 24 = .ok (.aload_n 0, 1) := by decide +kernel
theorem d_Md_isWord_25 : decode prog_6_method_12_code 25 = .ok (.getfield 8, 3) := by decide +kernel
theorem d_Md_isWord_28 : decode prog_6_method_12_code 28 = .ok (.aload_n 0, 1) := by decide +kernel
theorem d_Md_isWord_29 : decode prog_6_method_12_code 29 = .ok (.getfield 42, 3) := by decide +kernel
theorem d_Md_isWord_32 : decode prog_6_method_12_code 32 = .ok (.baload, 1) := by decide +kernel
theorem d_Md_isWord_33 : decode prog_6_method_12_code 33 = .ok (.bipush 34, 2) := by decide +kernel
theorem d_Md_isWord_35 : decode prog_6_method_12_code 35 = .ok (.if_icmp .ne 21, 3) := by decide +kernel
theorem d_Md_isWord_38 : decode prog_6_method_12_code 38 = .ok (.aload_n 0, 1) := by decide +kernel
theorem d_Md_isWord_39 : decode prog_6_method_12_code 39 = .ok (.getfield 8, 3) := by decide +kernel
theorem d_Md_isWord_42 : decode prog_6_method_12_code 42 = .ok (.aload_n 0, 1) := by decide +kernel
theorem d_Md_isWord_43 : decode prog_6_method_12_code 43 = .ok (.getfield 42, 3) := by decide +kernel
theorem d_Md_isWord_46 : decode prog_6_method_12_code 46 = .ok (.iload_n 3, 1) := by decide +kernel
theorem d_Md_isWord_47 : decode prog_6_method_12_code 47 = .ok (.iadd, 1) := by decide +kernel
theorem d_Md_isWord_48 : decode prog_6_method_12_code 48 = .ok (.iconst 1, 1) := by decide +kernel
theorem d_Md_isWord_49 : decode prog_6_method_12_code 49 = .ok (.iadd, 1) := by decide +kernel
theorem d_Md_isWord_50 : decode prog_6_method_12_code 50 = .ok (.baload, 1) := by decide +kernel
theorem d_Md_isWord_51 : decode prog_6_method_12_code 51 = .ok (.bipush 34, 2) := by decide +kernel
theorem d_Md_isWord_53 : decode prog_6_method_12_code 53 = .ok (.if_icmp .eq 5, 3) := by decide +kernel
theorem d_Md_isWord_56 : decode prog_6_method_12_code 56 = .ok (.iconst 0, 1) := by decide +kernel
theorem d_Md_isWord_57 : decode prog_6_method_12_code 57 = .ok (.ireturn, 1) := by decide +kernel
theorem d_Md_isWord_58 : decode prog_6_method_12_code 58 = .ok (.iconst 0, 1) := by decide +kernel
theorem d_Md_isWord_59 : decode prog_6_method_12_code 59 = .ok (.istore 4, 2) := by decide +kernel
theorem d_Md_isWord_61 : decode prog_6_method_12_code 61 = .ok (.iload 4, 2) := by decide +kernel
theorem d_Md_isWord_63 : decode prog_6_method_12_code 63 = .ok (.iload_n 3, 1) := by decide +kernel
theorem d_Md_isWord_64 : decode prog_6_method_12_code 64 = .ok (.if_icmp .ge 44, 3) := by decide +kernel
theorem d_Md_isWord_67 : decode prog_6_method_12_code 67 = .ok (.aload_n 0, 1) := by decide +kernel
theorem d_Md_isWord_68 : decode prog_6_method_12_code 68 = .ok (.getfield 8, 3) := by decide +kernel
theorem d_Md_isWord_71 : decode prog_6_method_12_code 71 = .ok (.aload_n 0, 1) := by decide +kernel
theorem d_Md_isWord_72 : decode prog_6_method_12_code 72 = .ok (.getfield 42, 3) := by decide +kernel
theorem d_Md_isWord_75 : decode prog_6_method_12_code 75 = .ok (.iconst 1, 1) := by decide +kernel
theorem d_Md_isWord_76 : decode prog_6_method_12_code 76 = .ok (.iadd, 1) := by decide +kernel
theorem d_Md_isWord_77 : decode prog_6_method_12_code 77 = .ok (.iload 4, 2) := by decide +kernel
theorem d_Md_isWord_79 : decode prog_6_method_12_code 79 = .ok (.iadd, 1) := by decide +kernel
theorem d_Md_isWord_80 : decode prog_6_method_12_code 80 = .ok (.baload, 1) := by decide +kernel
theorem d_Md_isWord_81 : decode prog_6_method_12_code 81 = .ok (.i2l, 1) := by decide +kernel
theorem d_Md_isWord_82 : decode prog_6_method_12_code 82 = .ok (.ldc2_w 63, 3) := by decide +kernel
theorem d_Md_isWord_85 : decode prog_6_method_12_code 85 = .ok (.lload_n 1, 1) := by decide +kernel
theorem d_Md_isWord_86 : decode prog_6_method_12_code 86 = .ok (.iconst 5, 1) := by decide +kernel
theorem d_Md_isWord_87 : decode prog_6_method_12_code 87 = .ok (.iload 4, 2) := by decide +kernel
theorem d_Md_isWord_89 : decode prog_6_method_12_code 89 = .ok (.imul, 1) := by decide +kernel
theorem d_Md_isWord_90 : decode prog_6_method_12_code 90 = .ok (.lshr, 1) := by decide +kernel
theorem d_Md_isWord_91 : decode prog_6_method_12_code 91 = .ok (.ldc2_w 65, 3) := by decide +kernel
theorem d_Md_isWord_94 : decode prog_6_method_12_code 94 = .ok (.land, 1) := by decide +kernel
theorem d_Md_isWord_95 : decode prog_6_method_12_code 95 = .ok (.ladd, 1) := by decide +kernel
theorem d_Md_isWord_96 : decode prog_6_method_12_code 96 = .ok (.lcmp, 1) := by decide +kernel
theorem d_Md_isWord_97 : decode prog_6_method_12_code 97 = .ok (.ifCond .eq 5, 3) := by decide +kernel
theorem d_Md_isWord_100 : decode prog_6_method_12_code 100 = .ok (.iconst 0, 1) := by decide +kernel
theorem d_Md_isWord_101 : decode prog_6_method_12_code 101 = .ok (.ireturn, 1) := by decide +kernel
theorem d_Md_isWord_102 : decode prog_6_method_12_code 102 = .ok (.iinc 4 1, 3) := by decide +kernel
theorem d_Md_isWord_105 : decode prog_6_method_12_code 105 = .ok (.goto (-44), 3) := by decide +kernel
theorem d_Md_isWord_108 : decode prog_6_method_12_code 108 = .ok (.iconst 1, 1) := by decide +kernel
theorem d_Md_isWord_109 : decode prog_6_method_12_code 109 = .ok (.ireturn, 1) := by decide +kernel
theorem d_Md_letters_0 : decode prog_6_method_11_code 0 = .ok (.iconst 0, 1) := by decide +kernel
theorem d_Md_letters_1 : decode prog_6_method_11_code 1 = .ok (.istore_n 2, 1) := by decide +kernel
theorem d_Md_letters_2 : decode prog_6_method_11_code 2 = .ok (.lload_n 0, 1) := by decide +kernel
theorem d_Md_letters_3 : decode prog_6_method_11_code 3 = .ok (.iconst 5, 1) := by decide +kernel
theorem d_Md_letters_4 : decode prog_6_method_11_code 4 = .ok (.iload_n 2, 1) := by decide +kernel
theorem d_Md_letters_5 : decode prog_6_method_11_code 5 = .ok (.imul, 1) := by decide +kernel
theorem d_Md_letters_6 : decode prog_6_method_11_code 6 = .ok (.lshr, 1) := by decide +kernel
theorem d_Md_letters_7 : decode prog_6_method_11_code 7 = .ok (.lconst 0, 1) := by decide +kernel
theorem d_Md_letters_8 : decode prog_6_method_11_code 8 = .ok (.lcmp, 1) := by decide +kernel
theorem d_Md_letters_9 : decode prog_6_method_11_code 9 = .ok (.ifCond .eq 9, 3) := by decide +kernel
theorem d_Md_letters_12 : decode prog_6_method_11_code 12 = .ok (.iinc 2 1, 3) := by decide +kernel
theorem d_Md_letters_15 : decode prog_6_method_11_code 15 = .ok (.goto (-13), 3) := by decide +kernel
theorem d_Md_letters_18 : decode prog_6_method_11_code 18 = .ok (.iload_n 2, 1) := by decide +kernel
theorem d_Md_letters_19 : decode prog_6_method_11_code 19 = .ok (.ireturn, 1) := by decide +kernel
theorem d_Md_part_0 : decode prog_6_method_30_code 0 = .ok (.aload_n 0, 1) := by decide +kernel
theorem d_Md_part_1 : decode prog_6_method_30_code 1 = .ok (.aload_n 0, 1) := by decide +kernel
theorem d_Md_part_2 : decode prog_6_method_30_code 2 = .ok (.iload_n 1, 1) := by decide +kernel
theorem d_Md_part_3 : decode prog_6_method_30_code 3 = .ok (.invokevirtual 209, 3) := by decide +kernel
theorem d_Md_part_6 : decode prog_6_method_30_code 6 = .ok (.invokevirtual 94, 3) := by decide +kernel
theorem d_Md_part_9 : decode prog_6_method_30_code 9 = .ok (.ifCond .ne 5, 3) := by decide +kernel
theorem d_Md_part_12 : decode prog_6_method_30_code 12 = .ok (.iconst 0, 1) := by decide +kernel
theorem d_Md_part_13 : decode prog_6_method_30_code 13 = .ok (.ireturn, 1) := by decide +kernel
theorem d_Md_part_14 : decode prog_6_method_30_code 14 = .ok (.iload_n 1, 1) := by decide +kernel
theorem d_Md_part_15 : decode prog_6_method_30_code 15 = .ok (.ifCond .ne 8, 3) := by decide +kernel
theorem d_Md_part_18 : decode prog_6_method_30_code 18 = .ok (.bipush 8, 2) := by decide +kernel
theorem d_Md_part_20 : decode prog_6_method_30_code 20 = .ok (.goto 25, 3) := by decide +kernel
theorem d_Md_part_23 : decode prog_6_method_30_code 23 = .ok (.iload_n 1, 1) := by decide +kernel
theorem d_Md_part_24 : decode prog_6_method_30_code 24 = .ok (.iconst 3, 1) := by decide +kernel
theorem d_Md_part_25 : decode prog_6_method_30_code 25 = .ok (.if_icmp .ne 8, 3) := by decide +kernel
theorem d_Md_part_28 : decode prog_6_method_30_code 28 = .ok (.bipush 48, 2) := by decide +kernel
theorem d_Md_part_30 : decode prog_6_method_30_code 30 = .ok (.goto 15, 3) := by decide +kernel
theorem d_Md_part_33 : decode prog_6_method_30_code 33 = .ok (.iload_n 1, 1) := by decide +kernel
theorem d_Md_part_34 : decode prog_6_method_30_code 34 = .ok (.iconst 4, 1) := by decide +kernel
theorem d_Md_part_35 : decode prog_6_method_30_code 35 = .ok (.if_icmp .ne 8, 3) := by decide +kernel
theorem d_Md_part_38 : decode prog_6_method_30_code 38 = .ok (.bipush 32, 2) := by decide +kernel
theorem d_Md_part_40 : decode prog_6_method_30_code 40 = .ok (.goto 5, 3) := by decide +kernel
theorem d_Md_part_43 : decode prog_6_method_30_code 43 = .ok (.bipush 16, 2) := by decide +kernel
theorem d_Md_part_45 : decode prog_6_method_30_code 45 = .ok (.istore_n 2, 1) := by decide +kernel
theorem d_Md_part_46 : decode prog_6_method_30_code 46 = .ok (.iload_n 1, 1) := by decide +kernel
theorem d_Md_part_47 : decode prog_6_method_30_code 47 = .ok (.iconst 5, 1) := by decide +kernel
theorem d_Md_part_48 : decode prog_6_method_30_code 48 = .ok (.if_icmp .ne 10, 3) := by decide +kernel
theorem d_Md_part_51 : decode prog_6_method_30_code 51 = .ok (.aload_n 0, 1) := by decide +kernel
theorem d_Md_part_52 : decode prog_6_method_30_code 52 = .ok (.invokevirtual 213, 3) := by decide +kernel
theorem d_Md_part_55 : decode prog_6_method_30_code 55 = .ok (.goto 22, 3) := by decide +kernel
theorem d_Md_part_58 : decode prog_6_method_30_code 58 = .ok (.iload_n 1, 1) := by decide +kernel
theorem d_Md_part_59 : decode prog_6_method_30_code 59 = .ok (.bipush 6, 2) := by decide +kernel
theorem d_Md_part_61 : decode prog_6_method_30_code 61 = .ok (.if_icmp .ne 10, 3) := by decide +kernel
theorem d_Md_part_64 : decode prog_6_method_30_code 64 = .ok (.aload_n 0, 1) := by decide +kernel
theorem d_Md_part_65 : decode prog_6_method_30_code 65 = .ok (.invokevirtual 216, 3) := by decide +kernel
theorem d_Md_part_68 : decode prog_6_method_30_code 68 = .ok (.goto 9, 3) := by decide +kernel
theorem d_Md_part_71 : decode prog_6_method_30_code 71 = .ok (.aload_n 0, 1) := by decide +kernel
theorem d_Md_part_72 : decode prog_6_method_30_code 72 = .ok (.iload_n 1, 1) := by decide +kernel
theorem d_Md_part_73 : decode prog_6_method_30_code 73 = .ok (.iload_n 2, 1) := by decide +kernel
theorem d_Md_part_74 : decode prog_6_method_30_code 74 = .ok (.invokevirtual 219, 3) := by decide +kernel
theorem d_Md_part_77 : decode prog_6_method_30_code 77 = .ok (.ireturn, 1) := by decide +kernel
theorem d_Md_key_0 : decode prog_6_method_13_code 0 = .ok (.aload_n 0, 1) := by decide +kernel
theorem d_Md_key_1 : decode prog_6_method_13_code 1 = .ok (.lload_n 1, 1) := by decide +kernel
theorem d_Md_key_2 : decode prog_6_method_13_code 2 = .ok (.invokevirtual 67, 3) := by decide +kernel
theorem d_Md_key_5 : decode prog_6_method_13_code 5 = .ok (.ifCond .ne 13, 3) := by decide +kernel
theorem d_Md_key_8 : decode prog_6_method_13_code 8 = .ok (.aload_n 0, 1) := by decide +kernel
theorem d_Md_key_9 : decode prog_6_method_13_code 9 = .ok (.iconst 1, 1) := by decide +kernel
theorem d_Md_key_10 : decode prog_6_method_13_code 10 = .ok (.aload_n 0, 1) := by decide +kernel
theorem d_Md_key_11 : decode prog_6_method_13_code 11 = .ok (.getfield 42, 3) := by decide +kernel
theorem d_Md_key_14 : decode prog_6_method_13_code 14 = .ok (.invokevirtual 55, 3) := by decide +kernel
theorem d_Md_key_17 : decode prog_6_method_13_code 17 = .ok (.ireturn, 1) := by decide +kernel
theorem d_Md_key_18 : decode prog_6_method_13_code 18 = .ok (.aload_n 0, 1) := by decide +kernel
theorem d_Md_key_19 : decode prog_6_method_13_code 19 = .ok (.dup, 1) := by decide +kernel
theorem d_Md_key_20 : decode prog_6_method_13_code 20 = .ok (.getfield 42, 3) := by decide +kernel
theorem d_Md_key_23 : decode prog_6_method_13_code 23 = .ok (.lload_n 1, 1) := by decide +kernel
theorem d_Md_key_24 : decode prog_6_method_13_code 24 = .ok (.invokestatic 59, 3) := by decide +kernel
theorem d_Md_key_27 : decode prog_6_method_13_code 27 = .ok (.iconst 2, 1) := by decide +kernel
theorem d_Md_key_28 : decode prog_6_method_13_code 28 = .ok (.iadd, 1) := by decide +kernel
theorem d_Md_key_29 : decode prog_6_method_13_code 29 = .ok (.iadd, 1) := by decide +kernel
theorem d_Md_key_30 : decode prog_6_method_13_code 30 = .ok (.putfield 42, 3) := by decide +kernel
theorem d_Md_key_33 : decode prog_6_method_13_code 33 = .ok (.aload_n 0, 1) := by decide +kernel
theorem d_Md_key_34 : decode prog_6_method_13_code 34 = .ok (.bipush 58, 2) := by decide +kernel
theorem d_Md_key_36 : decode prog_6_method_13_code 36 = .ok (.invokevirtual 71, 3) := by decide +kernel
theorem d_Md_key_39 : decode prog_6_method_13_code 39 = .ok (.ireturn, 1) := by decide +kernel
theorem d_Md_camera_0 : decode prog_6_method_27_code 0 = .ok (.aload_n 0, 1) := by decide +kernel
theorem d_Md_camera_1 : decode prog_6_method_27_code 1 = .ok (.bipush 123, 2) := by decide +kernel
theorem d_Md_camera_3 : decode prog_6_method_27_code 3 = .ok (.invokevirtual 71, 3) := by decide +kernel
theorem d_Md_camera_6 : decode prog_6_method_27_code 6 = .ok (.ifCond .eq 79, 3) := by decide +kernel
theorem d_Md_camera_9 : decode prog_6_method_27_code 9 = .ok (.aload_n 0, 1) := by decide +kernel
theorem d_Md_camera_10 : decode prog_6_method_27_code 10 = .ok (.ldc2_w 145, 3) := by decide +kernel
theorem d_Md_camera_13 : decode prog_6_method_27_code 13 = .ok (.ldc 186, 2) := by decide +kernel
theorem d_Md_camera_15 : decode prog_6_method_27_code 15 = .ok (.ldc 147, 2) := by decide +kernel
theorem d_Md_camera_17 : decode prog_6_method_27_code 17 = .ok (.invokevirtual 148, 3) := by decide +kernel
theorem d_Md_camera_20 : decode prog_6_method_27_code 20 = .ok (.ifCond .eq 65, 3) := by decide +kernel
theorem d_Md_camera_23 : decode prog_6_method_27_code 23 = .ok (.aload_n 0, 1) := by decide +kernel
theorem d_Md_camera_24 : decode prog_6_method_27_code 24 = .ok (.bipush 44, 2) := by decide +kernel
theorem d_Md_camera_26 : decode prog_6_method_27_code 26 = .ok (.invokevirtual 71, 3) := by decide +kernel
theorem d_Md_camera_29 : decode prog_6_method_27_code 29 = .ok (.ifCond .eq 56, 3) := by decide +kernel
theorem d_Md_camera_32 : decode prog_6_method_27_code 32 = .ok (.aload_n 0, 1) := by decide +kernel
theorem d_Md_camera_33 : decode prog_6_method_27_code 33 = .ok (.ldc2_w 152, 3) := by decide +kernel
theorem d_Md_camera_36 : decode prog_6_method_27_code 36 = .ok (.ldc 187, 2) := by decide +kernel
theorem d_Md_camera_38 : decode prog_6_method_27_code 38 = .ok (.ldc 131, 2) := by decide +kernel
theorem d_Md_camera_40 : decode prog_6_method_27_code 40 = .ok (.invokevirtual 148, 3) := by decide +kernel
theorem d_Md_camera_43 : decode prog_6_method_27_code 43 = .ok (.ifCond .eq 42, 3) := by decide +kernel
theorem d_Md_camera_46 : decode prog_6_method_27_code 46 = .ok (.aload_n 0, 1) := by decide +kernel
theorem d_Md_camera_47 : decode prog_6_method_27_code 47 = .ok (.bipush 44, 2) := by decide +kernel
theorem d_Md_camera_49 : decode prog_6_method_27_code 49 = .ok (.invokevirtual 71, 3) := by decide +kernel
theorem d_Md_camera_52 : decode prog_6_method_27_code 52 = .ok (.ifCond .eq 33, 3) := by decide +kernel
theorem d_Md_camera_55 : decode prog_6_method_27_code 55 = .ok (.aload_n 0, 1) := by decide +kernel
theorem d_Md_camera_56 : decode prog_6_method_27_code 56 = .ok (.ldc2_w 188, 3) := by decide +kernel
theorem d_Md_camera_59 : decode prog_6_method_27_code 59 = .ok (.ldc 29, 2) := by decide +kernel
theorem d_Md_camera_61 : decode prog_6_method_27_code 61 = .ok (.bipush 8, 2) := by decide +kernel
theorem d_Md_camera_63 : decode prog_6_method_27_code 63 = .ok (.sipush 512, 3) := by decide +kernel
theorem d_Md_camera_66 : decode prog_6_method_27_code 66 = .ok (.invokevirtual 110, 3) := by decide +kernel
theorem d_Md_camera_69 : decode prog_6_method_27_code 69 = .ok (.ifCond .eq 16, 3) := by decide +kernel
theorem d_Md_camera_72 : decode prog_6_method_27_code 72 = .ok (.aload_n 0, 1) := by decide +kernel
theorem d_Md_camera_73 : decode prog_6_method_27_code 73 = .ok (.bipush 125, 2) := by decide +kernel
theorem d_Md_camera_75 : decode prog_6_method_27_code 75 = .ok (.invokevirtual 71, 3) := by decide +kernel
theorem d_Md_camera_78 : decode prog_6_method_27_code 78 = .ok (.ifCond .eq 7, 3) := by decide +kernel
theorem d_Md_camera_81 : decode prog_6_method_27_code 81 = .ok (.iconst 1, 1) := by decide +kernel
theorem d_Md_camera_82 : decode prog_6_method_27_code 82 = .ok (.goto 4, 3) := by decide +kernel
theorem d_Md_camera_85 : decode prog_6_method_27_code 85 = .ok (.iconst 0, 1) := by decide +kernel
theorem d_Md_camera_86 : decode prog_6_method_27_code 86 = .ok (.ireturn, 1) := by decide +kernel
theorem d_Md_three_0 : decode prog_6_method_19_code 0 = .ok (.aload_n 0, 1) := by decide +kernel
theorem d_Md_three_1 : decode prog_6_method_19_code 1 = .ok (.lload_n 1, 1) := by decide +kernel
theorem d_Md_three_2 : decode prog_6_method_19_code 2 = .ok (.iload_n 3, 1) := by decide +kernel
theorem d_Md_three_3 : decode prog_6_method_19_code 3 = .ok (.iconst 3, 1) := by decide +kernel
theorem d_Md_three_4 : decode prog_6_method_19_code 4 = .ok (.iconst 3, 1) := by decide +kernel
theorem d_Md_three_5 : decode prog_6_method_19_code 5 = .ok (.iconst 1, 1) := by decide +kernel
theorem d_Md_three_6 : decode prog_6_method_19_code 6 = .ok (.iload 4, 2) := by decide +kernel
theorem d_Md_three_8 : decode prog_6_method_19_code 8 = .ok (.ineg, 1) := by decide +kernel
theorem d_Md_three_9 : decode prog_6_method_19_code 9 = .ok (.iload 4, 2) := by decide +kernel
theorem d_Md_three_11 : decode prog_6_method_19_code 11 = .ok (.iconst 0, 1) := by decide +kernel
theorem d_Md_three_12 : decode prog_6_method_19_code 12 = .ok (.invokevirtual 104, 3) := by decide +kernel
theorem d_Md_three_15 : decode prog_6_method_19_code 15 = .ok (.ireturn, 1) := by decide +kernel
theorem d_Md_list_0 : decode prog_6_method_18_code 0 = .ok (.aload_n 0, 1) := by decide +kernel
theorem d_Md_list_1 : decode prog_6_method_18_code 1 = .ok (.lload_n 1, 1) := by decide +kernel
theorem d_Md_list_2 : decode prog_6_method_18_code 2 = .ok (.invokevirtual 94, 3) := by decide +kernel
theorem d_Md_list_5 : decode prog_6_method_18_code 5 = .ok (.ifCond .eq 12, 3) := by decide +kernel
theorem d_Md_list_8 : decode prog_6_method_18_code 8 = .ok (.aload_n 0, 1) := by decide +kernel
theorem d_Md_list_9 : decode prog_6_method_18_code 9 = .ok (.bipush 91, 2) := by decide +kernel
theorem d_Md_list_11 : decode prog_6_method_18_code 11 = .ok (.invokevirtual 71, 3) := by decide +kernel
theorem d_Md_list_14 : decode prog_6_method_18_code 14 = .ok (.ifCond .ne 5, 3) := by decide +kernel
theorem d_Md_list_17 : decode prog_6_method_18_code 17 = .ok (.iconst 0, 1) := by decide +kernel
theorem d_Md_list_18 : decode prog_6_method_18_code 18 = .ok (.ireturn, 1) := by decide +kernel
theorem d_Md_list_19 : decode prog_6_method_18_code 19 = .ok (.iconst 0, 1) := by decide +kernel
theorem d_Md_list_20 : decode prog_6_method_18_code 20 = .ok (.istore 10, 2) := by decide +kernel
theorem d_Md_list_22 : decode prog_6_method_18_code 22 = .ok (.aload_n 0, 1) := by decide +kernel
theorem d_Md_list_23 : decode prog_6_method_18_code 23 = .ok (.bipush 93, 2) := by decide +kernel
theorem d_Md_list_25 : decode prog_6_method_18_code 25 = .ok (.invokevirtual 51, 3) := by decide +kernel
theorem d_Md_list_28 : decode prog_6_method_18_code 28 = .ok (.ifCond .ne 7, 3) := by decide +kernel
theorem d_Md_list_31 : decode prog_6_method_18_code 31 = .ok (.iconst 1, 1) := by decide +kernel
theorem d_Md_list_32 : decode prog_6_method_18_code 32 = .ok (.goto 4, 3) := by decide +kernel
theorem d_Md_list_35 : decode prog_6_method_18_code 35 = .ok (.iconst 0, 1) := by decide +kernel
theorem d_Md_list_36 : decode prog_6_method_18_code 36 = .ok (.istore 11, 2) := by decide +kernel
theorem d_Md_list_38 : decode prog_6_method_18_code 38 = .ok (.iload 11, 2) := by decide +kernel
theorem d_Md_list_40 : decode prog_6_method_18_code 40 = .ok (.ifCond .eq 141, 3) := by decide +kernel
theorem d_Md_list_43 : decode prog_6_method_18_code 43 = .ok (.aload_n 0, 1) := by decide +kernel
theorem d_Md_list_44 : decode prog_6_method_18_code 44 = .ok (.invokevirtual 90, 3) := by decide +kernel
theorem d_Md_list_47 : decode prog_6_method_18_code 47 = .ok (.ifCond .ne 5, 3) := by decide +kernel
theorem d_Md_list_50 : decode prog_6_method_18_code 50 = .ok (.iconst 0, 1) := by decide +kernel
theorem d_Md_list_51 : decode prog_6_method_18_code 51 = .ok (.ireturn, 1) := by decide +kernel
theorem d_Md_list_52 : decode prog_6_method_18_code 52 = .ok (.iload 10, 2) := by decide +kernel
theorem d_Md_list_54 : decode prog_6_method_18_code 54 = .ok (.iload 5, 2) := by decide +kernel
theorem d_Md_list_56 : decode prog_6_method_18_code 56 = .ok (.if_icmp .ne 13, 3) := by decide +kernel
theorem d_Md_list_59 : decode prog_6_method_18_code 59 = .ok (.aload_n 0, 1) := by decide +kernel
theorem d_Md_list_60 : decode prog_6_method_18_code 60 = .ok (.iconst 3, 1) := by decide +kernel
theorem d_Md_list_61 : decode prog_6_method_18_code 61 = .ok (.aload_n 0, 1) := by decide +kernel
theorem d_Md_list_62 : decode prog_6_method_18_code 62 = .ok (.getfield 74, 3) := by decide +kernel
theorem d_Md_list_65 : decode prog_6_method_18_code 65 = .ok (.invokevirtual 55, 3) := by decide +kernel
theorem d_Md_list_68 : decode prog_6_method_18_code 68 = .ok (.ireturn, 1) := by decide +kernel
theorem d_Md_list_69 : decode prog_6_method_18_code 69 = .ok (.aload_n 0, 1) := by decide +kernel
theorem d_Md_list_70 : decode prog_6_method_18_code 70 = .ok (.getfield 80, 3) := by decide +kernel
theorem d_Md_list_73 : decode prog_6_method_18_code 73 = .ok (.iload 7, 2) := by decide +kernel
theorem d_Md_list_75 : decode prog_6_method_18_code 75 = .ok (.i2l, 1) := by decide +kernel
theorem d_Md_list_76 : decode prog_6_method_18_code 76 = .ok (.lcmp, 1) := by decide +kernel
theorem d_Md_list_77 : decode prog_6_method_18_code 77 = .ok (.ifCond .lt 44, 3) := by decide +kernel
theorem d_Md_list_80 : decode prog_6_method_18_code 80 = .ok (.aload_n 0, 1) := by decide +kernel
theorem d_Md_list_81 : decode prog_6_method_18_code 81 = .ok (.getfield 80, 3) := by decide +kernel
theorem d_Md_list_84 : decode prog_6_method_18_code 84 = .ok (.iload 8, 2) := by decide +kernel
theorem d_Md_list_86 : decode prog_6_method_18_code 86 = .ok (.i2l, 1) := by decide +kernel
theorem d_Md_list_87 : decode prog_6_method_18_code 87 = .ok (.lcmp, 1) := by decide +kernel
theorem d_Md_list_88 : decode prog_6_method_18_code 88 = .ok (.ifCond .gt 33, 3) := by decide +kernel
theorem d_Md_list_91 : decode prog_6_method_18_code 91 = .ok (.iload 9, 2) := by decide +kernel
theorem d_Md_list_93 : decode prog_6_method_18_code 93 = .ok (.ifCond .eq 38, 3) := by decide +kernel
theorem d_Md_list_96 : decode prog_6_method_18_code 96 = .ok (.iload 10, 2) := by decide +kernel
theorem d_Md_list_98 : decode prog_6_method_18_code 98 = .ok (.ifCond .le 33, 3) := by decide +kernel
theorem d_Md_list_101 : decode prog_6_method_18_code 101 = .ok (.aload_n 0, 1) := by decide +kernel
theorem d_Md_list_102 : decode prog_6_method_18_code 102 = .ok (.getfield 80, 3) := by decide +kernel
theorem d_Md_list_105 : decode prog_6_method_18_code 105 = .ok (.aload_n 0, 1) := by decide +kernel
theorem d_Md_list_106 : decode prog_6_method_18_code 106 = .ok (.getfield 19, 3) := by decide +kernel
theorem d_Md_list_109 : decode prog_6_method_18_code 109 = .ok (.iload_n 3, 1) := by decide +kernel
theorem d_Md_list_110 : decode prog_6_method_18_code 110 = .ok (.iload 10, 2) := by decide +kernel
theorem d_Md_list_112 : decode prog_6_method_18_code 112 = .ok (.iadd, 1) := by decide +kernel
theorem d_Md_list_113 : decode prog_6_method_18_code 113 = .ok (.iconst 1, 1) := by decide +kernel
theorem d_Md_list_114 : decode prog_6_method_18_code 114 = .ok (.isub, 1) := by decide +kernel
theorem d_Md_list_115 : decode prog_6_method_18_code 115 = .ok (.iaload, 1) := by decide +kernel
theorem d_Md_list_116 : decode prog_6_method_18_code 116 = .ok (.i2l, 1) := by decide +kernel
theorem d_Md_list_117 : decode prog_6_method_18_code 117 = .ok (.lcmp, 1) := by decide +kernel
theorem d_Md_list_118 : decode prog_6_method_18_code 118 = .ok (.ifCond .gt 13, 3) := by decide +kernel
theorem d_Md_list_121 : decode prog_6_method_18_code 121 = .ok (.aload_n 0, 1) := by decide +kernel
theorem d_Md_list_122 : decode prog_6_method_18_code 122 = .ok (.iconst 2, 1) := by decide +kernel
theorem d_Md_list_123 : decode prog_6_method_18_code 123 = .ok (.aload_n 0, 1) := by decide +kernel
theorem d_Md_list_124 : decode prog_6_method_18_code 124 = .ok (.getfield 74, 3) := by decide +kernel
theorem d_Md_list_127 : decode prog_6_method_18_code 127 = .ok (.invokevirtual 55, 3) := by decide +kernel
theorem d_Md_list_130 : decode prog_6_method_18_code 130 = .ok (.ireturn, 1) := by decide +kernel
theorem d_Md_list_131 : decode prog_6_method_18_code 131 = .ok (.aload_n 0, 1) := by decide +kernel
theorem d_Md_list_132 : decode prog_6_method_18_code 132 = .ok (.getfield 19, 3) := by decide +kernel
theorem d_Md_list_135 : decode prog_6_method_18_code 135 = .ok (.iload_n 3, 1) := by decide +kernel
theorem d_Md_list_136 : decode prog_6_method_18_code 136 = .ok (.iload 10, 2) := by decide +kernel
theorem d_Md_list_138 : decode prog_6_method_18_code 138 = .ok (.iadd, 1) := by decide +kernel
theorem d_Md_list_139 : decode prog_6_method_18_code 139 = .ok (.aload_n 0, 1) := by decide +kernel
theorem d_Md_list_140 : decode prog_6_method_18_code 140 = .ok (.getfield 80, 3) := by decide +kernel
theorem d_Md_list_143 : decode prog_6_method_18_code 143 = .ok (.l2i, 1) := by decide +kernel
theorem d_Md_list_144 : decode prog_6_method_18_code 144 = .ok (.iastore, 1) := by decide +kernel
theorem d_Md_list_145 : decode prog_6_method_18_code 145 = .ok (.iinc 10 1, 3) := by decide +kernel
theorem d_Md_list_148 : decode prog_6_method_18_code 148 = .ok (.aload_n 0, 1) := by decide +kernel
theorem d_Md_list_149 : decode prog_6_method_18_code 149 = .ok (.bipush 44, 2) := by decide +kernel
theorem d_Md_list_151 : decode prog_6_method_18_code 151 = .ok (.invokevirtual 51, 3) := by decide +kernel
theorem d_Md_list_154 : decode prog_6_method_18_code 154 = .ok (.istore 11, 2) := by decide +kernel
theorem d_Md_list_156 : decode prog_6_method_18_code 156 = .ok (.aload_n 0, 1) := by decide +kernel
theorem d_Md_list_157 : decode prog_6_method_18_code 157 = .ok (.iload 11, 2) := by decide +kernel
theorem d_Md_list_159 : decode prog_6_method_18_code 159 = .ok (.ifCond .eq 12, 3) := by decide +kernel
theorem d_Md_list_162 : decode prog_6_method_18_code 162 = .ok (.aload_n 0, 1) := by decide +kernel
theorem d_Md_list_163 : decode prog_6_method_18_code 163 = .ok (.getfield 42, 3) := by decide +kernel
theorem d_Md_list_166 : decode prog_6_method_18_code 166 = .ok (.iconst 1, 1) := by decide +kernel
theorem d_Md_list_167 : decode prog_6_method_18_code 167 = .ok (.iadd, 1) := by decide +kernel
theorem d_Md_list_168 : decode prog_6_method_18_code 168 = .ok (.goto 7, 3) := by decide +kernel
theorem d_Md_list_171 : decode prog_6_method_18_code 171 = .ok (.aload_n 0, 1) := by decide +kernel
theorem d_Md_list_172 : decode prog_6_method_18_code 172 = .ok (.getfield 42, 3) := by decide +kernel
theorem d_Md_list_175 : decode prog_6_method_18_code 175 = .ok (.putfield 42, 3) := by decide +kernel
theorem d_Md_list_178 : decode prog_6_method_18_code 178 = .ok (.goto (-140), 3) := by decide +kernel
theorem d_Md_list_181 : decode prog_6_method_18_code 181 = .ok (.aload_n 0, 1) := by decide +kernel
theorem d_Md_list_182 : decode prog_6_method_18_code 182 = .ok (.bipush 93, 2) := by decide +kernel
theorem d_Md_list_184 : decode prog_6_method_18_code 184 = .ok (.invokevirtual 51, 3) := by decide +kernel
theorem d_Md_list_187 : decode prog_6_method_18_code 187 = .ok (.ifCond .ne 13, 3) := by decide +kernel
theorem d_Md_list_190 : decode prog_6_method_18_code 190 = .ok (.aload_n 0, 1) := by decide +kernel
theorem d_Md_list_191 : decode prog_6_method_18_code 191 = .ok (.iconst 1, 1) := by decide +kernel
theorem d_Md_list_192 : decode prog_6_method_18_code 192 = .ok (.aload_n 0, 1) := by decide +kernel
theorem d_Md_list_193 : decode prog_6_method_18_code 193 = .ok (.getfield 42, 3) := by decide +kernel
theorem d_Md_list_196 : decode prog_6_method_18_code 196 = .ok (.invokevirtual 55, 3) := by decide +kernel
theorem d_Md_list_199 : decode prog_6_method_18_code 199 = .ok (.ireturn, 1) := by decide +kernel
theorem d_Md_list_200 : decode prog_6_method_18_code 200 = .ok (.iload 10, 2) := by decide +kernel
theorem d_Md_list_202 : decode prog_6_method_18_code 202 = .ok (.iload 4, 2) := by decide +kernel
theorem d_Md_list_204 : decode prog_6_method_18_code 204 = .ok (.if_icmp .lt 11, 3) := by decide +kernel
theorem d_Md_list_207 : decode prog_6_method_18_code 207 = .ok (.iload 10, 2) := by decide +kernel
theorem d_Md_list_209 : decode prog_6_method_18_code 209 = .ok (.iload 6, 2) := by decide +kernel
theorem d_Md_list_211 : decode prog_6_method_18_code 211 = .ok (.irem, 1) := by decide +kernel
theorem d_Md_list_212 : decode prog_6_method_18_code 212 = .ok (.ifCond .eq 13, 3) := by decide +kernel
theorem d_Md_list_215 : decode prog_6_method_18_code 215 = .ok (.aload_n 0, 1) := by decide +kernel
theorem d_Md_list_216 : decode prog_6_method_18_code 216 = .ok (.iconst 3, 1) := by decide +kernel
theorem d_Md_list_217 : decode prog_6_method_18_code 217 = .ok (.aload_n 0, 1) := by decide +kernel
theorem d_Md_list_218 : decode prog_6_method_18_code 218 = .ok (.getfield 42, 3) := by decide +kernel
theorem d_Md_list_221 : decode prog_6_method_18_code 221 = .ok (.invokevirtual 55, 3) := by decide +kernel
theorem d_Md_list_224 : decode prog_6_method_18_code 224 = .ok (.ireturn, 1) := by decide +kernel
theorem d_Md_list_225 : decode prog_6_method_18_code 225 = .ok (.aload_n 0, 1) := by decide +kernel
theorem d_Md_list_226 : decode prog_6_method_18_code 226 = .ok (.dup, 1) := by decide +kernel
theorem d_Md_list_227 : decode prog_6_method_18_code 227 = .ok (.getfield 42, 3) := by decide +kernel
theorem d_Md_list_230 : decode prog_6_method_18_code 230 = .ok (.iconst 1, 1) := by decide +kernel
theorem d_Md_list_231 : decode prog_6_method_18_code 231 = .ok (.iadd, 1) := by decide +kernel
theorem d_Md_list_232 : decode prog_6_method_18_code 232 = .ok (.putfield 42, 3) := by decide +kernel
theorem d_Md_list_235 : decode prog_6_method_18_code 235 = .ok (.aload_n 0, 1) := by decide +kernel
theorem d_Md_list_236 : decode prog_6_method_18_code 236 = .ok (.iload 10, 2) := by decide +kernel
theorem d_Md_list_238 : decode prog_6_method_18_code 238 = .ok (.putfield 101, 3) := by decide +kernel
theorem d_Md_list_241 : decode prog_6_method_18_code 241 = .ok (.iconst 1, 1) := by decide +kernel
theorem d_Md_list_242 : decode prog_6_method_18_code 242 = .ok (.ireturn, 1) := by decide +kernel
theorem d_Md_number_0 : decode prog_6_method_15_code 0 = .ok (.aload_n 0, 1) := by decide +kernel
theorem d_Md_number_1 : decode prog_6_method_15_code 1 = .ok (.invokevirtual 48, 3) := by decide +kernel
theorem d_Md_number_4 : decode prog_6_method_15_code 4 = .ok (.aload_n 0, 1) := by decide +kernel
theorem d_Md_number_5 : decode prog_6_method_15_code 5 = .ok (.aload_n 0, 1) := by decide +kernel
theorem d_Md_number_6 : decode prog_6_method_15_code 6 = .ok (.getfield 42, 3) := by decide +kernel
theorem d_Md_number_9 : decode prog_6_method_15_code 9 = .ok (.putfield 74, 3) := by decide +kernel
theorem d_Md_number_12 : decode prog_6_method_15_code 12 = .ok (.aload_n 0, 1) := by decide +kernel
theorem d_Md_number_13 : decode prog_6_method_15_code 13 = .ok (.getfield 42, 3) := by decide +kernel
theorem d_Md_number_16 : decode prog_6_method_15_code 16 = .ok (.aload_n 0, 1) := by decide +kernel
theorem d_Md_number_17 : decode prog_6_method_15_code 17 = .ok (.getfield 45, 3) := by decide +kernel
theorem d_Md_number_20 : decode prog_6_method_15_code 20 = .ok (.if_icmp .ge 21, 3) := by decide +kernel
theorem d_Md_number_23 : decode prog_6_method_15_code 23 = .ok (.aload_n 0, 1) := by decide +kernel
theorem d_Md_number_24 : decode prog_6_method_15_code 24 = .ok (.getfield 8, 3) := by decide +kernel
theorem d_Md_number_27 : decode prog_6_method_15_code 27 = .ok (.aload_n 0, 1) := by decide +kernel
theorem d_Md_number_28 : decode prog_6_method_15_code 28 = .ok (.getfield 42, 3) := by decide +kernel
theorem d_Md_number_31 : decode prog_6_method_15_code 31 = .ok (.baload, 1) := by decide +kernel
theorem d_Md_number_32 : decode prog_6_method_15_code 32 = .ok (.bipush 45, 2) := by decide +kernel
theorem d_Md_number_34 : decode prog_6_method_15_code 34 = .ok (.if_icmp .ne 7, 3) := by decide +kernel
theorem d_Md_number_37 : decode prog_6_method_15_code 37 = .ok (.iconst 1, 1) := by decide +kernel
theorem d_Md_number_38 : decode prog_6_method_15_code 38 = .ok (.goto 4, 3) := by decide +kernel
theorem d_Md_number_41 : decode prog_6_method_15_code 41 = .ok (.iconst 0, 1) := by decide +kernel
theorem d_Md_number_42 : decode prog_6_method_15_code 42 = .ok (.istore_n 1, 1) := by decide +kernel
theorem d_Md_number_43 : decode prog_6_method_15_code 43 = .ok (.iload_n 1, 1) := by decide +kernel
theorem d_Md_number_44 : decode prog_6_method_15_code 44 = .ok (.ifCond .eq 12, 3) := by decide +kernel
theorem d_Md_number_47 : decode prog_6_method_15_code 47 = .ok (.aload_n 0, 1) := by decide +kernel
theorem d_Md_number_48 : decode prog_6_method_15_code 48 = .ok (.getfield 42, 3) := by decide +kernel
theorem d_Md_number_51 : decode prog_6_method_15_code 51 = .ok (.iconst 1, 1) := by decide +kernel
theorem d_Md_number_52 : decode prog_6_method_15_code 52 = .ok (.iadd, 1) := by decide +kernel
theorem d_Md_number_53 : decode prog_6_method_15_code 53 = .ok (.goto 7, 3) := by decide +kernel
theorem d_Md_number_56 : decode prog_6_method_15_code 56 = .ok (.aload_n 0, 1) := by decide +kernel
theorem d_Md_number_57 : decode prog_6_method_15_code 57 = .ok (.getfield 42, 3) := by decide +kernel
theorem d_Md_number_60 : decode prog_6_method_15_code 60 = .ok (.istore_n 2, 1) := by decide +kernel
theorem d_Md_number_61 : decode prog_6_method_15_code 61 = .ok (.aload_n 0, 1) := by decide +kernel
theorem d_Md_number_62 : decode prog_6_method_15_code 62 = .ok (.iload_n 2, 1) := by decide +kernel
theorem d_Md_number_63 : decode prog_6_method_15_code 63 = .ok (.invokevirtual 77, 3) := by decide +kernel
theorem d_Md_number_66 : decode prog_6_method_15_code 66 = .ok (.ifCond .ne 13, 3) := by decide +kernel
theorem d_Md_number_69 : decode prog_6_method_15_code 69 = .ok (.aload_n 0, 1) := by decide +kernel
theorem d_Md_number_70 : decode prog_6_method_15_code 70 = .ok (.iconst 1, 1) := by decide +kernel
theorem d_Md_number_71 : decode prog_6_method_15_code 71 = .ok (.aload_n 0, 1) := by decide +kernel
theorem d_Md_number_72 : decode prog_6_method_15_code 72 = .ok (.getfield 74, 3) := by decide +kernel
theorem d_Md_number_75 : decode prog_6_method_15_code 75 = .ok (.invokevirtual 55, 3) := by decide +kernel
theorem d_Md_number_78 : decode prog_6_method_15_code 78 = .ok (.ireturn, 1) := by decide +kernel
theorem d_Md_number_79 : decode prog_6_method_15_code 79 = .ok (.aload_n 0, 1) := by decide +kernel
theorem d_Md_number_80 : decode prog_6_method_15_code 80 = .ok (.lconst 0, 1) := by decide +kernel
theorem d_Md_number_81 : decode prog_6_method_15_code 81 = .ok (.putfield 80, 3) := by decide +kernel
theorem d_Md_number_84 : decode prog_6_method_15_code 84 = .ok (.aload_n 0, 1) := by decide +kernel
theorem d_Md_number_85 : decode prog_6_method_15_code 85 = .ok (.iload_n 2, 1) := by decide +kernel
theorem d_Md_number_86 : decode prog_6_method_15_code 86 = .ok (.invokevirtual 77, 3) := by decide +kernel
theorem d_Md_number_89 : decode prog_6_method_15_code 89 = .ok (.ifCond .eq 51, 3) := by decide +kernel
theorem d_Md_number_92 : decode prog_6_method_15_code 92 = .ok (.aload_n 0, 1) := by decide +kernel
theorem d_Md_number_93 : decode prog_6_method_15_code 93 = .ok (.aload_n 0, 1) := by decide +kernel
theorem d_Md_number_94 : decode prog_6_method_15_code 94 = .ok (.getfield 80, 3) := by decide +kernel
theorem d_Md_number_97 : decode prog_6_method_15_code 97 = .ok (.ldc2_w 84, 3) := by decide +kernel
theorem d_Md_number_100 : decode prog_6_method_15_code 100 = .ok (.lcmp, 1) := by decide +kernel
theorem d_Md_number_101 : decode prog_6_method_15_code 101 = .ok (.ifCond .le 10, 3) := by decide +kernel
theorem d_Md_number_104 : decode prog_6_method_15_code 104 = .ok (.aload_n 0, 1) := by decide +kernel
theorem d_Md_number_105 : decode prog_6_method_15_code 105 = .ok (.getfield 80, 3) := by decide +kernel
theorem d_Md_number_108 : decode prog_6_method_15_code 108 = .ok (.goto 23, 3) := by decide +kernel
theorem d_Md_number_111 : decode prog_6_method_15_code 111 = .ok (.ldc2_w 86, 3) := by decide +kernel
theorem d_Md_number_114 : decode prog_6_method_15_code 114 = .ok (.aload_n 0, 1) := by decide +kernel
theorem d_Md_number_115 : decode prog_6_method_15_code 115 = .ok (.getfield 80, 3) := by decide +kernel
theorem d_Md_number_118 : decode prog_6_method_15_code 118 = .ok (.lmul, 1) := by decide +kernel
theorem d_Md_number_119 : decode prog_6_method_15_code 119 = .ok (.aload_n 0, 1) := by decide +kernel
theorem d_Md_number_120 : decode prog_6_method_15_code 120 = .ok (.getfield 8, 3) := by decide +kernel
theorem d_Md_number_123 : decode prog_6_method_15_code 123 = .ok (.iload_n 2, 1) := by decide +kernel
theorem d_Md_number_124 : decode prog_6_method_15_code 124 = .ok (.baload, 1) := by decide +kernel
theorem d_Md_number_125 : decode prog_6_method_15_code 125 = .ok (.i2l, 1) := by decide +kernel
theorem d_Md_number_126 : decode prog_6_method_15_code 126 = .ok (.ladd, 1) := by decide +kernel
theorem d_Md_number_127 : decode prog_6_method_15_code 127 = .ok (.ldc2_w 88, 3) := by decide +kernel
theorem d_Md_number_130 : decode prog_6_method_15_code 130 = .ok (.lsub, 1) := by decide +kernel
theorem d_Md_number_131 : decode prog_6_method_15_code 131 = .ok (.putfield 80, 3) := by decide +kernel
theorem d_Md_number_134 : decode prog_6_method_15_code 134 = .ok (.iinc 2 1, 3) := by decide +kernel
theorem d_Md_number_137 : decode prog_6_method_15_code 137 = .ok (.goto (-53), 3) := by decide +kernel
theorem d_Md_number_140 : decode prog_6_method_15_code 140 = .ok (.aload_n 0, 1) := by decide +kernel
theorem d_Md_number_141 : decode prog_6_method_15_code 141 = .ok (.iload_n 1, 1) := by decide +kernel
theorem d_Md_number_142 : decode prog_6_method_15_code 142 = .ok (.ifCond .eq 11, 3) := by decide +kernel
theorem d_Md_number_145 : decode prog_6_method_15_code 145 = .ok (.aload_n 0, 1) := by decide +kernel
theorem d_Md_number_146 : decode prog_6_method_15_code 146 = .ok (.getfield 80, 3) := by decide +kernel
theorem d_Md_number_149 : decode prog_6_method_15_code 149 = .ok (.lneg, 1) := by decide +kernel
theorem d_Md_number_150 : decode prog_6_method_15_code 150 = .ok (.goto 7, 3) := by decide +kernel
theorem d_Md_number_153 : decode prog_6_method_15_code 153 = .ok (.aload_n 0, 1) := by decide +kernel
theorem d_Md_number_154 : decode prog_6_method_15_code 154 = .ok (.getfield 80, 3) := by decide +kernel
theorem d_Md_number_157 : decode prog_6_method_15_code 157 = .ok (.putfield 80, 3) := by decide +kernel
theorem d_Md_number_160 : decode prog_6_method_15_code 160 = .ok (.aload_n 0, 1) := by decide +kernel
theorem d_Md_number_161 : decode prog_6_method_15_code 161 = .ok (.iload_n 2, 1) := by decide +kernel
theorem d_Md_number_162 : decode prog_6_method_15_code 162 = .ok (.putfield 42, 3) := by decide +kernel
theorem d_Md_number_165 : decode prog_6_method_15_code 165 = .ok (.iconst 1, 1) := by decide +kernel
theorem d_Md_number_166 : decode prog_6_method_15_code 166 = .ok (.ireturn, 1) := by decide +kernel
theorem d_Md_isDigit_0 : decode prog_6_method_14_code 0 = .ok (.iload_n 1, 1) := by decide +kernel
theorem d_Md_isDigit_1 : decode prog_6_method_14_code 1 = .ok (.aload_n 0, 1) := by decide +kernel
theorem d_Md_isDigit_2 : decode prog_6_method_14_code 2 = .ok (.getfield 45, 3) := by decide +kernel
theorem d_Md_isDigit_5 : decode prog_6_method_14_code 5 = .ok (.if_icmp .ge 29, 3) := by decide +kernel
theorem d_Md_isDigit_8 : decode prog_6_method_14_code 8 = .ok (.aload_n 0, 1) := by decide +kernel
theorem d_Md_isDigit_9 : decode prog_6_method_14_code 9 = .ok (.getfield 8, 3) := by decide +kernel
theorem d_Md_isDigit_12 : decode prog_6_method_14_code 12 = .ok (.iload_n 1, 1) := by decide +kernel
theorem d_Md_isDigit_13 : decode prog_6_method_14_code 13 = .ok (.baload, 1) := by decide +kernel
theorem d_Md_isDigit_14 : decode prog_6_method_14_code 14 = .ok (.bipush 48, 2) := by decide +kernel
theorem d_Md_isDigit_16 : decode prog_6_method_14_code 16 = .ok (.if_icmp .lt 18, 3) := by decide +kernel
theorem d_Md_isDigit_19 : decode prog_6_method_14_code 19 = .ok (.aload_n 0, 1) := by decide +kernel
theorem d_Md_isDigit_20 : decode prog_6_method_14_code 20 = .ok (.getfield 8, 3) := by decide +kernel
theorem d_Md_isDigit_23 : decode prog_6_method_14_code 23 = .ok (.iload_n 1, 1) := by decide +kernel
theorem d_Md_isDigit_24 : decode prog_6_method_14_code 24 = .ok (.baload, 1) := by decide +kernel
theorem d_Md_isDigit_25 : decode prog_6_method_14_code 25 = .ok (.bipush 57, 2) := by decide +kernel
theorem d_Md_isDigit_27 : decode prog_6_method_14_code 27 = .ok (.if_icmp .gt 7, 3) := by decide +kernel
theorem d_Md_isDigit_30 : decode prog_6_method_14_code 30 = .ok (.iconst 1, 1) := by decide +kernel
theorem d_Md_isDigit_31 : decode prog_6_method_14_code 31 = .ok (.goto 4, 3) := by decide +kernel
theorem d_Md_isDigit_34 : decode prog_6_method_14_code 34 = .ok (.iconst 0, 1) := by decide +kernel
theorem d_Md_isDigit_35 : decode prog_6_method_14_code 35 = .ok (.ireturn, 1) := by decide +kernel
theorem d_Md_named_0 : decode prog_6_method_17_code 0 = .ok (.aload_n 0, 1) := by decide +kernel
theorem d_Md_named_1 : decode prog_6_method_17_code 1 = .ok (.lload_n 1, 1) := by decide +kernel
theorem d_Md_named_2 : decode prog_6_method_17_code 2 = .ok (.invokevirtual 94, 3) := by decide +kernel
theorem d_Md_named_5 : decode prog_6_method_17_code 5 = .ok (.ifCond .eq 19, 3) := by decide +kernel
theorem d_Md_named_8 : decode prog_6_method_17_code 8 = .ok (.aload_n 0, 1) := by decide +kernel
theorem d_Md_named_9 : decode prog_6_method_17_code 9 = .ok (.iload_n 3, 1) := by decide +kernel
theorem d_Md_named_10 : decode prog_6_method_17_code 10 = .ok (.iload 4, 2) := by decide +kernel
theorem d_Md_named_12 : decode prog_6_method_17_code 12 = .ok (.iload 5, 2) := by decide +kernel
theorem d_Md_named_14 : decode prog_6_method_17_code 14 = .ok (.invokevirtual 97, 3) := by decide +kernel
theorem d_Md_named_17 : decode prog_6_method_17_code 17 = .ok (.ifCond .eq 7, 3) := by decide +kernel
theorem d_Md_named_20 : decode prog_6_method_17_code 20 = .ok (.iconst 1, 1) := by decide +kernel
theorem d_Md_named_21 : decode prog_6_method_17_code 21 = .ok (.goto 4, 3) := by decide +kernel
theorem d_Md_named_24 : decode prog_6_method_17_code 24 = .ok (.iconst 0, 1) := by decide +kernel
theorem d_Md_named_25 : decode prog_6_method_17_code 25 = .ok (.ireturn, 1) := by decide +kernel
theorem d_Md_one_0 : decode prog_6_method_16_code 0 = .ok (.aload_n 0, 1) := by decide +kernel
theorem d_Md_one_1 : decode prog_6_method_16_code 1 = .ok (.invokevirtual 90, 3) := by decide +kernel
theorem d_Md_one_4 : decode prog_6_method_16_code 4 = .ok (.ifCond .ne 5, 3) := by decide +kernel
theorem d_Md_one_7 : decode prog_6_method_16_code 7 = .ok (.iconst 0, 1) := by decide +kernel
theorem d_Md_one_8 : decode prog_6_method_16_code 8 = .ok (.ireturn, 1) := by decide +kernel
theorem d_Md_one_9 : decode prog_6_method_16_code 9 = .ok (.aload_n 0, 1) := by decide +kernel
theorem d_Md_one_10 : decode prog_6_method_16_code 10 = .ok (.getfield 80, 3) := by decide +kernel
theorem d_Md_one_13 : decode prog_6_method_16_code 13 = .ok (.iload_n 2, 1) := by decide +kernel
theorem d_Md_one_14 : decode prog_6_method_16_code 14 = .ok (.i2l, 1) := by decide +kernel
theorem d_Md_one_15 : decode prog_6_method_16_code 15 = .ok (.lcmp, 1) := by decide +kernel
theorem d_Md_one_16 : decode prog_6_method_16_code 16 = .ok (.ifCond .lt 13, 3) := by decide +kernel
theorem d_Md_one_19 : decode prog_6_method_16_code 19 = .ok (.aload_n 0, 1) := by decide +kernel
theorem d_Md_one_20 : decode prog_6_method_16_code 20 = .ok (.getfield 80, 3) := by decide +kernel
theorem d_Md_one_23 : decode prog_6_method_16_code 23 = .ok (.iload_n 3, 1) := by decide +kernel
theorem d_Md_one_24 : decode prog_6_method_16_code 24 = .ok (.i2l, 1) := by decide +kernel
theorem d_Md_one_25 : decode prog_6_method_16_code 25 = .ok (.lcmp, 1) := by decide +kernel
theorem d_Md_one_26 : decode prog_6_method_16_code 26 = .ok (.ifCond .le 13, 3) := by decide +kernel
theorem d_Md_one_29 : decode prog_6_method_16_code 29 = .ok (.aload_n 0, 1) := by decide +kernel
theorem d_Md_one_30 : decode prog_6_method_16_code 30 = .ok (.iconst 2, 1) := by decide +kernel
theorem d_Md_one_31 : decode prog_6_method_16_code 31 = .ok (.aload_n 0, 1) := by decide +kernel
theorem d_Md_one_32 : decode prog_6_method_16_code 32 = .ok (.getfield 74, 3) := by decide +kernel
theorem d_Md_one_35 : decode prog_6_method_16_code 35 = .ok (.invokevirtual 55, 3) := by decide +kernel
theorem d_Md_one_38 : decode prog_6_method_16_code 38 = .ok (.ireturn, 1) := by decide +kernel
theorem d_Md_one_39 : decode prog_6_method_16_code 39 = .ok (.aload_n 0, 1) := by decide +kernel
theorem d_Md_one_40 : decode prog_6_method_16_code 40 = .ok (.getfield 19, 3) := by decide +kernel
theorem d_Md_one_43 : decode prog_6_method_16_code 43 = .ok (.iload_n 1, 1) := by decide +kernel
theorem d_Md_one_44 : decode prog_6_method_16_code 44 = .ok (.aload_n 0, 1) := by decide +kernel
theorem d_Md_one_45 : decode prog_6_method_16_code 45 = .ok (.getfield 80, 3) := by decide +kernel
theorem d_Md_one_48 : decode prog_6_method_16_code 48 = .ok (.l2i, 1) := by decide +kernel
theorem d_Md_one_49 : decode prog_6_method_16_code 49 = .ok (.iastore, 1) := by decide +kernel
theorem d_Md_one_50 : decode prog_6_method_16_code 50 = .ok (.iconst 1, 1) := by decide +kernel
theorem d_Md_one_51 : decode prog_6_method_16_code 51 = .ok (.ireturn, 1) := by decide +kernel
theorem d_Md_light_0 : decode prog_6_method_28_code 0 = .ok (.aload_n 0, 1) := by decide +kernel
theorem d_Md_light_1 : decode prog_6_method_28_code 1 = .ok (.bipush 123, 2) := by decide +kernel
theorem d_Md_light_3 : decode prog_6_method_28_code 3 = .ok (.invokevirtual 71, 3) := by decide +kernel
theorem d_Md_light_6 : decode prog_6_method_28_code 6 = .ok (.ifCond .eq 54, 3) := by decide +kernel
theorem d_Md_light_9 : decode prog_6_method_28_code 9 = .ok (.aload_n 0, 1) := by decide +kernel
theorem d_Md_light_10 : decode prog_6_method_28_code 10 = .ok (.ldc2_w 190, 3) := by decide +kernel
theorem d_Md_light_13 : decode prog_6_method_28_code 13 = .ok (.ldc 192, 2) := by decide +kernel
theorem d_Md_light_15 : decode prog_6_method_28_code 15 = .ok (.ldc 7, 2) := by decide +kernel
theorem d_Md_light_17 : decode prog_6_method_28_code 17 = .ok (.invokevirtual 148, 3) := by decide +kernel
theorem d_Md_light_20 : decode prog_6_method_28_code 20 = .ok (.ifCond .eq 40, 3) := by decide +kernel
theorem d_Md_light_23 : decode prog_6_method_28_code 23 = .ok (.aload_n 0, 1) := by decide +kernel
theorem d_Md_light_24 : decode prog_6_method_28_code 24 = .ok (.bipush 44, 2) := by decide +kernel
theorem d_Md_light_26 : decode prog_6_method_28_code 26 = .ok (.invokevirtual 71, 3) := by decide +kernel
theorem d_Md_light_29 : decode prog_6_method_28_code 29 = .ok (.ifCond .eq 31, 3) := by decide +kernel
theorem d_Md_light_32 : decode prog_6_method_28_code 32 = .ok (.aload_n 0, 1) := by decide +kernel
theorem d_Md_light_33 : decode prog_6_method_28_code 33 = .ok (.ldc2_w 193, 3) := by decide +kernel
theorem d_Md_light_36 : decode prog_6_method_28_code 36 = .ok (.ldc 32, 2) := by decide +kernel
theorem d_Md_light_38 : decode prog_6_method_28_code 38 = .ok (.iconst 0, 1) := by decide +kernel
theorem d_Md_light_39 : decode prog_6_method_28_code 39 = .ok (.ldc 7, 2) := by decide +kernel
theorem d_Md_light_41 : decode prog_6_method_28_code 41 = .ok (.invokevirtual 110, 3) := by decide +kernel
theorem d_Md_light_44 : decode prog_6_method_28_code 44 = .ok (.ifCond .eq 16, 3) := by decide +kernel
theorem d_Md_light_47 : decode prog_6_method_28_code 47 = .ok (.aload_n 0, 1) := by decide +kernel
theorem d_Md_light_48 : decode prog_6_method_28_code 48 = .ok (.bipush 125, 2) := by decide +kernel
theorem d_Md_light_50 : decode prog_6_method_28_code 50 = .ok (.invokevirtual 71, 3) := by decide +kernel
theorem d_Md_light_53 : decode prog_6_method_28_code 53 = .ok (.ifCond .eq 7, 3) := by decide +kernel
theorem d_Md_light_56 : decode prog_6_method_28_code 56 = .ok (.iconst 1, 1) := by decide +kernel
theorem d_Md_light_57 : decode prog_6_method_28_code 57 = .ok (.goto 4, 3) := by decide +kernel
theorem d_Md_light_60 : decode prog_6_method_28_code 60 = .ok (.iconst 0, 1) := by decide +kernel
theorem d_Md_light_61 : decode prog_6_method_28_code 61 = .ok (.ireturn, 1) := by decide +kernel
theorem d_Md_things_0 : decode prog_6_method_26_code 0 = .ok (.aload_n 0, 1) := by decide +kernel
theorem d_Md_things_1 : decode prog_6_method_26_code 1 = .ok (.bipush 91, 2) := by decide +kernel
theorem d_Md_things_3 : decode prog_6_method_26_code 3 = .ok (.invokevirtual 71, 3) := by decide +kernel
theorem d_Md_things_6 : decode prog_6_method_26_code 6 = .ok (.ifCond .ne 5, 3) := by decide +kernel
theorem d_Md_things_9 : decode prog_6_method_26_code 9 = .ok (.iconst 0, 1) := by decide +kernel
theorem d_Md_things_10 : decode prog_6_method_26_code 10 = .ok (.ireturn, 1) := by decide +kernel
theorem d_Md_things_11 : decode prog_6_method_26_code 11 = .ok (.aload_n 0, 1) := by decide +kernel
theorem d_Md_things_12 : decode prog_6_method_26_code 12 = .ok (.bipush 93, 2) := by decide +kernel
theorem d_Md_things_14 : decode prog_6_method_26_code 14 = .ok (.invokevirtual 51, 3) := by decide +kernel
theorem d_Md_things_17 : decode prog_6_method_26_code 17 = .ok (.ifCond .ne 7, 3) := by decide +kernel
theorem d_Md_things_20 : decode prog_6_method_26_code 20 = .ok (.iconst 1, 1) := by decide +kernel
theorem d_Md_things_21 : decode prog_6_method_26_code 21 = .ok (.goto 4, 3) := by decide +kernel
theorem d_Md_things_24 : decode prog_6_method_26_code 24 = .ok (.iconst 0, 1) := by decide +kernel
theorem d_Md_things_25 : decode prog_6_method_26_code 25 = .ok (.istore_n 3, 1) := by decide +kernel
theorem d_Md_things_26 : decode prog_6_method_26_code 26 = .ok (.iload_n 3, 1) := by decide +kernel
theorem d_Md_things_27 : decode prog_6_method_26_code 27 = .ok (.ifCond .eq 89, 3) := by decide +kernel
theorem d_Md_things_30 : decode prog_6_method_26_code 30 = .ok (.aload_n 0, 1) := by decide +kernel
theorem d_Md_things_31 : decode prog_6_method_26_code 31 = .ok (.bipush 123, 2) := by decide +kernel
theorem d_Md_things_33 : decode prog_6_method_26_code 33 = .ok (.invokevirtual 51, 3) := by decide +kernel
theorem d_Md_things_36 : decode prog_6_method_26_code 36 = .ok (.ifCond .eq 23, 3) := by decide +kernel
theorem d_Md_things_39 : decode prog_6_method_26_code 39 = .ok (.aload_n 0, 1) := by decide +kernel
theorem d_Md_things_40 : decode prog_6_method_26_code 40 = .ok (.getfield 19, 3) := by decide +kernel
theorem d_Md_things_43 : decode prog_6_method_26_code 43 = .ok (.iload_n 1, 1) := by decide +kernel
theorem d_Md_things_44 : decode prog_6_method_26_code 44 = .ok (.iaload, 1) := by decide +kernel
theorem d_Md_things_45 : decode prog_6_method_26_code 45 = .ok (.iload_n 2, 1) := by decide +kernel
theorem d_Md_things_46 : decode prog_6_method_26_code 46 = .ok (.if_icmp .ne 13, 3) := by decide +kernel
theorem d_Md_things_49 : decode prog_6_method_26_code 49 = .ok (.aload_n 0, 1) := by decide +kernel
theorem d_Md_things_50 : decode prog_6_method_26_code 50 = .ok (.iconst 3, 1) := by decide +kernel
theorem d_Md_things_51 : decode prog_6_method_26_code 51 = .ok (.aload_n 0, 1) := by decide +kernel
theorem d_Md_things_52 : decode prog_6_method_26_code 52 = .ok (.getfield 42, 3) := by decide +kernel
theorem d_Md_things_55 : decode prog_6_method_26_code 55 = .ok (.invokevirtual 55, 3) := by decide +kernel
theorem d_Md_things_58 : decode prog_6_method_26_code 58 = .ok (.ireturn, 1) := by decide +kernel
theorem d_Md_things_59 : decode prog_6_method_26_code 59 = .ok (.aload_n 0, 1) := by decide +kernel
theorem d_Md_things_60 : decode prog_6_method_26_code 60 = .ok (.iload_n 1, 1) := by decide +kernel
theorem d_Md_things_61 : decode prog_6_method_26_code 61 = .ok (.aload_n 0, 1) := by decide +kernel
theorem d_Md_things_62 : decode prog_6_method_26_code 62 = .ok (.getfield 19, 3) := by decide +kernel
theorem d_Md_things_65 : decode prog_6_method_26_code 65 = .ok (.iload_n 1, 1) := by decide +kernel
theorem d_Md_things_66 : decode prog_6_method_26_code 66 = .ok (.iaload, 1) := by decide +kernel
theorem d_Md_things_67 : decode prog_6_method_26_code 67 = .ok (.invokevirtual 183, 3) := by decide +kernel
theorem d_Md_things_70 : decode prog_6_method_26_code 70 = .ok (.ifCond .ne 5, 3) := by decide +kernel
theorem d_Md_things_73 : decode prog_6_method_26_code 73 = .ok (.iconst 0, 1) := by decide +kernel
theorem d_Md_things_74 : decode prog_6_method_26_code 74 = .ok (.ireturn, 1) := by decide +kernel
theorem d_Md_things_75 : decode prog_6_method_26_code 75 = .ok (.aload_n 0, 1) := by decide +kernel
theorem d_Md_things_76 : decode prog_6_method_26_code 76 = .ok (.getfield 19, 3) := by decide +kernel
theorem d_Md_things_79 : decode prog_6_method_26_code 79 = .ok (.iload_n 1, 1) := by decide +kernel
theorem d_Md_things_80 : decode prog_6_method_26_code 80 = .ok (.dup2, 1) := by decide +kernel
theorem d_Md_things_81 : decode prog_6_method_26_code 81 = .ok (.iaload, 1) := by decide +kernel
theorem d_Md_things_82 : decode prog_6_method_26_code 82 = .ok (.iconst 1, 1) := by decide +kernel
theorem d_Md_things_83 : decode prog_6_method_26_code 83 = .ok (.iadd, 1) := by decide +kernel
theorem d_Md_things_84 : decode prog_6_method_26_code 84 = .ok (.iastore, 1) := by decide +kernel
theorem d_Md_things_85 : decode prog_6_method_26_code 85 = .ok (.aload_n 0, 1) := by decide +kernel
theorem d_Md_things_86 : decode prog_6_method_26_code 86 = .ok (.bipush 44, 2) := by decide +kernel
theorem d_Md_things_88 : decode prog_6_method_26_code 88 = .ok (.invokevirtual 51, 3) := by decide +kernel
theorem d_Md_things_91 : decode prog_6_method_26_code 91 = .ok (.istore_n 3, 1) := by decide +kernel
theorem d_Md_things_92 : decode prog_6_method_26_code 92 = .ok (.aload_n 0, 1) := by decide +kernel
theorem d_Md_things_93 : decode prog_6_method_26_code 93 = .ok (.iload_n 3, 1) := by decide +kernel
theorem d_Md_things_94 : decode prog_6_method_26_code 94 = .ok (.ifCond .eq 12, 3) := by decide +kernel
theorem d_Md_things_97 : decode prog_6_method_26_code 97 = .ok (.aload_n 0, 1) := by decide +kernel
theorem d_Md_things_98 : decode prog_6_method_26_code 98 = .ok (.getfield 42, 3) := by decide +kernel
theorem d_Md_things_101 : decode prog_6_method_26_code 101 = .ok (.iconst 1, 1) := by decide +kernel
theorem d_Md_things_102 : decode prog_6_method_26_code 102 = .ok (.iadd, 1) := by decide +kernel
theorem d_Md_things_103 : decode prog_6_method_26_code 103 = .ok (.goto 7, 3) := by decide +kernel
theorem d_Md_things_106 : decode prog_6_method_26_code 106 = .ok (.aload_n 0, 1) := by decide +kernel
theorem d_Md_things_107 : decode prog_6_method_26_code 107 = .ok (.getfield 42, 3) := by decide +kernel
theorem d_Md_things_110 : decode prog_6_method_26_code 110 = .ok (.putfield 42, 3) := by decide +kernel
theorem d_Md_things_113 : decode prog_6_method_26_code 113 = .ok (.goto (-87), 3) := by decide +kernel
theorem d_Md_things_116 : decode prog_6_method_26_code 116 = .ok (.aload_n 0, 1) := by decide +kernel
theorem d_Md_things_117 : decode prog_6_method_26_code 117 = .ok (.bipush 93, 2) := by decide +kernel
theorem d_Md_things_119 : decode prog_6_method_26_code 119 = .ok (.invokevirtual 71, 3) := by decide +kernel
theorem d_Md_things_122 : decode prog_6_method_26_code 122 = .ok (.ireturn, 1) := by decide +kernel
theorem d_Md_thing_0 : decode prog_6_method_25_code 0 = .ok (.aload_n 0, 1) := by decide +kernel
theorem d_Md_thing_1 : decode prog_6_method_25_code 1 = .ok (.bipush 123, 2) := by decide +kernel
theorem d_Md_thing_3 : decode prog_6_method_25_code 3 = .ok (.invokevirtual 71, 3) := by decide +kernel
theorem d_Md_thing_6 : decode prog_6_method_25_code 6 = .ok (.ifCond .ne 5, 3) := by decide +kernel
theorem d_Md_thing_9 : decode prog_6_method_25_code 9 = .ok (.iconst 0, 1) := by decide +kernel
theorem d_Md_thing_10 : decode prog_6_method_25_code 10 = .ok (.ireturn, 1) := by decide +kernel
theorem d_Md_thing_11 : decode prog_6_method_25_code 11 = .ok (.iload_n 1, 1) := by decide +kernel
theorem d_Md_thing_12 : decode prog_6_method_25_code 12 = .ok (.ifCond .ne 11, 3) := by decide +kernel
theorem d_Md_thing_15 : decode prog_6_method_25_code 15 = .ok (.aload_n 0, 1) := by decide +kernel
theorem d_Md_thing_16 : decode prog_6_method_25_code 16 = .ok (.iload_n 2, 1) := by decide +kernel
theorem d_Md_thing_17 : decode prog_6_method_25_code 17 = .ok (.invokevirtual 168, 3) := by decide +kernel
theorem d_Md_thing_20 : decode prog_6_method_25_code 20 = .ok (.goto 47, 3) := by decide +kernel
theorem d_Md_thing_23 : decode prog_6_method_25_code 23 = .ok (.iload_n 1, 1) := by decide +kernel
theorem d_Md_thing_24 : decode prog_6_method_25_code 24 = .ok (.iconst 1, 1) := by decide +kernel
theorem d_Md_thing_25 : decode prog_6_method_25_code 25 = .ok (.if_icmp .ne 11, 3) := by decide +kernel
theorem d_Md_thing_28 : decode prog_6_method_25_code 28 = .ok (.aload_n 0, 1) := by decide +kernel
theorem d_Md_thing_29 : decode prog_6_method_25_code 29 = .ok (.iload_n 2, 1) := by decide +kernel
theorem d_Md_thing_30 : decode prog_6_method_25_code 30 = .ok (.invokevirtual 171, 3) := by decide +kernel
theorem d_Md_thing_33 : decode prog_6_method_25_code 33 = .ok (.goto 34, 3) := by decide +kernel
theorem d_Md_thing_36 : decode prog_6_method_25_code 36 = .ok (.iload_n 1, 1) := by decide +kernel
theorem d_Md_thing_37 : decode prog_6_method_25_code 37 = .ok (.iconst 2, 1) := by decide +kernel
theorem d_Md_thing_38 : decode prog_6_method_25_code 38 = .ok (.if_icmp .ne 11, 3) := by decide +kernel
theorem d_Md_thing_41 : decode prog_6_method_25_code 41 = .ok (.aload_n 0, 1) := by decide +kernel
theorem d_Md_thing_42 : decode prog_6_method_25_code 42 = .ok (.iload_n 2, 1) := by decide +kernel
theorem d_Md_thing_43 : decode prog_6_method_25_code 43 = .ok (.invokevirtual 174, 3) := by decide +kernel
theorem d_Md_thing_46 : decode prog_6_method_25_code 46 = .ok (.goto 21, 3) := by decide +kernel
theorem d_Md_thing_49 : decode prog_6_method_25_code 49 = .ok (.iload_n 1, 1) := by decide +kernel
theorem d_Md_thing_50 : decode prog_6_method_25_code 50 = .ok (.iconst 3, 1) := by decide +kernel
theorem d_Md_thing_51 : decode prog_6_method_25_code 51 = .ok (.if_icmp .ne 11, 3) := by decide +kernel
theorem d_Md_thing_54 : decode prog_6_method_25_code 54 = .ok (.aload_n 0, 1) := by decide +kernel
theorem d_Md_thing_55 : decode prog_6_method_25_code 55 = .ok (.iload_n 2, 1) := by decide +kernel
theorem d_Md_thing_56 : decode prog_6_method_25_code 56 = .ok (.invokevirtual 177, 3) := by decide +kernel
theorem d_Md_thing_59 : decode prog_6_method_25_code 59 = .ok (.goto 8, 3) := by decide +kernel
theorem d_Md_thing_62 : decode prog_6_method_25_code 62 = .ok (.aload_n 0, 1) := by decide +kernel
theorem d_Md_thing_63 : decode prog_6_method_25_code 63 = .ok (.iload_n 2, 1) := by decide +kernel
theorem d_Md_thing_64 : decode prog_6_method_25_code 64 = .ok (.invokevirtual 180, 3) := by decide +kernel
theorem d_Md_thing_67 : decode prog_6_method_25_code 67 = .ok (.istore_n 3, 1) := by decide +kernel
theorem d_Md_thing_68 : decode prog_6_method_25_code 68 = .ok (.iload_n 3, 1) := by decide +kernel
theorem d_Md_thing_69 : decode prog_6_method_25_code 69 = .ok (.ifCond .eq 16, 3) := by decide +kernel
theorem d_Md_thing_72 : decode prog_6_method_25_code 72 = .ok (.aload_n 0, 1) := by decide +kernel
theorem d_Md_thing_73 : decode prog_6_method_25_code 73 = .ok (.bipush 125, 2) := by decide +kernel
theorem d_Md_thing_75 : decode prog_6_method_25_code 75 = .ok (.invokevirtual 71, 3) := by decide +kernel
theorem d_Md_thing_78 : decode prog_6_method_25_code 78 = .ok (.ifCond .eq 7, 3) := by decide +kernel
theorem d_Md_thing_81 : decode prog_6_method_25_code 81 = .ok (.iconst 1, 1) := by decide +kernel
theorem d_Md_thing_82 : decode prog_6_method_25_code 82 = .ok (.goto 4, 3) := by decide +kernel
theorem d_Md_thing_85 : decode prog_6_method_25_code 85 = .ok (.iconst 0, 1) := by decide +kernel
theorem d_Md_thing_86 : decode prog_6_method_25_code 86 = .ok (.ireturn, 1) := by decide +kernel
theorem d_Md_texture_0 : decode prog_6_method_20_code 0 = .ok (.bipush 8, 2) := by decide +kernel
theorem d_Md_texture_2 : decode prog_6_method_20_code 2 = .ok (.sipush 3080, 3) := by decide +kernel
theorem d_Md_texture_5 : decode prog_6_method_20_code 5 = .ok (.iload_n 1, 1) := by decide +kernel
theorem d_Md_texture_6 : decode prog_6_method_20_code 6 = .ok (.imul, 1) := by decide +kernel
theorem d_Md_texture_7 : decode prog_6_method_20_code 7 = .ok (.iadd, 1) := by decide +kernel
theorem d_Md_texture_8 : decode prog_6_method_20_code 8 = .ok (.istore_n 2, 1) := by decide +kernel
theorem d_Md_texture_9 : decode prog_6_method_20_code 9 = .ok (.aload_n 0, 1) := by decide +kernel
theorem d_Md_texture_10 : decode prog_6_method_20_code 10 = .ok (.ldc2_w 108, 3) := by decide +kernel
theorem d_Md_texture_13 : decode prog_6_method_20_code 13 = .ok (.iload_n 2, 1) := by decide +kernel
theorem d_Md_texture_14 : decode prog_6_method_20_code 14 = .ok (.iconst 1, 1) := by decide +kernel
theorem d_Md_texture_15 : decode prog_6_method_20_code 15 = .ok (.bipush 32, 2) := by decide +kernel
theorem d_Md_texture_17 : decode prog_6_method_20_code 17 = .ok (.invokevirtual 110, 3) := by decide +kernel
theorem d_Md_texture_20 : decode prog_6_method_20_code 20 = .ok (.ifCond .ne 5, 3) := by decide +kernel
theorem d_Md_texture_23 : decode prog_6_method_20_code 23 = .ok (.iconst 0, 1) := by decide +kernel
theorem d_Md_texture_24 : decode prog_6_method_20_code 24 = .ok (.ireturn, 1) := by decide +kernel
theorem d_Md_texture_25 : decode prog_6_method_20_code 25 = .ok (.aload_n 0, 1) := by decide +kernel
theorem d_Md_texture_26 : decode prog_6_method_20_code 26 = .ok (.getfield 19, 3) := by decide +kernel
theorem d_Md_texture_29 : decode prog_6_method_20_code 29 = .ok (.iload_n 2, 1) := by decide +kernel
theorem d_Md_texture_30 : decode prog_6_method_20_code 30 = .ok (.iaload, 1) := by decide +kernel
theorem d_Md_texture_31 : decode prog_6_method_20_code 31 = .ok (.istore_n 3, 1) := by decide +kernel
theorem d_Md_texture_32 : decode prog_6_method_20_code 32 = .ok (.iload_n 3, 1) := by decide +kernel
theorem d_Md_texture_33 : decode prog_6_method_20_code 33 = .ok (.iconst 1, 1) := by decide +kernel
theorem d_Md_texture_34 : decode prog_6_method_20_code 34 = .ok (.if_icmp .eq 41, 3) := by decide +kernel
theorem d_Md_texture_37 : decode prog_6_method_20_code 37 = .ok (.iload_n 3, 1) := by decide +kernel
theorem d_Md_texture_38 : decode prog_6_method_20_code 38 = .ok (.iconst 2, 1) := by decide +kernel
theorem d_Md_texture_39 : decode prog_6_method_20_code 39 = .ok (.if_icmp .eq 36, 3) := by decide +kernel
theorem d_Md_texture_42 : decode prog_6_method_20_code 42 = .ok (.iload_n 3, 1) := by decide +kernel
theorem d_Md_texture_43 : decode prog_6_method_20_code 43 = .ok (.iconst 4, 1) := by decide +kernel
theorem d_Md_texture_44 : decode prog_6_method_20_code 44 = .ok (.if_icmp .eq 31, 3) := by decide +kernel
theorem d_Md_texture_47 : decode prog_6_method_20_code 47 = .ok (.iload_n 3, 1) := by decide +kernel
theorem d_Md_texture_48 : decode prog_6_method_20_code 48 = .ok (.bipush 8, 2) := by decide +kernel
theorem d_Md_texture_50 : decode prog_6_method_20_code 50 = .ok (.if_icmp .eq 25, 3) := by decide +kernel
theorem d_Md_texture_53 : decode prog_6_method_20_code 53 = .ok (.iload_n 3, 1) := by decide +kernel
theorem d_Md_texture_54 : decode prog_6_method_20_code 54 = .ok (.bipush 16, 2) := by decide +kernel
theorem d_Md_texture_56 : decode prog_6_method_20_code 56 = .ok (.if_icmp .eq 19, 3) := by decide +kernel
theorem d_Md_texture_59 : decode prog_6_method_20_code 59 = .ok (.iload_n 3, 1) := by decide +kernel
theorem d_Md_texture_60 : decode prog_6_method_20_code 60 = .ok (.bipush 32, 2) := by decide +kernel
theorem d_Md_texture_62 : decode prog_6_method_20_code 62 = .ok (.if_icmp .eq 13, 3) := by decide +kernel
theorem d_Md_texture_65 : decode prog_6_method_20_code 65 = .ok (.aload_n 0, 1) := by decide +kernel
theorem d_Md_texture_66 : decode prog_6_method_20_code 66 = .ok (.iconst 2, 1) := by decide +kernel
theorem d_Md_texture_67 : decode prog_6_method_20_code 67 = .ok (.aload_n 0, 1) := by decide +kernel
theorem d_Md_texture_68 : decode prog_6_method_20_code 68 = .ok (.getfield 74, 3) := by decide +kernel
theorem d_Md_texture_71 : decode prog_6_method_20_code 71 = .ok (.invokevirtual 55, 3) := by decide +kernel
theorem d_Md_texture_74 : decode prog_6_method_20_code 74 = .ok (.ireturn, 1) := by decide +kernel
theorem d_Md_texture_75 : decode prog_6_method_20_code 75 = .ok (.iconst 3, 1) := by decide +kernel
theorem d_Md_texture_76 : decode prog_6_method_20_code 76 = .ok (.iload_n 3, 1) := by decide +kernel
theorem d_Md_texture_77 : decode prog_6_method_20_code 77 = .ok (.imul, 1) := by decide +kernel
theorem d_Md_texture_78 : decode prog_6_method_20_code 78 = .ok (.iload_n 3, 1) := by decide +kernel
theorem d_Md_texture_79 : decode prog_6_method_20_code 79 = .ok (.imul, 1) := by decide +kernel
theorem d_Md_texture_80 : decode prog_6_method_20_code 80 = .ok (.istore 4, 2) := by decide +kernel
theorem d_Md_texture_82 : decode prog_6_method_20_code 82 = .ok (.aload_n 0, 1) := by decide +kernel
theorem d_Md_texture_83 : decode prog_6_method_20_code 83 = .ok (.bipush 44, 2) := by decide +kernel
theorem d_Md_texture_85 : decode prog_6_method_20_code 85 = .ok (.invokevirtual 71, 3) := by decide +kernel
theorem d_Md_texture_88 : decode prog_6_method_20_code 88 = .ok (.ifCond .eq 79, 3) := by decide +kernel
theorem d_Md_texture_91 : decode prog_6_method_20_code 91 = .ok (.aload_n 0, 1) := by decide +kernel
theorem d_Md_texture_92 : decode prog_6_method_20_code 92 = .ok (.ldc2_w 114, 3) := by decide +kernel
theorem d_Md_texture_95 : decode prog_6_method_20_code 95 = .ok (.iload_n 2, 1) := by decide +kernel
theorem d_Md_texture_96 : decode prog_6_method_20_code 96 = .ok (.iconst 1, 1) := by decide +kernel
theorem d_Md_texture_97 : decode prog_6_method_20_code 97 = .ok (.iadd, 1) := by decide +kernel
theorem d_Md_texture_98 : decode prog_6_method_20_code 98 = .ok (.iconst 0, 1) := by decide +kernel
theorem d_Md_texture_99 : decode prog_6_method_20_code 99 = .ok (.iconst 2, 1) := by decide +kernel
theorem d_Md_texture_100 : decode prog_6_method_20_code 100 = .ok (.invokevirtual 110, 3) := by decide +kernel
theorem d_Md_texture_103 : decode prog_6_method_20_code 103 = .ok (.ifCond .eq 64, 3) := by decide +kernel
theorem d_Md_texture_106 : decode prog_6_method_20_code 106 = .ok (.aload_n 0, 1) := by decide +kernel
theorem d_Md_texture_107 : decode prog_6_method_20_code 107 = .ok (.bipush 44, 2) := by decide +kernel
theorem d_Md_texture_109 : decode prog_6_method_20_code 109 = .ok (.invokevirtual 71, 3) := by decide +kernel
theorem d_Md_texture_112 : decode prog_6_method_20_code 112 = .ok (.ifCond .eq 55, 3) := by decide +kernel
theorem d_Md_texture_115 : decode prog_6_method_20_code 115 = .ok (.aload_n 0, 1) := by decide +kernel
theorem d_Md_texture_116 : decode prog_6_method_20_code 116 = .ok (.ldc2_w 116, 3) := by decide +kernel
theorem d_Md_texture_119 : decode prog_6_method_20_code 119 = .ok (.iload_n 2, 1) := by decide +kernel
theorem d_Md_texture_120 : decode prog_6_method_20_code 120 = .ok (.iconst 2, 1) := by decide +kernel
theorem d_Md_texture_121 : decode prog_6_method_20_code 121 = .ok (.iadd, 1) := by decide +kernel
theorem d_Md_texture_122 : decode prog_6_method_20_code 122 = .ok (.iconst 0, 1) := by decide +kernel
theorem d_Md_texture_123 : decode prog_6_method_20_code 123 = .ok (.iconst 1, 1) := by decide +kernel
theorem d_Md_texture_124 : decode prog_6_method_20_code 124 = .ok (.invokevirtual 110, 3) := by decide +kernel
theorem d_Md_texture_127 : decode prog_6_method_20_code 127 = .ok (.ifCond .eq 40, 3) := by decide +kernel
theorem d_Md_texture_130 : decode prog_6_method_20_code 130 = .ok (.aload_n 0, 1) := by decide +kernel
theorem d_Md_texture_131 : decode prog_6_method_20_code 131 = .ok (.bipush 44, 2) := by decide +kernel
theorem d_Md_texture_133 : decode prog_6_method_20_code 133 = .ok (.invokevirtual 71, 3) := by decide +kernel
theorem d_Md_texture_136 : decode prog_6_method_20_code 136 = .ok (.ifCond .eq 31, 3) := by decide +kernel
theorem d_Md_texture_139 : decode prog_6_method_20_code 139 = .ok (.aload_n 0, 1) := by decide +kernel
theorem d_Md_texture_140 : decode prog_6_method_20_code 140 = .ok (.ldc2_w 118, 3) := by decide +kernel
theorem d_Md_texture_143 : decode prog_6_method_20_code 143 = .ok (.iload_n 2, 1) := by decide +kernel
theorem d_Md_texture_144 : decode prog_6_method_20_code 144 = .ok (.bipush 8, 2) := by decide +kernel
theorem d_Md_texture_146 : decode prog_6_method_20_code 146 = .ok (.iadd, 1) := by decide +kernel
theorem d_Md_texture_147 : decode prog_6_method_20_code 147 = .ok (.iload 4, 2) := by decide +kernel
theorem d_Md_texture_149 : decode prog_6_method_20_code 149 = .ok (.iload 4, 2) := by decide +kernel
theorem d_Md_texture_151 : decode prog_6_method_20_code 151 = .ok (.iconst 1, 1) := by decide +kernel
theorem d_Md_texture_152 : decode prog_6_method_20_code 152 = .ok (.iconst 0, 1) := by decide +kernel
theorem d_Md_texture_153 : decode prog_6_method_20_code 153 = .ok (.sipush 255, 3) := by decide +kernel
theorem d_Md_texture_156 : decode prog_6_method_20_code 156 = .ok (.iconst 0, 1) := by decide +kernel
theorem d_Md_texture_157 : decode prog_6_method_20_code 157 = .ok (.invokevirtual 104, 3) := by decide +kernel
theorem d_Md_texture_160 : decode prog_6_method_20_code 160 = .ok (.ifCond .eq 7, 3) := by decide +kernel
theorem d_Md_texture_163 : decode prog_6_method_20_code 163 = .ok (.iconst 1, 1) := by decide +kernel
theorem d_Md_texture_164 : decode prog_6_method_20_code 164 = .ok (.goto 4, 3) := by decide +kernel
theorem d_Md_texture_167 : decode prog_6_method_20_code 167 = .ok (.iconst 0, 1) := by decide +kernel
theorem d_Md_texture_168 : decode prog_6_method_20_code 168 = .ok (.ireturn, 1) := by decide +kernel
theorem d_Md_material_0 : decode prog_6_method_21_code 0 = .ok (.sipush 24648, 3) := by decide +kernel
theorem d_Md_material_3 : decode prog_6_method_21_code 3 = .ok (.bipush 8, 2) := by decide +kernel
theorem d_Md_material_5 : decode prog_6_method_21_code 5 = .ok (.iload_n 1, 1) := by decide +kernel
theorem d_Md_material_6 : decode prog_6_method_21_code 6 = .ok (.imul, 1) := by decide +kernel
theorem d_Md_material_7 : decode prog_6_method_21_code 7 = .ok (.iadd, 1) := by decide +kernel
theorem d_Md_material_8 : decode prog_6_method_21_code 8 = .ok (.istore_n 2, 1) := by decide +kernel
theorem d_Md_material_9 : decode prog_6_method_21_code 9 = .ok (.aload_n 0, 1) := by decide +kernel
theorem d_Md_material_10 : decode prog_6_method_21_code 10 = .ok (.ldc2_w 120, 3) := by decide +kernel
theorem d_Md_material_13 : decode prog_6_method_21_code 13 = .ok (.iload_n 2, 1) := by decide +kernel
theorem d_Md_material_14 : decode prog_6_method_21_code 14 = .ok (.iconst 4, 1) := by decide +kernel
theorem d_Md_material_15 : decode prog_6_method_21_code 15 = .ok (.iconst 4, 1) := by decide +kernel
theorem d_Md_material_16 : decode prog_6_method_21_code 16 = .ok (.iconst 1, 1) := by decide +kernel
theorem d_Md_material_17 : decode prog_6_method_21_code 17 = .ok (.iconst 0, 1) := by decide +kernel
theorem d_Md_material_18 : decode prog_6_method_21_code 18 = .ok (.sipush 255, 3) := by decide +kernel
theorem d_Md_material_21 : decode prog_6_method_21_code 21 = .ok (.iconst 0, 1) := by decide +kernel
theorem d_Md_material_22 : decode prog_6_method_21_code 22 = .ok (.invokevirtual 104, 3) := by decide +kernel
theorem d_Md_material_25 : decode prog_6_method_21_code 25 = .ok (.ifCond .eq 62, 3) := by decide +kernel
theorem d_Md_material_28 : decode prog_6_method_21_code 28 = .ok (.aload_n 0, 1) := by decide +kernel
theorem d_Md_material_29 : decode prog_6_method_21_code 29 = .ok (.bipush 44, 2) := by decide +kernel
theorem d_Md_material_31 : decode prog_6_method_21_code 31 = .ok (.invokevirtual 71, 3) := by decide +kernel
theorem d_Md_material_34 : decode prog_6_method_21_code 34 = .ok (.ifCond .eq 53, 3) := by decide +kernel
theorem d_Md_material_37 : decode prog_6_method_21_code 37 = .ok (.aload_n 0, 1) := by decide +kernel
theorem d_Md_material_38 : decode prog_6_method_21_code 38 = .ok (.ldc2_w 122, 3) := by decide +kernel
theorem d_Md_material_41 : decode prog_6_method_21_code 41 = .ok (.iload_n 2, 1) := by decide +kernel
theorem d_Md_material_42 : decode prog_6_method_21_code 42 = .ok (.iconst 4, 1) := by decide +kernel
theorem d_Md_material_43 : decode prog_6_method_21_code 43 = .ok (.iadd, 1) := by decide +kernel
theorem d_Md_material_44 : decode prog_6_method_21_code 44 = .ok (.iconst (-1), 1) := by decide +kernel
theorem d_Md_material_45 : decode prog_6_method_21_code 45 = .ok (.aload_n 0, 1) := by decide +kernel
theorem d_Md_material_46 : decode prog_6_method_21_code 46 = .ok (.getfield 19, 3) := by decide +kernel
theorem d_Md_material_49 : decode prog_6_method_21_code 49 = .ok (.iconst 0, 1) := by decide +kernel
theorem d_Md_material_50 : decode prog_6_method_21_code 50 = .ok (.iaload, 1) := by decide +kernel
theorem d_Md_material_51 : decode prog_6_method_21_code 51 = .ok (.iconst 1, 1) := by decide +kernel
theorem d_Md_material_52 : decode prog_6_method_21_code 52 = .ok (.isub, 1) := by decide +kernel
theorem d_Md_material_53 : decode prog_6_method_21_code 53 = .ok (.invokevirtual 110, 3) := by decide +kernel
theorem d_Md_material_56 : decode prog_6_method_21_code 56 = .ok (.ifCond .eq 31, 3) := by decide +kernel
theorem d_Md_material_59 : decode prog_6_method_21_code 59 = .ok (.aload_n 0, 1) := by decide +kernel
theorem d_Md_material_60 : decode prog_6_method_21_code 60 = .ok (.bipush 44, 2) := by decide +kernel
theorem d_Md_material_62 : decode prog_6_method_21_code 62 = .ok (.invokevirtual 71, 3) := by decide +kernel
theorem d_Md_material_65 : decode prog_6_method_21_code 65 = .ok (.ifCond .eq 22, 3) := by decide +kernel
theorem d_Md_material_68 : decode prog_6_method_21_code 68 = .ok (.aload_n 0, 1) := by decide +kernel
theorem d_Md_material_69 : decode prog_6_method_21_code 69 = .ok (.ldc2_w 124, 3) := by decide +kernel
theorem d_Md_material_72 : decode prog_6_method_21_code 72 = .ok (.iload_n 2, 1) := by decide +kernel
theorem d_Md_material_73 : decode prog_6_method_21_code 73 = .ok (.iconst 5, 1) := by decide +kernel
theorem d_Md_material_74 : decode prog_6_method_21_code 74 = .ok (.iadd, 1) := by decide +kernel
theorem d_Md_material_75 : decode prog_6_method_21_code 75 = .ok (.iconst 0, 1) := by decide +kernel
theorem d_Md_material_76 : decode prog_6_method_21_code 76 = .ok (.iconst 1, 1) := by decide +kernel
theorem d_Md_material_77 : decode prog_6_method_21_code 77 = .ok (.invokevirtual 110, 3) := by decide +kernel
theorem d_Md_material_80 : decode prog_6_method_21_code 80 = .ok (.ifCond .eq 7, 3) := by decide +kernel
theorem d_Md_material_83 : decode prog_6_method_21_code 83 = .ok (.iconst 1, 1) := by decide +kernel
theorem d_Md_material_84 : decode prog_6_method_21_code 84 = .ok (.goto 4, 3) := by decide +kernel
theorem d_Md_material_87 : decode prog_6_method_21_code 87 = .ok (.iconst 0, 1) := by decide +kernel
theorem d_Md_material_88 : decode prog_6_method_21_code 88 = .ok (.ireturn, 1) := by decide +kernel
theorem d_Md_mesh_0 : decode prog_6_method_22_code 0 = .ok (.sipush 24776, 3) := by decide +kernel
theorem d_Md_mesh_3 : decode prog_6_method_22_code 3 = .ok (.sipush 1440, 3) := by decide +kernel
theorem d_Md_mesh_6 : decode prog_6_method_22_code 6 = .ok (.iload_n 1, 1) := by decide +kernel
theorem d_Md_mesh_7 : decode prog_6_method_22_code 7 = .ok (.imul, 1) := by decide +kernel
theorem d_Md_mesh_8 : decode prog_6_method_22_code 8 = .ok (.iadd, 1) := by decide +kernel
theorem d_Md_mesh_9 : decode prog_6_method_22_code 9 = .ok (.istore_n 2, 1) := by decide +kernel
theorem d_Md_mesh_10 : decode prog_6_method_22_code 10 = .ok (.aload_n 0, 1) := by decide +kernel
theorem d_Md_mesh_11 : decode prog_6_method_22_code 11 = .ok (.ldc2_w 126, 3) := by decide +kernel
theorem d_Md_mesh_14 : decode prog_6_method_22_code 14 = .ok (.iload_n 2, 1) := by decide +kernel
theorem d_Md_mesh_15 : decode prog_6_method_22_code 15 = .ok (.iconst 0, 1) := by decide +kernel
theorem d_Md_mesh_16 : decode prog_6_method_22_code 16 = .ok (.aload_n 0, 1) := by decide +kernel
theorem d_Md_mesh_17 : decode prog_6_method_22_code 17 = .ok (.getfield 19, 3) := by decide +kernel
theorem d_Md_mesh_20 : decode prog_6_method_22_code 20 = .ok (.iconst 1, 1) := by decide +kernel
theorem d_Md_mesh_21 : decode prog_6_method_22_code 21 = .ok (.iaload, 1) := by decide +kernel
theorem d_Md_mesh_22 : decode prog_6_method_22_code 22 = .ok (.iconst 1, 1) := by decide +kernel
theorem d_Md_mesh_23 : decode prog_6_method_22_code 23 = .ok (.isub, 1) := by decide +kernel
theorem d_Md_mesh_24 : decode prog_6_method_22_code 24 = .ok (.invokevirtual 110, 3) := by decide +kernel
theorem d_Md_mesh_27 : decode prog_6_method_22_code 27 = .ok (.ifCond .eq 36, 3) := by decide +kernel
theorem d_Md_mesh_30 : decode prog_6_method_22_code 30 = .ok (.aload_n 0, 1) := by decide +kernel
theorem d_Md_mesh_31 : decode prog_6_method_22_code 31 = .ok (.bipush 44, 2) := by decide +kernel
theorem d_Md_mesh_33 : decode prog_6_method_22_code 33 = .ok (.invokevirtual 71, 3) := by decide +kernel
theorem d_Md_mesh_36 : decode prog_6_method_22_code 36 = .ok (.ifCond .eq 27, 3) := by decide +kernel
theorem d_Md_mesh_39 : decode prog_6_method_22_code 39 = .ok (.aload_n 0, 1) := by decide +kernel
theorem d_Md_mesh_40 : decode prog_6_method_22_code 40 = .ok (.ldc2_w 128, 3) := by decide +kernel
theorem d_Md_mesh_43 : decode prog_6_method_22_code 43 = .ok (.iload_n 2, 1) := by decide +kernel
theorem d_Md_mesh_44 : decode prog_6_method_22_code 44 = .ok (.bipush 16, 2) := by decide +kernel
theorem d_Md_mesh_46 : decode prog_6_method_22_code 46 = .ok (.iadd, 1) := by decide +kernel
theorem d_Md_mesh_47 : decode prog_6_method_22_code 47 = .ok (.iconst 3, 1) := by decide +kernel
theorem d_Md_mesh_48 : decode prog_6_method_22_code 48 = .ok (.sipush 384, 3) := by decide +kernel
theorem d_Md_mesh_51 : decode prog_6_method_22_code 51 = .ok (.iconst 3, 1) := by decide +kernel
theorem d_Md_mesh_52 : decode prog_6_method_22_code 52 = .ok (.ldc 130, 2) := by decide +kernel
theorem d_Md_mesh_54 : decode prog_6_method_22_code 54 = .ok (.ldc 131, 2) := by decide +kernel
theorem d_Md_mesh_56 : decode prog_6_method_22_code 56 = .ok (.iconst 0, 1) := by decide +kernel
theorem d_Md_mesh_57 : decode prog_6_method_22_code 57 = .ok (.invokevirtual 104, 3) := by decide +kernel
theorem d_Md_mesh_60 : decode prog_6_method_22_code 60 = .ok (.ifCond .ne 5, 3) := by decide +kernel
theorem d_Md_mesh_63 : decode prog_6_method_22_code 63 = .ok (.iconst 0, 1) := by decide +kernel
theorem d_Md_mesh_64 : decode prog_6_method_22_code 64 = .ok (.ireturn, 1) := by decide +kernel
theorem d_Md_mesh_65 : decode prog_6_method_22_code 65 = .ok (.aload_n 0, 1) := by decide +kernel
theorem d_Md_mesh_66 : decode prog_6_method_22_code 66 = .ok (.getfield 101, 3) := by decide +kernel
theorem d_Md_mesh_69 : decode prog_6_method_22_code 69 = .ok (.iconst 3, 1) := by decide +kernel
theorem d_Md_mesh_70 : decode prog_6_method_22_code 70 = .ok (.idiv, 1) := by decide +kernel
theorem d_Md_mesh_71 : decode prog_6_method_22_code 71 = .ok (.istore_n 3, 1) := by decide +kernel
theorem d_Md_mesh_72 : decode prog_6_method_22_code 72 = .ok (.aload_n 0, 1) := by decide +kernel
theorem d_Md_mesh_73 : decode prog_6_method_22_code 73 = .ok (.getfield 19, 3) := by decide +kernel
theorem d_Md_mesh_76 : decode prog_6_method_22_code 76 = .ok (.iload_n 2, 1) := by decide +kernel
theorem d_Md_mesh_77 : decode prog_6_method_22_code 77 = .ok (.iconst 1, 1) := by decide +kernel
theorem d_Md_mesh_78 : decode prog_6_method_22_code 78 = .ok (.iadd, 1) := by decide +kernel
theorem d_Md_mesh_79 : decode prog_6_method_22_code 79 = .ok (.iload_n 3, 1) := by decide +kernel
theorem d_Md_mesh_80 : decode prog_6_method_22_code 80 = .ok (.iastore, 1) := by decide +kernel
theorem d_Md_mesh_81 : decode prog_6_method_22_code 81 = .ok (.aload_n 0, 1) := by decide +kernel
theorem d_Md_mesh_82 : decode prog_6_method_22_code 82 = .ok (.bipush 44, 2) := by decide +kernel
theorem d_Md_mesh_84 : decode prog_6_method_22_code 84 = .ok (.invokevirtual 71, 3) := by decide +kernel
theorem d_Md_mesh_87 : decode prog_6_method_22_code 87 = .ok (.ifCond .eq 30, 3) := by decide +kernel
theorem d_Md_mesh_90 : decode prog_6_method_22_code 90 = .ok (.aload_n 0, 1) := by decide +kernel
theorem d_Md_mesh_91 : decode prog_6_method_22_code 91 = .ok (.ldc2_w 132, 3) := by decide +kernel
theorem d_Md_mesh_94 : decode prog_6_method_22_code 94 = .ok (.iload_n 2, 1) := by decide +kernel
theorem d_Md_mesh_95 : decode prog_6_method_22_code 95 = .ok (.sipush 400, 3) := by decide +kernel
theorem d_Md_mesh_98 : decode prog_6_method_22_code 98 = .ok (.iadd, 1) := by decide +kernel
theorem d_Md_mesh_99 : decode prog_6_method_22_code 99 = .ok (.iconst 3, 1) := by decide +kernel
theorem d_Md_mesh_100 : decode prog_6_method_22_code 100 = .ok (.iload_n 3, 1) := by decide +kernel
theorem d_Md_mesh_101 : decode prog_6_method_22_code 101 = .ok (.imul, 1) := by decide +kernel
theorem d_Md_mesh_102 : decode prog_6_method_22_code 102 = .ok (.iconst 3, 1) := by decide +kernel
theorem d_Md_mesh_103 : decode prog_6_method_22_code 103 = .ok (.iload_n 3, 1) := by decide +kernel
theorem d_Md_mesh_104 : decode prog_6_method_22_code 104 = .ok (.imul, 1) := by decide +kernel
theorem d_Md_mesh_105 : decode prog_6_method_22_code 105 = .ok (.iconst 1, 1) := by decide +kernel
theorem d_Md_mesh_106 : decode prog_6_method_22_code 106 = .ok (.ldc 31, 2) := by decide +kernel
theorem d_Md_mesh_108 : decode prog_6_method_22_code 108 = .ok (.ldc 7, 2) := by decide +kernel
theorem d_Md_mesh_110 : decode prog_6_method_22_code 110 = .ok (.iconst 0, 1) := by decide +kernel
theorem d_Md_mesh_111 : decode prog_6_method_22_code 111 = .ok (.invokevirtual 104, 3) := by decide +kernel
theorem d_Md_mesh_114 : decode prog_6_method_22_code 114 = .ok (.ifCond .ne 5, 3) := by decide +kernel
theorem d_Md_mesh_117 : decode prog_6_method_22_code 117 = .ok (.iconst 0, 1) := by decide +kernel
theorem d_Md_mesh_118 : decode prog_6_method_22_code 118 = .ok (.ireturn, 1) := by decide +kernel
theorem d_Md_mesh_119 : decode prog_6_method_22_code 119 = .ok (.aload_n 0, 1) := by decide +kernel
theorem d_Md_mesh_120 : decode prog_6_method_22_code 120 = .ok (.bipush 44, 2) := by decide +kernel
theorem d_Md_mesh_122 : decode prog_6_method_22_code 122 = .ok (.invokevirtual 71, 3) := by decide +kernel
theorem d_Md_mesh_125 : decode prog_6_method_22_code 125 = .ok (.ifCond .eq 30, 3) := by decide +kernel
theorem d_Md_mesh_128 : decode prog_6_method_22_code 128 = .ok (.aload_n 0, 1) := by decide +kernel
theorem d_Md_mesh_129 : decode prog_6_method_22_code 129 = .ok (.ldc2_w 134, 3) := by decide +kernel
theorem d_Md_mesh_132 : decode prog_6_method_22_code 132 = .ok (.iload_n 2, 1) := by decide +kernel
theorem d_Md_mesh_133 : decode prog_6_method_22_code 133 = .ok (.sipush 784, 3) := by decide +kernel
theorem d_Md_mesh_136 : decode prog_6_method_22_code 136 = .ok (.iadd, 1) := by decide +kernel
theorem d_Md_mesh_137 : decode prog_6_method_22_code 137 = .ok (.iconst 2, 1) := by decide +kernel
theorem d_Md_mesh_138 : decode prog_6_method_22_code 138 = .ok (.iload_n 3, 1) := by decide +kernel
theorem d_Md_mesh_139 : decode prog_6_method_22_code 139 = .ok (.imul, 1) := by decide +kernel
theorem d_Md_mesh_140 : decode prog_6_method_22_code 140 = .ok (.iconst 2, 1) := by decide +kernel
theorem d_Md_mesh_141 : decode prog_6_method_22_code 141 = .ok (.iload_n 3, 1) := by decide +kernel
theorem d_Md_mesh_142 : decode prog_6_method_22_code 142 = .ok (.imul, 1) := by decide +kernel
theorem d_Md_mesh_143 : decode prog_6_method_22_code 143 = .ok (.iconst 1, 1) := by decide +kernel
theorem d_Md_mesh_144 : decode prog_6_method_22_code 144 = .ok (.ldc 136, 2) := by decide +kernel
theorem d_Md_mesh_146 : decode prog_6_method_22_code 146 = .ok (.ldc 137, 2) := by decide +kernel
theorem d_Md_mesh_148 : decode prog_6_method_22_code 148 = .ok (.iconst 0, 1) := by decide +kernel
theorem d_Md_mesh_149 : decode prog_6_method_22_code 149 = .ok (.invokevirtual 104, 3) := by decide +kernel
theorem d_Md_mesh_152 : decode prog_6_method_22_code 152 = .ok (.ifCond .ne 5, 3) := by decide +kernel
theorem d_Md_mesh_155 : decode prog_6_method_22_code 155 = .ok (.iconst 0, 1) := by decide +kernel
theorem d_Md_mesh_156 : decode prog_6_method_22_code 156 = .ok (.ireturn, 1) := by decide +kernel
theorem d_Md_mesh_157 : decode prog_6_method_22_code 157 = .ok (.aload_n 0, 1) := by decide +kernel
theorem d_Md_mesh_158 : decode prog_6_method_22_code 158 = .ok (.bipush 44, 2) := by decide +kernel
theorem d_Md_mesh_160 : decode prog_6_method_22_code 160 = .ok (.invokevirtual 71, 3) := by decide +kernel
theorem d_Md_mesh_163 : decode prog_6_method_22_code 163 = .ok (.ifCond .eq 28, 3) := by decide +kernel
theorem d_Md_mesh_166 : decode prog_6_method_22_code 166 = .ok (.aload_n 0, 1) := by decide +kernel
theorem d_Md_mesh_167 : decode prog_6_method_22_code 167 = .ok (.ldc2_w 138, 3) := by decide +kernel
theorem d_Md_mesh_170 : decode prog_6_method_22_code 170 = .ok (.iload_n 2, 1) := by decide +kernel
theorem d_Md_mesh_171 : decode prog_6_method_22_code 171 = .ok (.sipush 1040, 3) := by decide +kernel
theorem d_Md_mesh_174 : decode prog_6_method_22_code 174 = .ok (.iadd, 1) := by decide +kernel
theorem d_Md_mesh_175 : decode prog_6_method_22_code 175 = .ok (.iconst 3, 1) := by decide +kernel
theorem d_Md_mesh_176 : decode prog_6_method_22_code 176 = .ok (.sipush 384, 3) := by decide +kernel
theorem d_Md_mesh_179 : decode prog_6_method_22_code 179 = .ok (.iconst 3, 1) := by decide +kernel
theorem d_Md_mesh_180 : decode prog_6_method_22_code 180 = .ok (.iconst 0, 1) := by decide +kernel
theorem d_Md_mesh_181 : decode prog_6_method_22_code 181 = .ok (.iload_n 3, 1) := by decide +kernel
theorem d_Md_mesh_182 : decode prog_6_method_22_code 182 = .ok (.iconst 1, 1) := by decide +kernel
theorem d_Md_mesh_183 : decode prog_6_method_22_code 183 = .ok (.isub, 1) := by decide +kernel
theorem d_Md_mesh_184 : decode prog_6_method_22_code 184 = .ok (.iconst 0, 1) := by decide +kernel
theorem d_Md_mesh_185 : decode prog_6_method_22_code 185 = .ok (.invokevirtual 104, 3) := by decide +kernel
theorem d_Md_mesh_188 : decode prog_6_method_22_code 188 = .ok (.ifCond .ne 5, 3) := by decide +kernel
theorem d_Md_mesh_191 : decode prog_6_method_22_code 191 = .ok (.iconst 0, 1) := by decide +kernel
theorem d_Md_mesh_192 : decode prog_6_method_22_code 192 = .ok (.ireturn, 1) := by decide +kernel
theorem d_Md_mesh_193 : decode prog_6_method_22_code 193 = .ok (.aload_n 0, 1) := by decide +kernel
theorem d_Md_mesh_194 : decode prog_6_method_22_code 194 = .ok (.getfield 19, 3) := by decide +kernel
theorem d_Md_mesh_197 : decode prog_6_method_22_code 197 = .ok (.iload_n 2, 1) := by decide +kernel
theorem d_Md_mesh_198 : decode prog_6_method_22_code 198 = .ok (.iconst 2, 1) := by decide +kernel
theorem d_Md_mesh_199 : decode prog_6_method_22_code 199 = .ok (.iadd, 1) := by decide +kernel
theorem d_Md_mesh_200 : decode prog_6_method_22_code 200 = .ok (.aload_n 0, 1) := by decide +kernel
theorem d_Md_mesh_201 : decode prog_6_method_22_code 201 = .ok (.getfield 101, 3) := by decide +kernel
theorem d_Md_mesh_204 : decode prog_6_method_22_code 204 = .ok (.iconst 3, 1) := by decide +kernel
theorem d_Md_mesh_205 : decode prog_6_method_22_code 205 = .ok (.idiv, 1) := by decide +kernel
theorem d_Md_mesh_206 : decode prog_6_method_22_code 206 = .ok (.iastore, 1) := by decide +kernel
theorem d_Md_mesh_207 : decode prog_6_method_22_code 207 = .ok (.iconst 1, 1) := by decide +kernel
theorem d_Md_mesh_208 : decode prog_6_method_22_code 208 = .ok (.ireturn, 1) := by decide +kernel
theorem d_Md_node_0 : decode prog_6_method_23_code 0 = .ok (.ldc 140, 2) := by decide +kernel
theorem d_Md_node_2 : decode prog_6_method_23_code 2 = .ok (.bipush 11, 2) := by decide +kernel
theorem d_Md_node_4 : decode prog_6_method_23_code 4 = .ok (.iload_n 1, 1) := by decide +kernel
theorem d_Md_node_5 : decode prog_6_method_23_code 5 = .ok (.imul, 1) := by decide +kernel
theorem d_Md_node_6 : decode prog_6_method_23_code 6 = .ok (.iadd, 1) := by decide +kernel
theorem d_Md_node_7 : decode prog_6_method_23_code 7 = .ok (.istore_n 2, 1) := by decide +kernel
theorem d_Md_node_8 : decode prog_6_method_23_code 8 = .ok (.aload_n 0, 1) := by decide +kernel
theorem d_Md_node_9 : decode prog_6_method_23_code 9 = .ok (.ldc2_w 141, 3) := by decide +kernel
theorem d_Md_node_12 : decode prog_6_method_23_code 12 = .ok (.iload_n 2, 1) := by decide +kernel
theorem d_Md_node_13 : decode prog_6_method_23_code 13 = .ok (.iconst (-1), 1) := by decide +kernel
theorem d_Md_node_14 : decode prog_6_method_23_code 14 = .ok (.iload_n 1, 1) := by decide +kernel
theorem d_Md_node_15 : decode prog_6_method_23_code 15 = .ok (.iconst 1, 1) := by decide +kernel
theorem d_Md_node_16 : decode prog_6_method_23_code 16 = .ok (.isub, 1) := by decide +kernel
theorem d_Md_node_17 : decode prog_6_method_23_code 17 = .ok (.invokevirtual 110, 3) := by decide +kernel
theorem d_Md_node_20 : decode prog_6_method_23_code 20 = .ok (.ifCond .eq 111, 3) := by decide +kernel
theorem d_Md_node_23 : decode prog_6_method_23_code 23 = .ok (.aload_n 0, 1) := by decide +kernel
theorem d_Md_node_24 : decode prog_6_method_23_code 24 = .ok (.bipush 44, 2) := by decide +kernel
theorem d_Md_node_26 : decode prog_6_method_23_code 26 = .ok (.invokevirtual 71, 3) := by decide +kernel
theorem d_Md_node_29 : decode prog_6_method_23_code 29 = .ok (.ifCond .eq 102, 3) := by decide +kernel
theorem d_Md_node_32 : decode prog_6_method_23_code 32 = .ok (.aload_n 0, 1) := by decide +kernel
theorem d_Md_node_33 : decode prog_6_method_23_code 33 = .ok (.ldc2_w 143, 3) := by decide +kernel
theorem d_Md_node_36 : decode prog_6_method_23_code 36 = .ok (.iload_n 2, 1) := by decide +kernel
theorem d_Md_node_37 : decode prog_6_method_23_code 37 = .ok (.iconst 1, 1) := by decide +kernel
theorem d_Md_node_38 : decode prog_6_method_23_code 38 = .ok (.iadd, 1) := by decide +kernel
theorem d_Md_node_39 : decode prog_6_method_23_code 39 = .ok (.iconst (-1), 1) := by decide +kernel
theorem d_Md_node_40 : decode prog_6_method_23_code 40 = .ok (.aload_n 0, 1) := by decide +kernel
theorem d_Md_node_41 : decode prog_6_method_23_code 41 = .ok (.getfield 19, 3) := by decide +kernel
theorem d_Md_node_44 : decode prog_6_method_23_code 44 = .ok (.iconst 2, 1) := by decide +kernel
theorem d_Md_node_45 : decode prog_6_method_23_code 45 = .ok (.iaload, 1) := by decide +kernel
theorem d_Md_node_46 : decode prog_6_method_23_code 46 = .ok (.iconst 1, 1) := by decide +kernel
theorem d_Md_node_47 : decode prog_6_method_23_code 47 = .ok (.isub, 1) := by decide +kernel
theorem d_Md_node_48 : decode prog_6_method_23_code 48 = .ok (.invokevirtual 110, 3) := by decide +kernel
theorem d_Md_node_51 : decode prog_6_method_23_code 51 = .ok (.ifCond .eq 80, 3) := by decide +kernel
theorem d_Md_node_54 : decode prog_6_method_23_code 54 = .ok (.aload_n 0, 1) := by decide +kernel
theorem d_Md_node_55 : decode prog_6_method_23_code 55 = .ok (.bipush 44, 2) := by decide +kernel
theorem d_Md_node_57 : decode prog_6_method_23_code 57 = .ok (.invokevirtual 71, 3) := by decide +kernel
theorem d_Md_node_60 : decode prog_6_method_23_code 60 = .ok (.ifCond .eq 71, 3) := by decide +kernel
theorem d_Md_node_63 : decode prog_6_method_23_code 63 = .ok (.aload_n 0, 1) := by decide +kernel
theorem d_Md_node_64 : decode prog_6_method_23_code 64 = .ok (.ldc2_w 145, 3) := by decide +kernel
theorem d_Md_node_67 : decode prog_6_method_23_code 67 = .ok (.iload_n 2, 1) := by decide +kernel
theorem d_Md_node_68 : decode prog_6_method_23_code 68 = .ok (.iconst 2, 1) := by decide +kernel
theorem d_Md_node_69 : decode prog_6_method_23_code 69 = .ok (.iadd, 1) := by decide +kernel
theorem d_Md_node_70 : decode prog_6_method_23_code 70 = .ok (.ldc 147, 2) := by decide +kernel
theorem d_Md_node_72 : decode prog_6_method_23_code 72 = .ok (.invokevirtual 148, 3) := by decide +kernel
theorem d_Md_node_75 : decode prog_6_method_23_code 75 = .ok (.ifCond .eq 56, 3) := by decide +kernel
theorem d_Md_node_78 : decode prog_6_method_23_code 78 = .ok (.aload_n 0, 1) := by decide +kernel
theorem d_Md_node_79 : decode prog_6_method_23_code 79 = .ok (.bipush 44, 2) := by decide +kernel
theorem d_Md_node_81 : decode prog_6_method_23_code 81 = .ok (.invokevirtual 71, 3) := by decide +kernel
theorem d_Md_node_84 : decode prog_6_method_23_code 84 = .ok (.ifCond .eq 47, 3) := by decide +kernel
theorem d_Md_node_87 : decode prog_6_method_23_code 87 = .ok (.aload_n 0, 1) := by decide +kernel
theorem d_Md_node_88 : decode prog_6_method_23_code 88 = .ok (.ldc2_w 152, 3) := by decide +kernel
theorem d_Md_node_91 : decode prog_6_method_23_code 91 = .ok (.iload_n 2, 1) := by decide +kernel
theorem d_Md_node_92 : decode prog_6_method_23_code 92 = .ok (.iconst 5, 1) := by decide +kernel
theorem d_Md_node_93 : decode prog_6_method_23_code 93 = .ok (.iadd, 1) := by decide +kernel
theorem d_Md_node_94 : decode prog_6_method_23_code 94 = .ok (.ldc 131, 2) := by decide +kernel
theorem d_Md_node_96 : decode prog_6_method_23_code 96 = .ok (.invokevirtual 148, 3) := by decide +kernel
theorem d_Md_node_99 : decode prog_6_method_23_code 99 = .ok (.ifCond .eq 32, 3) := by decide +kernel
theorem d_Md_node_102 : decode prog_6_method_23_code 102 = .ok (.aload_n 0, 1) := by decide +kernel
theorem d_Md_node_103 : decode prog_6_method_23_code 103 = .ok (.bipush 44, 2) := by decide +kernel
theorem d_Md_node_105 : decode prog_6_method_23_code 105 = .ok (.invokevirtual 71, 3) := by decide +kernel
theorem d_Md_node_108 : decode prog_6_method_23_code 108 = .ok (.ifCond .eq 23, 3) := by decide +kernel
theorem d_Md_node_111 : decode prog_6_method_23_code 111 = .ok (.aload_n 0, 1) := by decide +kernel
theorem d_Md_node_112 : decode prog_6_method_23_code 112 = .ok (.ldc2_w 154, 3) := by decide +kernel
theorem d_Md_node_115 : decode prog_6_method_23_code 115 = .ok (.iload_n 2, 1) := by decide +kernel
theorem d_Md_node_116 : decode prog_6_method_23_code 116 = .ok (.bipush 8, 2) := by decide +kernel
theorem d_Md_node_118 : decode prog_6_method_23_code 118 = .ok (.iadd, 1) := by decide +kernel
theorem d_Md_node_119 : decode prog_6_method_23_code 119 = .ok (.ldc 131, 2) := by decide +kernel
theorem d_Md_node_121 : decode prog_6_method_23_code 121 = .ok (.invokevirtual 148, 3) := by decide +kernel
theorem d_Md_node_124 : decode prog_6_method_23_code 124 = .ok (.ifCond .eq 7, 3) := by decide +kernel
theorem d_Md_node_127 : decode prog_6_method_23_code 127 = .ok (.iconst 1, 1) := by decide +kernel
theorem d_Md_node_128 : decode prog_6_method_23_code 128 = .ok (.goto 4, 3) := by decide +kernel
theorem d_Md_node_131 : decode prog_6_method_23_code 131 = .ok (.iconst 0, 1) := by decide +kernel
theorem d_Md_node_132 : decode prog_6_method_23_code 132 = .ok (.ireturn, 1) := by decide +kernel
theorem d_Md_track_0 : decode prog_6_method_24_code 0 = .ok (.ldc 156, 2) := by decide +kernel
theorem d_Md_track_2 : decode prog_6_method_24_code 2 = .ok (.sipush 134, 3) := by decide +kernel
theorem d_Md_track_5 : decode prog_6_method_24_code 5 = .ok (.iload_n 1, 1) := by decide +kernel
theorem d_Md_track_6 : decode prog_6_method_24_code 6 = .ok (.imul, 1) := by decide +kernel
theorem d_Md_track_7 : decode prog_6_method_24_code 7 = .ok (.iadd, 1) := by decide +kernel
theorem d_Md_track_8 : decode prog_6_method_24_code 8 = .ok (.istore_n 2, 1) := by decide +kernel
theorem d_Md_track_9 : decode prog_6_method_24_code 9 = .ok (.aload_n 0, 1) := by decide +kernel
theorem d_Md_track_10 : decode prog_6_method_24_code 10 = .ok (.ldc2_w 157, 3) := by decide +kernel
theorem d_Md_track_13 : decode prog_6_method_24_code 13 = .ok (.iload_n 2, 1) := by decide +kernel
theorem d_Md_track_14 : decode prog_6_method_24_code 14 = .ok (.iconst 0, 1) := by decide +kernel
theorem d_Md_track_15 : decode prog_6_method_24_code 15 = .ok (.aload_n 0, 1) := by decide +kernel
theorem d_Md_track_16 : decode prog_6_method_24_code 16 = .ok (.getfield 19, 3) := by decide +kernel
theorem d_Md_track_19 : decode prog_6_method_24_code 19 = .ok (.iconst 3, 1) := by decide +kernel
theorem d_Md_track_20 : decode prog_6_method_24_code 20 = .ok (.iaload, 1) := by decide +kernel
theorem d_Md_track_21 : decode prog_6_method_24_code 21 = .ok (.iconst 1, 1) := by decide +kernel
theorem d_Md_track_22 : decode prog_6_method_24_code 22 = .ok (.isub, 1) := by decide +kernel
theorem d_Md_track_23 : decode prog_6_method_24_code 23 = .ok (.invokevirtual 110, 3) := by decide +kernel
theorem d_Md_track_26 : decode prog_6_method_24_code 26 = .ok (.ifCond .eq 81, 3) := by decide +kernel
theorem d_Md_track_29 : decode prog_6_method_24_code 29 = .ok (.aload_n 0, 1) := by decide +kernel
theorem d_Md_track_30 : decode prog_6_method_24_code 30 = .ok (.bipush 44, 2) := by decide +kernel
theorem d_Md_track_32 : decode prog_6_method_24_code 32 = .ok (.invokevirtual 71, 3) := by decide +kernel
theorem d_Md_track_35 : decode prog_6_method_24_code 35 = .ok (.ifCond .eq 72, 3) := by decide +kernel
theorem d_Md_track_38 : decode prog_6_method_24_code 38 = .ok (.aload_n 0, 1) := by decide +kernel
theorem d_Md_track_39 : decode prog_6_method_24_code 39 = .ok (.ldc2_w 159, 3) := by decide +kernel
theorem d_Md_track_42 : decode prog_6_method_24_code 42 = .ok (.iload_n 2, 1) := by decide +kernel
theorem d_Md_track_43 : decode prog_6_method_24_code 43 = .ok (.iconst 1, 1) := by decide +kernel
theorem d_Md_track_44 : decode prog_6_method_24_code 44 = .ok (.iadd, 1) := by decide +kernel
theorem d_Md_track_45 : decode prog_6_method_24_code 45 = .ok (.iconst 0, 1) := by decide +kernel
theorem d_Md_track_46 : decode prog_6_method_24_code 46 = .ok (.iconst 2, 1) := by decide +kernel
theorem d_Md_track_47 : decode prog_6_method_24_code 47 = .ok (.invokevirtual 110, 3) := by decide +kernel
theorem d_Md_track_50 : decode prog_6_method_24_code 50 = .ok (.ifCond .eq 57, 3) := by decide +kernel
theorem d_Md_track_53 : decode prog_6_method_24_code 53 = .ok (.aload_n 0, 1) := by decide +kernel
theorem d_Md_track_54 : decode prog_6_method_24_code 54 = .ok (.bipush 44, 2) := by decide +kernel
theorem d_Md_track_56 : decode prog_6_method_24_code 56 = .ok (.invokevirtual 71, 3) := by decide +kernel
theorem d_Md_track_59 : decode prog_6_method_24_code 59 = .ok (.ifCond .eq 48, 3) := by decide +kernel
theorem d_Md_track_62 : decode prog_6_method_24_code 62 = .ok (.aload_n 0, 1) := by decide +kernel
theorem d_Md_track_63 : decode prog_6_method_24_code 63 = .ok (.ldc2_w 161, 3) := by decide +kernel
theorem d_Md_track_66 : decode prog_6_method_24_code 66 = .ok (.iload_n 2, 1) := by decide +kernel
theorem d_Md_track_67 : decode prog_6_method_24_code 67 = .ok (.iconst 2, 1) := by decide +kernel
theorem d_Md_track_68 : decode prog_6_method_24_code 68 = .ok (.iadd, 1) := by decide +kernel
theorem d_Md_track_69 : decode prog_6_method_24_code 69 = .ok (.iconst 0, 1) := by decide +kernel
theorem d_Md_track_70 : decode prog_6_method_24_code 70 = .ok (.iconst 2, 1) := by decide +kernel
theorem d_Md_track_71 : decode prog_6_method_24_code 71 = .ok (.invokevirtual 110, 3) := by decide +kernel
theorem d_Md_track_74 : decode prog_6_method_24_code 74 = .ok (.ifCond .eq 33, 3) := by decide +kernel
theorem d_Md_track_77 : decode prog_6_method_24_code 77 = .ok (.aload_n 0, 1) := by decide +kernel
theorem d_Md_track_78 : decode prog_6_method_24_code 78 = .ok (.bipush 44, 2) := by decide +kernel
theorem d_Md_track_80 : decode prog_6_method_24_code 80 = .ok (.invokevirtual 71, 3) := by decide +kernel
theorem d_Md_track_83 : decode prog_6_method_24_code 83 = .ok (.ifCond .eq 24, 3) := by decide +kernel
theorem d_Md_track_86 : decode prog_6_method_24_code 86 = .ok (.aload_n 0, 1) := by decide +kernel
theorem d_Md_track_87 : decode prog_6_method_24_code 87 = .ok (.ldc2_w 163, 3) := by decide +kernel
theorem d_Md_track_90 : decode prog_6_method_24_code 90 = .ok (.iload_n 2, 1) := by decide +kernel
theorem d_Md_track_91 : decode prog_6_method_24_code 91 = .ok (.iconst 4, 1) := by decide +kernel
theorem d_Md_track_92 : decode prog_6_method_24_code 92 = .ok (.iadd, 1) := by decide +kernel
theorem d_Md_track_93 : decode prog_6_method_24_code 93 = .ok (.iconst 1, 1) := by decide +kernel
theorem d_Md_track_94 : decode prog_6_method_24_code 94 = .ok (.bipush 32, 2) := by decide +kernel
theorem d_Md_track_96 : decode prog_6_method_24_code 96 = .ok (.iconst 1, 1) := by decide +kernel
theorem d_Md_track_97 : decode prog_6_method_24_code 97 = .ok (.iconst 0, 1) := by decide +kernel
theorem d_Md_track_98 : decode prog_6_method_24_code 98 = .ok (.ldc 165, 2) := by decide +kernel
theorem d_Md_track_100 : decode prog_6_method_24_code 100 = .ok (.iconst 1, 1) := by decide +kernel
theorem d_Md_track_101 : decode prog_6_method_24_code 101 = .ok (.invokevirtual 104, 3) := by decide +kernel
theorem d_Md_track_104 : decode prog_6_method_24_code 104 = .ok (.ifCond .ne 5, 3) := by decide +kernel
theorem d_Md_track_107 : decode prog_6_method_24_code 107 = .ok (.iconst 0, 1) := by decide +kernel
theorem d_Md_track_108 : decode prog_6_method_24_code 108 = .ok (.ireturn, 1) := by decide +kernel
theorem d_Md_track_109 : decode prog_6_method_24_code 109 = .ok (.aload_n 0, 1) := by decide +kernel
theorem d_Md_track_110 : decode prog_6_method_24_code 110 = .ok (.getfield 101, 3) := by decide +kernel
theorem d_Md_track_113 : decode prog_6_method_24_code 113 = .ok (.istore_n 3, 1) := by decide +kernel
theorem d_Md_track_114 : decode prog_6_method_24_code 114 = .ok (.aload_n 0, 1) := by decide +kernel
theorem d_Md_track_115 : decode prog_6_method_24_code 115 = .ok (.getfield 19, 3) := by decide +kernel
theorem d_Md_track_118 : decode prog_6_method_24_code 118 = .ok (.iload_n 2, 1) := by decide +kernel
theorem d_Md_track_119 : decode prog_6_method_24_code 119 = .ok (.iconst 3, 1) := by decide +kernel
theorem d_Md_track_120 : decode prog_6_method_24_code 120 = .ok (.iadd, 1) := by decide +kernel
theorem d_Md_track_121 : decode prog_6_method_24_code 121 = .ok (.iload_n 3, 1) := by decide +kernel
theorem d_Md_track_122 : decode prog_6_method_24_code 122 = .ok (.iastore, 1) := by decide +kernel
theorem d_Md_track_123 : decode prog_6_method_24_code 123 = .ok (.aload_n 0, 1) := by decide +kernel
theorem d_Md_track_124 : decode prog_6_method_24_code 124 = .ok (.getfield 19, 3) := by decide +kernel
theorem d_Md_track_127 : decode prog_6_method_24_code 127 = .ok (.iload_n 2, 1) := by decide +kernel
theorem d_Md_track_128 : decode prog_6_method_24_code 128 = .ok (.iconst 1, 1) := by decide +kernel
theorem d_Md_track_129 : decode prog_6_method_24_code 129 = .ok (.iadd, 1) := by decide +kernel
theorem d_Md_track_130 : decode prog_6_method_24_code 130 = .ok (.iaload, 1) := by decide +kernel
theorem d_Md_track_131 : decode prog_6_method_24_code 131 = .ok (.ifCond .ne 8, 3) := by decide +kernel
theorem d_Md_track_134 : decode prog_6_method_24_code 134 = .ok (.ldc 147, 2) := by decide +kernel
theorem d_Md_track_136 : decode prog_6_method_24_code 136 = .ok (.goto 5, 3) := by decide +kernel
theorem d_Md_track_139 : decode prog_6_method_24_code 139 = .ok (.ldc 131, 2) := by decide +kernel
theorem d_Md_track_141 : decode prog_6_method_24_code 141 = .ok (.istore 4, 2) := by decide +kernel
theorem d_Md_track_143 : decode prog_6_method_24_code 143 = .ok (.aload_n 0, 1) := by decide +kernel
theorem d_Md_track_144 : decode prog_6_method_24_code 144 = .ok (.bipush 44, 2) := by decide +kernel
theorem d_Md_track_146 : decode prog_6_method_24_code 146 = .ok (.invokevirtual 71, 3) := by decide +kernel
theorem d_Md_track_149 : decode prog_6_method_24_code 149 = .ok (.ifCond .eq 34, 3) := by decide +kernel
theorem d_Md_track_152 : decode prog_6_method_24_code 152 = .ok (.aload_n 0, 1) := by decide +kernel
theorem d_Md_track_153 : decode prog_6_method_24_code 153 = .ok (.ldc2_w 166, 3) := by decide +kernel
theorem d_Md_track_156 : decode prog_6_method_24_code 156 = .ok (.iload_n 2, 1) := by decide +kernel
theorem d_Md_track_157 : decode prog_6_method_24_code 157 = .ok (.bipush 36, 2) := by decide +kernel
theorem d_Md_track_159 : decode prog_6_method_24_code 159 = .ok (.iadd, 1) := by decide +kernel
theorem d_Md_track_160 : decode prog_6_method_24_code 160 = .ok (.iconst 3, 1) := by decide +kernel
theorem d_Md_track_161 : decode prog_6_method_24_code 161 = .ok (.iload_n 3, 1) := by decide +kernel
theorem d_Md_track_162 : decode prog_6_method_24_code 162 = .ok (.imul, 1) := by decide +kernel
theorem d_Md_track_163 : decode prog_6_method_24_code 163 = .ok (.iconst 3, 1) := by decide +kernel
theorem d_Md_track_164 : decode prog_6_method_24_code 164 = .ok (.iload_n 3, 1) := by decide +kernel
theorem d_Md_track_165 : decode prog_6_method_24_code 165 = .ok (.imul, 1) := by decide +kernel
theorem d_Md_track_166 : decode prog_6_method_24_code 166 = .ok (.iconst 1, 1) := by decide +kernel
theorem d_Md_track_167 : decode prog_6_method_24_code 167 = .ok (.iload 4, 2) := by decide +kernel
theorem d_Md_track_169 : decode prog_6_method_24_code 169 = .ok (.ineg, 1) := by decide +kernel
theorem d_Md_track_170 : decode prog_6_method_24_code 170 = .ok (.iload 4, 2) := by decide +kernel
theorem d_Md_track_172 : decode prog_6_method_24_code 172 = .ok (.iconst 0, 1) := by decide +kernel
theorem d_Md_track_173 : decode prog_6_method_24_code 173 = .ok (.invokevirtual 104, 3) := by decide +kernel
theorem d_Md_track_176 : decode prog_6_method_24_code 176 = .ok (.ifCond .eq 7, 3) := by decide +kernel
theorem d_Md_track_179 : decode prog_6_method_24_code 179 = .ok (.iconst 1, 1) := by decide +kernel
theorem d_Md_track_180 : decode prog_6_method_24_code 180 = .ok (.goto 4, 3) := by decide +kernel
theorem d_Md_track_183 : decode prog_6_method_24_code 183 = .ok (.iconst 0, 1) := by decide +kernel
theorem d_Md_track_184 : decode prog_6_method_24_code 184 = .ok (.ireturn, 1) := by decide +kernel
theorem d_Md_error_0 : decode prog_6_method_33_code 0 = .ok (.aload_n 0, 1) := by decide +kernel
theorem d_Md_error_1 : decode prog_6_method_33_code 1 = .ok (.iconst 0, 1) := by decide +kernel
theorem d_Md_error_2 : decode prog_6_method_33_code 2 = .ok (.putfield 25, 3) := by decide +kernel
theorem d_Md_error_5 : decode prog_6_method_33_code 5 = .ok (.iload_n 1, 1) := by decide +kernel
theorem d_Md_error_6 : decode prog_6_method_33_code 6 = .ok (.ifCond .ne 10, 3) := by decide +kernel
theorem d_Md_error_9 : decode prog_6_method_33_code 9 = .ok (.aload_n 0, 1) := by decide +kernel
theorem d_Md_error_10 : decode prog_6_method_33_code 10 = .ok (.getfield 36, 3) := by decide +kernel
theorem d_Md_error_13 : decode prog_6_method_33_code 13 = .ok (.goto 16, 3) := by decide +kernel
theorem d_Md_error_16 : decode prog_6_method_33_code 16 = .ok (.iload_n 1, 1) := by decide +kernel
theorem d_Md_error_17 : decode prog_6_method_33_code 17 = .ok (.iconst 1, 1) := by decide +kernel
theorem d_Md_error_18 : decode prog_6_method_33_code 18 = .ok (.if_icmp .ne 10, 3) := by decide +kernel
theorem d_Md_error_21 : decode prog_6_method_33_code 21 = .ok (.aload_n 0, 1) := by decide +kernel
theorem d_Md_error_22 : decode prog_6_method_33_code 22 = .ok (.getfield 39, 3) := by decide +kernel
theorem d_Md_error_25 : decode prog_6_method_33_code 25 = .ok (.goto 4, 3) := by decide +kernel
theorem d_Md_error_28 : decode prog_6_method_33_code 28 = .ok (.iconst 0, 1) := by decide +kernel
theorem d_Md_error_29 : decode prog_6_method_33_code 29 = .ok (.ireturn, 1) := by decide +kernel
theorem d_Md_count_0 : decode prog_6_method_34_code 0 = .ok (.aload_n 0, 1) := by decide +kernel
theorem d_Md_count_1 : decode prog_6_method_34_code 1 = .ok (.iconst 0, 1) := by decide +kernel
theorem d_Md_count_2 : decode prog_6_method_34_code 2 = .ok (.putfield 25, 3) := by decide +kernel
theorem d_Md_count_5 : decode prog_6_method_34_code 5 = .ok (.iload_n 1, 1) := by decide +kernel
theorem d_Md_count_6 : decode prog_6_method_34_code 6 = .ok (.ifCond .lt 17, 3) := by decide +kernel
theorem d_Md_count_9 : decode prog_6_method_34_code 9 = .ok (.iload_n 1, 1) := by decide +kernel
theorem d_Md_count_10 : decode prog_6_method_34_code 10 = .ok (.iconst 5, 1) := by decide +kernel
theorem d_Md_count_11 : decode prog_6_method_34_code 11 = .ok (.if_icmp .ge 12, 3) := by decide +kernel
theorem d_Md_count_14 : decode prog_6_method_34_code 14 = .ok (.aload_n 0, 1) := by decide +kernel
theorem d_Md_count_15 : decode prog_6_method_34_code 15 = .ok (.getfield 15, 3) := by decide +kernel
theorem d_Md_count_18 : decode prog_6_method_34_code 18 = .ok (.iload_n 1, 1) := by decide +kernel
theorem d_Md_count_19 : decode prog_6_method_34_code 19 = .ok (.iaload, 1) := by decide +kernel
theorem d_Md_count_20 : decode prog_6_method_34_code 20 = .ok (.goto 4, 3) := by decide +kernel
theorem d_Md_count_23 : decode prog_6_method_34_code 23 = .ok (.iconst (-1), 1) := by decide +kernel
theorem d_Md_count_24 : decode prog_6_method_34_code 24 = .ok (.ireturn, 1) := by decide +kernel
theorem d_Md_about_0 : decode prog_6_method_36_code 0 = .ok (.aload_n 0, 1) := by decide +kernel
theorem d_Md_about_1 : decode prog_6_method_36_code 1 = .ok (.iconst 0, 1) := by decide +kernel
theorem d_Md_about_2 : decode prog_6_method_36_code 2 = .ok (.putfield 25, 3) := by decide +kernel
theorem d_Md_about_5 : decode prog_6_method_36_code 5 = .ok (.aload_n 0, 1) := by decide +kernel
theorem d_Md_about_6 : decode prog_6_method_36_code 6 = .ok (.iload_n 1, 1) := by decide +kernel
theorem d_Md_about_7 : decode prog_6_method_36_code 7 = .ok (.iload_n 2, 1) := by decide +kernel
theorem d_Md_about_8 : decode prog_6_method_36_code 8 = .ok (.invokevirtual 228, 3) := by decide +kernel
theorem d_Md_about_11 : decode prog_6_method_36_code 11 = .ok (.ifCond .eq 7, 3) := by decide +kernel
theorem d_Md_about_14 : decode prog_6_method_36_code 14 = .ok (.iload_n 3, 1) := by decide +kernel
theorem d_Md_about_15 : decode prog_6_method_36_code 15 = .ok (.ifCond .ge 5, 3) := by decide +kernel
theorem d_Md_about_18 : decode prog_6_method_36_code 18 = .ok (.iconst 0, 1) := by decide +kernel
theorem d_Md_about_19 : decode prog_6_method_36_code 19 = .ok (.ireturn, 1) := by decide +kernel
theorem d_Md_about_20 : decode prog_6_method_36_code 20 = .ok (.iload_n 1, 1) := by decide +kernel
theorem d_Md_about_21 : decode prog_6_method_36_code 21 = .ok (.tableswitch 133 0 3 #[31, 56, 82, 108], 31) := by decide +kernel
theorem d_Md_about_52 : decode prog_6_method_36_code 52 = .ok (.iload_n 3, 1) := by decide +kernel
theorem d_Md_about_53 : decode prog_6_method_36_code 53 = .ok (.iconst 3, 1) := by decide +kernel
theorem d_Md_about_54 : decode prog_6_method_36_code 54 = .ok (.if_icmp .ge 21, 3) := by decide +kernel
theorem d_Md_about_57 : decode prog_6_method_36_code 57 = .ok (.aload_n 0, 1) := by decide +kernel
theorem d_Md_about_58 : decode prog_6_method_36_code 58 = .ok (.getfield 15, 3) := by decide +kernel
theorem d_Md_about_61 : decode prog_6_method_36_code 61 = .ok (.bipush 8, 2) := by decide +kernel
theorem d_Md_about_63 : decode prog_6_method_36_code 63 = .ok (.sipush 3080, 3) := by decide +kernel
theorem d_Md_about_66 : decode prog_6_method_36_code 66 = .ok (.iload_n 2, 1) := by decide +kernel
theorem d_Md_about_67 : decode prog_6_method_36_code 67 = .ok (.imul, 1) := by decide +kernel
theorem d_Md_about_68 : decode prog_6_method_36_code 68 = .ok (.iadd, 1) := by decide +kernel
theorem d_Md_about_69 : decode prog_6_method_36_code 69 = .ok (.iload_n 3, 1) := by decide +kernel
theorem d_Md_about_70 : decode prog_6_method_36_code 70 = .ok (.iadd, 1) := by decide +kernel
theorem d_Md_about_71 : decode prog_6_method_36_code 71 = .ok (.iaload, 1) := by decide +kernel
theorem d_Md_about_72 : decode prog_6_method_36_code 72 = .ok (.goto 4, 3) := by decide +kernel
theorem d_Md_about_75 : decode prog_6_method_36_code 75 = .ok (.iconst 0, 1) := by decide +kernel
theorem d_Md_about_76 : decode prog_6_method_36_code 76 = .ok (.ireturn, 1) := by decide +kernel
theorem d_Md_about_77 : decode prog_6_method_36_code 77 = .ok (.iload_n 3, 1) := by decide +kernel
theorem d_Md_about_78 : decode prog_6_method_36_code 78 = .ok (.bipush 6, 2) := by decide +kernel
theorem d_Md_about_80 : decode prog_6_method_36_code 80 = .ok (.if_icmp .ge 21, 3) := by decide +kernel
theorem d_Md_about_83 : decode prog_6_method_36_code 83 = .ok (.aload_n 0, 1) := by decide +kernel
theorem d_Md_about_84 : decode prog_6_method_36_code 84 = .ok (.getfield 15, 3) := by decide +kernel
theorem d_Md_about_87 : decode prog_6_method_36_code 87 = .ok (.sipush 24648, 3) := by decide +kernel
theorem d_Md_about_90 : decode prog_6_method_36_code 90 = .ok (.bipush 8, 2) := by decide +kernel
theorem d_Md_about_92 : decode prog_6_method_36_code 92 = .ok (.iload_n 2, 1) := by decide +kernel
theorem d_Md_about_93 : decode prog_6_method_36_code 93 = .ok (.imul, 1) := by decide +kernel
theorem d_Md_about_94 : decode prog_6_method_36_code 94 = .ok (.iadd, 1) := by decide +kernel
theorem d_Md_about_95 : decode prog_6_method_36_code 95 = .ok (.iload_n 3, 1) := by decide +kernel
theorem d_Md_about_96 : decode prog_6_method_36_code 96 = .ok (.iadd, 1) := by decide +kernel
theorem d_Md_about_97 : decode prog_6_method_36_code 97 = .ok (.iaload, 1) := by decide +kernel
theorem d_Md_about_98 : decode prog_6_method_36_code 98 = .ok (.goto 4, 3) := by decide +kernel
theorem d_Md_about_101 : decode prog_6_method_36_code 101 = .ok (.iconst 0, 1) := by decide +kernel
theorem d_Md_about_102 : decode prog_6_method_36_code 102 = .ok (.ireturn, 1) := by decide +kernel
theorem d_Md_about_103 : decode prog_6_method_36_code 103 = .ok (.iload_n 3, 1) := by decide +kernel
theorem d_Md_about_104 : decode prog_6_method_36_code 104 = .ok (.iconst 3, 1) := by decide +kernel
theorem d_Md_about_105 : decode prog_6_method_36_code 105 = .ok (.if_icmp .ge 22, 3) := by decide +kernel
theorem d_Md_about_108 : decode prog_6_method_36_code 108 = .ok (.aload_n 0, 1) := by decide +kernel
theorem d_Md_about_109 : decode prog_6_method_36_code 109 = .ok (.getfield 15, 3) := by decide +kernel
theorem d_Md_about_112 : decode prog_6_method_36_code 112 = .ok (.sipush 24776, 3) := by decide +kernel
theorem d_Md_about_115 : decode prog_6_method_36_code 115 = .ok (.sipush 1440, 3) := by decide +kernel
theorem d_Md_about_118 : decode prog_6_method_36_code 118 = .ok (.iload_n 2, 1) := by decide +kernel
theorem d_Md_about_119 : decode prog_6_method_36_code 119 = .ok (.imul, 1) := by decide +kernel
theorem d_Md_about_120 : decode prog_6_method_36_code 120 = .ok (.iadd, 1) := by decide +kernel
theorem d_Md_about_121 : decode prog_6_method_36_code 121 = .ok (.iload_n 3, 1) := by decide +kernel
theorem d_Md_about_122 : decode prog_6_method_36_code 122 = .ok (.iadd, 1) := by decide +kernel
theorem d_Md_about_123 : decode prog_6_method_36_code 123 = .ok (.iaload, 1) := by decide +kernel
theorem d_Md_about_124 : decode prog_6_method_36_code 124 = .ok (.goto 4, 3) := by decide +kernel
theorem d_Md_about_127 : decode prog_6_method_36_code 127 = .ok (.iconst 0, 1) := by decide +kernel
theorem d_Md_about_128 : decode prog_6_method_36_code 128 = .ok (.ireturn, 1) := by decide +kernel
theorem d_Md_about_129 : decode prog_6_method_36_code 129 = .ok (.iload_n 3, 1) := by decide +kernel
theorem d_Md_about_130 : decode prog_6_method_36_code 130 = .ok (.bipush 11, 2) := by decide +kernel
theorem d_Md_about_132 : decode prog_6_method_36_code 132 = .ok (.if_icmp .ge 20, 3) := by decide +kernel
theorem d_Md_about_135 : decode prog_6_method_36_code 135 = .ok (.aload_n 0, 1) := by decide +kernel
theorem d_Md_about_136 : decode prog_6_method_36_code 136 = .ok (.getfield 15, 3) := by decide +kernel
theorem d_Md_about_139 : decode prog_6_method_36_code 139 = .ok (.ldc 140, 2) := by decide +kernel
theorem d_Md_about_141 : decode prog_6_method_36_code 141 = .ok (.bipush 11, 2) := by decide +kernel
theorem d_Md_about_143 : decode prog_6_method_36_code 143 = .ok (.iload_n 2, 1) := by decide +kernel
theorem d_Md_about_144 : decode prog_6_method_36_code 144 = .ok (.imul, 1) := by decide +kernel
theorem d_Md_about_145 : decode prog_6_method_36_code 145 = .ok (.iadd, 1) := by decide +kernel
theorem d_Md_about_146 : decode prog_6_method_36_code 146 = .ok (.iload_n 3, 1) := by decide +kernel
theorem d_Md_about_147 : decode prog_6_method_36_code 147 = .ok (.iadd, 1) := by decide +kernel
theorem d_Md_about_148 : decode prog_6_method_36_code 148 = .ok (.iaload, 1) := by decide +kernel
theorem d_Md_about_149 : decode prog_6_method_36_code 149 = .ok (.goto 4, 3) := by decide +kernel
theorem d_Md_about_152 : decode prog_6_method_36_code 152 = .ok (.iconst 0, 1) := by decide +kernel
theorem d_Md_about_153 : decode prog_6_method_36_code 153 = .ok (.ireturn, 1) := by decide +kernel
theorem d_Md_about_154 : decode prog_6_method_36_code 154 = .ok (.iload_n 3, 1) := by decide +kernel
theorem d_Md_about_155 : decode prog_6_method_36_code 155 = .ok (.iconst 4, 1) := by decide +kernel
theorem d_Md_about_156 : decode prog_6_method_36_code 156 = .ok (.if_icmp .ge 21, 3) := by decide +kernel
theorem d_Md_about_159 : decode prog_6_method_36_code 159 = .ok (.aload_n 0, 1) := by decide +kernel
theorem d_Md_about_160 : decode prog_6_method_36_code 160 = .ok (.getfield 15, 3) := by decide +kernel
theorem d_Md_about_163 : decode prog_6_method_36_code 163 = .ok (.ldc 156, 2) := by decide +kernel
theorem d_Md_about_165 : decode prog_6_method_36_code 165 = .ok (.sipush 134, 3) := by decide +kernel
theorem d_Md_about_168 : decode prog_6_method_36_code 168 = .ok (.iload_n 2, 1) := by decide +kernel
theorem d_Md_about_169 : decode prog_6_method_36_code 169 = .ok (.imul, 1) := by decide +kernel
theorem d_Md_about_170 : decode prog_6_method_36_code 170 = .ok (.iadd, 1) := by decide +kernel
theorem d_Md_about_171 : decode prog_6_method_36_code 171 = .ok (.iload_n 3, 1) := by decide +kernel
theorem d_Md_about_172 : decode prog_6_method_36_code 172 = .ok (.iadd, 1) := by decide +kernel
theorem d_Md_about_173 : decode prog_6_method_36_code 173 = .ok (.iaload, 1) := by decide +kernel
theorem d_Md_about_174 : decode prog_6_method_36_code 174 = .ok (.goto 4, 3) := by decide +kernel
theorem d_Md_about_177 : decode prog_6_method_36_code 177 = .ok (.iconst 0, 1) := by decide +kernel
theorem d_Md_about_178 : decode prog_6_method_36_code 178 = .ok (.ireturn, 1) := by decide +kernel
theorem d_Md_is_0 : decode prog_6_method_35_code 0 = .ok (.iload_n 1, 1) := by decide +kernel
theorem d_Md_is_1 : decode prog_6_method_35_code 1 = .ok (.ifCond .lt 26, 3) := by decide +kernel
theorem d_Md_is_4 : decode prog_6_method_35_code 4 = .ok (.iload_n 1, 1) := by decide +kernel
theorem d_Md_is_5 : decode prog_6_method_35_code 5 = .ok (.iconst 5, 1) := by decide +kernel
theorem d_Md_is_6 : decode prog_6_method_35_code 6 = .ok (.if_icmp .ge 21, 3) := by decide +kernel
theorem d_Md_is_9 : decode prog_6_method_35_code 9 = .ok (.iload_n 2, 1) := by decide +kernel
theorem d_Md_is_10 : decode prog_6_method_35_code 10 = .ok (.ifCond .lt 17, 3) := by decide +kernel
theorem d_Md_is_13 : decode prog_6_method_35_code 13 = .ok (.iload_n 2, 1) := by decide +kernel
theorem d_Md_is_14 : decode prog_6_method_35_code 14 = .ok (.aload_n 0, 1) := by decide +kernel
theorem d_Md_is_15 : decode prog_6_method_35_code 15 = .ok (.getfield 15, 3) := by decide +kernel
theorem d_Md_is_18 : decode prog_6_method_35_code 18 = .ok (.iload_n 1, 1) := by decide +kernel
theorem d_Md_is_19 : decode prog_6_method_35_code 19 = .ok (.iaload, 1) := by decide +kernel
theorem d_Md_is_20 : decode prog_6_method_35_code 20 = .ok (.if_icmp .ge 7, 3) := by decide +kernel
theorem d_Md_is_23 : decode prog_6_method_35_code 23 = .ok (.iconst 1, 1) := by decide +kernel
theorem d_Md_is_24 : decode prog_6_method_35_code 24 = .ok (.goto 4, 3) := by decide +kernel
theorem d_Md_is_27 : decode prog_6_method_35_code 27 = .ok (.iconst 0, 1) := by decide +kernel
theorem d_Md_is_28 : decode prog_6_method_35_code 28 = .ok (.ireturn, 1) := by decide +kernel
theorem d_Md_at_0 : decode prog_6_method_37_code 0 = .ok (.aload_n 0, 1) := by decide +kernel
theorem d_Md_at_1 : decode prog_6_method_37_code 1 = .ok (.iconst 0, 1) := by decide +kernel
theorem d_Md_at_2 : decode prog_6_method_37_code 2 = .ok (.putfield 25, 3) := by decide +kernel
theorem d_Md_at_5 : decode prog_6_method_37_code 5 = .ok (.aload_n 0, 1) := by decide +kernel
theorem d_Md_at_6 : decode prog_6_method_37_code 6 = .ok (.iload_n 1, 1) := by decide +kernel
theorem d_Md_at_7 : decode prog_6_method_37_code 7 = .ok (.iload_n 2, 1) := by decide +kernel
theorem d_Md_at_8 : decode prog_6_method_37_code 8 = .ok (.invokevirtual 228, 3) := by decide +kernel
theorem d_Md_at_11 : decode prog_6_method_37_code 11 = .ok (.ifCond .eq 8, 3) := by decide +kernel
theorem d_Md_at_14 : decode prog_6_method_37_code 14 = .ok (.iload 4, 2) := by decide +kernel
theorem d_Md_at_16 : decode prog_6_method_37_code 16 = .ok (.ifCond .ge 5, 3) := by decide +kernel
theorem d_Md_at_19 : decode prog_6_method_37_code 19 = .ok (.iconst 0, 1) := by decide +kernel
theorem d_Md_at_20 : decode prog_6_method_37_code 20 = .ok (.ireturn, 1) := by decide +kernel
theorem d_Md_at_21 : decode prog_6_method_37_code 21 = .ok (.iload_n 1, 1) := by decide +kernel
theorem d_Md_at_22 : decode prog_6_method_37_code 22 = .ok (.ifCond .ne 57, 3) := by decide +kernel
theorem d_Md_at_25 : decode prog_6_method_37_code 25 = .ok (.bipush 8, 2) := by decide +kernel
theorem d_Md_at_27 : decode prog_6_method_37_code 27 = .ok (.sipush 3080, 3) := by decide +kernel
theorem d_Md_at_30 : decode prog_6_method_37_code 30 = .ok (.iload_n 2, 1) := by decide +kernel
theorem d_Md_at_31 : decode prog_6_method_37_code 31 = .ok (.imul, 1) := by decide +kernel
theorem d_Md_at_32 : decode prog_6_method_37_code 32 = .ok (.iadd, 1) := by decide +kernel
theorem d_Md_at_33 : decode prog_6_method_37_code 33 = .ok (.istore 5, 2) := by decide +kernel
theorem d_Md_at_35 : decode prog_6_method_37_code 35 = .ok (.iload_n 3, 1) := by decide +kernel
theorem d_Md_at_36 : decode prog_6_method_37_code 36 = .ok (.ifCond .ne 41, 3) := by decide +kernel
theorem d_Md_at_39 : decode prog_6_method_37_code 39 = .ok (.iload 4, 2) := by decide +kernel
theorem d_Md_at_41 : decode prog_6_method_37_code 41 = .ok (.iconst 3, 1) := by decide +kernel
theorem d_Md_at_42 : decode prog_6_method_37_code 42 = .ok (.aload_n 0, 1) := by decide +kernel
theorem d_Md_at_43 : decode prog_6_method_37_code 43 = .ok (.getfield 15, 3) := by decide +kernel
theorem d_Md_at_46 : decode prog_6_method_37_code 46 = .ok (.iload 5, 2) := by decide +kernel
theorem d_Md_at_48 : decode prog_6_method_37_code 48 = .ok (.iaload, 1) := by decide +kernel
theorem d_Md_at_49 : decode prog_6_method_37_code 49 = .ok (.imul, 1) := by decide +kernel
theorem d_Md_at_50 : decode prog_6_method_37_code 50 = .ok (.aload_n 0, 1) := by decide +kernel
theorem d_Md_at_51 : decode prog_6_method_37_code 51 = .ok (.getfield 15, 3) := by decide +kernel
theorem d_Md_at_54 : decode prog_6_method_37_code 54 = .ok (.iload 5, 2) := by decide +kernel
theorem d_Md_at_56 : decode prog_6_method_37_code 56 = .ok (.iaload, 1) := by decide +kernel
theorem d_Md_at_57 : decode prog_6_method_37_code 57 = .ok (.imul, 1) := by decide +kernel
theorem d_Md_at_58 : decode prog_6_method_37_code 58 = .ok (.if_icmp .ge 19, 3) := by decide +kernel
theorem d_Md_at_61 : decode prog_6_method_37_code 61 = .ok (.aload_n 0, 1) := by decide +kernel
theorem d_Md_at_62 : decode prog_6_method_37_code 62 = .ok (.getfield 15, 3) := by decide +kernel
theorem d_Md_at_65 : decode prog_6_method_37_code 65 = .ok (.iload 5, 2) := by decide +kernel
theorem d_Md_at_67 : decode prog_6_method_37_code 67 = .ok (.bipush 8, 2) := by decide +kernel
theorem d_Md_at_69 : decode prog_6_method_37_code 69 = .ok (.iadd, 1) := by decide +kernel
theorem d_Md_at_70 : decode prog_6_method_37_code 70 = .ok (.iload 4, 2) := by decide +kernel
theorem d_Md_at_72 : decode prog_6_method_37_code 72 = .ok (.iadd, 1) := by decide +kernel
theorem d_Md_at_73 : decode prog_6_method_37_code 73 = .ok (.iaload, 1) := by decide +kernel
theorem d_Md_at_74 : decode prog_6_method_37_code 74 = .ok (.goto 4, 3) := by decide +kernel
theorem d_Md_at_77 : decode prog_6_method_37_code 77 = .ok (.iconst 0, 1) := by decide +kernel
theorem d_Md_at_78 : decode prog_6_method_37_code 78 = .ok (.ireturn, 1) := by decide +kernel
theorem d_Md_at_79 : decode prog_6_method_37_code 79 = .ok (.iload_n 1, 1) := by decide +kernel
theorem d_Md_at_80 : decode prog_6_method_37_code 80 = .ok (.iconst 2, 1) := by decide +kernel
theorem d_Md_at_81 : decode prog_6_method_37_code 81 = .ok (.if_icmp .ne 142, 3) := by decide +kernel
theorem d_Md_at_84 : decode prog_6_method_37_code 84 = .ok (.sipush 24776, 3) := by decide +kernel
theorem d_Md_at_87 : decode prog_6_method_37_code 87 = .ok (.sipush 1440, 3) := by decide +kernel
theorem d_Md_at_90 : decode prog_6_method_37_code 90 = .ok (.iload_n 2, 1) := by decide +kernel
theorem d_Md_at_91 : decode prog_6_method_37_code 91 = .ok (.imul, 1) := by decide +kernel
theorem d_Md_at_92 : decode prog_6_method_37_code 92 = .ok (.iadd, 1) := by decide +kernel
theorem d_Md_at_93 : decode prog_6_method_37_code 93 = .ok (.istore 5, 2) := by decide +kernel
theorem d_Md_at_95 : decode prog_6_method_37_code 95 = .ok (.aload_n 0, 1) := by decide +kernel
theorem d_Md_at_96 : decode prog_6_method_37_code 96 = .ok (.getfield 15, 3) := by decide +kernel
theorem d_Md_at_99 : decode prog_6_method_37_code 99 = .ok (.iload 5, 2) := by decide +kernel
theorem d_Md_at_101 : decode prog_6_method_37_code 101 = .ok (.iconst 1, 1) := by decide +kernel
theorem d_Md_at_102 : decode prog_6_method_37_code 102 = .ok (.iadd, 1) := by decide +kernel
theorem d_Md_at_103 : decode prog_6_method_37_code 103 = .ok (.iaload, 1) := by decide +kernel
theorem d_Md_at_104 : decode prog_6_method_37_code 104 = .ok (.istore 6, 2) := by decide +kernel
theorem d_Md_at_106 : decode prog_6_method_37_code 106 = .ok (.iload_n 3, 1) := by decide +kernel
theorem d_Md_at_107 : decode prog_6_method_37_code 107 = .ok (.ifCond .eq 8, 3) := by decide +kernel
theorem d_Md_at_110 : decode prog_6_method_37_code 110 = .ok (.iload_n 3, 1) := by decide +kernel
theorem d_Md_at_111 : decode prog_6_method_37_code 111 = .ok (.iconst 1, 1) := by decide +kernel
theorem d_Md_at_112 : decode prog_6_method_37_code 112 = .ok (.if_icmp .ne 36, 3) := by decide +kernel
theorem d_Md_at_115 : decode prog_6_method_37_code 115 = .ok (.iload 4, 2) := by decide +kernel
theorem d_Md_at_117 : decode prog_6_method_37_code 117 = .ok (.iconst 3, 1) := by decide +kernel
theorem d_Md_at_118 : decode prog_6_method_37_code 118 = .ok (.iload 6, 2) := by decide +kernel
theorem d_Md_at_120 : decode prog_6_method_37_code 120 = .ok (.imul, 1) := by decide +kernel
theorem d_Md_at_121 : decode prog_6_method_37_code 121 = .ok (.if_icmp .ge 25, 3) := by decide +kernel
theorem d_Md_at_124 : decode prog_6_method_37_code 124 = .ok (.aload_n 0, 1) := by decide +kernel
theorem d_Md_at_125 : decode prog_6_method_37_code 125 = .ok (.getfield 15, 3) := by decide +kernel
theorem d_Md_at_128 : decode prog_6_method_37_code 128 = .ok (.iload 5, 2) := by decide +kernel
theorem d_Md_at_130 : decode prog_6_method_37_code 130 = .ok (.bipush 16, 2) := by decide +kernel
theorem d_Md_at_132 : decode prog_6_method_37_code 132 = .ok (.iadd, 1) := by decide +kernel
theorem d_Md_at_133 : decode prog_6_method_37_code 133 = .ok (.sipush 384, 3) := by decide +kernel
theorem d_Md_at_136 : decode prog_6_method_37_code 136 = .ok (.iload_n 3, 1) := by decide +kernel
theorem d_Md_at_137 : decode prog_6_method_37_code 137 = .ok (.imul, 1) := by decide +kernel
theorem d_Md_at_138 : decode prog_6_method_37_code 138 = .ok (.iadd, 1) := by decide +kernel
theorem d_Md_at_139 : decode prog_6_method_37_code 139 = .ok (.iload 4, 2) := by decide +kernel
theorem d_Md_at_141 : decode prog_6_method_37_code 141 = .ok (.iadd, 1) := by decide +kernel
theorem d_Md_at_142 : decode prog_6_method_37_code 142 = .ok (.iaload, 1) := by decide +kernel
theorem d_Md_at_143 : decode prog_6_method_37_code 143 = .ok (.goto 4, 3) := by decide +kernel
theorem d_Md_at_146 : decode prog_6_method_37_code 146 = .ok (.iconst 0, 1) := by decide +kernel
theorem d_Md_at_147 : decode prog_6_method_37_code 147 = .ok (.ireturn, 1) := by decide +kernel
theorem d_Md_at_148 : decode prog_6_method_37_code 148 = .ok (.iload_n 3, 1) := by decide +kernel
theorem d_Md_at_149 : decode prog_6_method_37_code 149 = .ok (.iconst 2, 1) := by decide +kernel
theorem d_Md_at_150 : decode prog_6_method_37_code 150 = .ok (.if_icmp .ne 33, 3) := by decide +kernel
theorem d_Md_at_153 : decode prog_6_method_37_code 153 = .ok (.iload 4, 2) := by decide +kernel
theorem d_Md_at_155 : decode prog_6_method_37_code 155 = .ok (.iconst 2, 1) := by decide +kernel
theorem d_Md_at_156 : decode prog_6_method_37_code 156 = .ok (.iload 6, 2) := by decide +kernel
theorem d_Md_at_158 : decode prog_6_method_37_code 158 = .ok (.imul, 1) := by decide +kernel
theorem d_Md_at_159 : decode prog_6_method_37_code 159 = .ok (.if_icmp .ge 20, 3) := by decide +kernel
theorem d_Md_at_162 : decode prog_6_method_37_code 162 = .ok (.aload_n 0, 1) := by decide +kernel
theorem d_Md_at_163 : decode prog_6_method_37_code 163 = .ok (.getfield 15, 3) := by decide +kernel
theorem d_Md_at_166 : decode prog_6_method_37_code 166 = .ok (.iload 5, 2) := by decide +kernel
theorem d_Md_at_168 : decode prog_6_method_37_code 168 = .ok (.sipush 784, 3) := by decide +kernel
theorem d_Md_at_171 : decode prog_6_method_37_code 171 = .ok (.iadd, 1) := by decide +kernel
theorem d_Md_at_172 : decode prog_6_method_37_code 172 = .ok (.iload 4, 2) := by decide +kernel
theorem d_Md_at_174 : decode prog_6_method_37_code 174 = .ok (.iadd, 1) := by decide +kernel
theorem d_Md_at_175 : decode prog_6_method_37_code 175 = .ok (.iaload, 1) := by decide +kernel
theorem d_Md_at_176 : decode prog_6_method_37_code 176 = .ok (.goto 46, 3) := by decide +kernel
theorem d_Md_at_179 : decode prog_6_method_37_code 179 = .ok (.iconst 0, 1) := by decide +kernel
theorem d_Md_at_180 : decode prog_6_method_37_code 180 = .ok (.goto 42, 3) := by decide +kernel
theorem d_Md_at_183 : decode prog_6_method_37_code 183 = .ok (.iload_n 3, 1) := by decide +kernel
theorem d_Md_at_184 : decode prog_6_method_37_code 184 = .ok (.iconst 3, 1) := by decide +kernel
theorem d_Md_at_185 : decode prog_6_method_37_code 185 = .ok (.if_icmp .ne 36, 3) := by decide +kernel
theorem d_Md_at_188 : decode prog_6_method_37_code 188 = .ok (.iload 4, 2) := by decide +kernel
theorem d_Md_at_190 : decode prog_6_method_37_code 190 = .ok (.iconst 3, 1) := by decide +kernel
theorem d_Md_at_191 : decode prog_6_method_37_code 191 = .ok (.aload_n 0, 1) := by decide +kernel
theorem d_Md_at_192 : decode prog_6_method_37_code 192 = .ok (.getfield 15, 3) := by decide +kernel
theorem d_Md_at_195 : decode prog_6_method_37_code 195 = .ok (.iload 5, 2) := by decide +kernel
theorem d_Md_at_197 : decode prog_6_method_37_code 197 = .ok (.iconst 2, 1) := by decide +kernel
theorem d_Md_at_198 : decode prog_6_method_37_code 198 = .ok (.iadd, 1) := by decide +kernel
theorem d_Md_at_199 : decode prog_6_method_37_code 199 = .ok (.iaload, 1) := by decide +kernel
theorem d_Md_at_200 : decode prog_6_method_37_code 200 = .ok (.imul, 1) := by decide +kernel
theorem d_Md_at_201 : decode prog_6_method_37_code 201 = .ok (.if_icmp .ge 20, 3) := by decide +kernel
theorem d_Md_at_204 : decode prog_6_method_37_code 204 = .ok (.aload_n 0, 1) := by decide +kernel
theorem d_Md_at_205 : decode prog_6_method_37_code 205 = .ok (.getfield 15, 3) := by decide +kernel
theorem d_Md_at_208 : decode prog_6_method_37_code 208 = .ok (.iload 5, 2) := by decide +kernel
theorem d_Md_at_210 : decode prog_6_method_37_code 210 = .ok (.sipush 1040, 3) := by decide +kernel
theorem d_Md_at_213 : decode prog_6_method_37_code 213 = .ok (.iadd, 1) := by decide +kernel
theorem d_Md_at_214 : decode prog_6_method_37_code 214 = .ok (.iload 4, 2) := by decide +kernel
theorem d_Md_at_216 : decode prog_6_method_37_code 216 = .ok (.iadd, 1) := by decide +kernel
theorem d_Md_at_217 : decode prog_6_method_37_code 217 = .ok (.iaload, 1) := by decide +kernel
theorem d_Md_at_218 : decode prog_6_method_37_code 218 = .ok (.goto 4, 3) := by decide +kernel
theorem d_Md_at_221 : decode prog_6_method_37_code 221 = .ok (.iconst 0, 1) := by decide +kernel
theorem d_Md_at_222 : decode prog_6_method_37_code 222 = .ok (.ireturn, 1) := by decide +kernel
theorem d_Md_at_223 : decode prog_6_method_37_code 223 = .ok (.iload_n 1, 1) := by decide +kernel
theorem d_Md_at_224 : decode prog_6_method_37_code 224 = .ok (.iconst 4, 1) := by decide +kernel
theorem d_Md_at_225 : decode prog_6_method_37_code 225 = .ok (.if_icmp .ne 89, 3) := by decide +kernel
theorem d_Md_at_228 : decode prog_6_method_37_code 228 = .ok (.ldc 156, 2) := by decide +kernel
theorem d_Md_at_230 : decode prog_6_method_37_code 230 = .ok (.sipush 134, 3) := by decide +kernel
theorem d_Md_at_233 : decode prog_6_method_37_code 233 = .ok (.iload_n 2, 1) := by decide +kernel
theorem d_Md_at_234 : decode prog_6_method_37_code 234 = .ok (.imul, 1) := by decide +kernel
theorem d_Md_at_235 : decode prog_6_method_37_code 235 = .ok (.iadd, 1) := by decide +kernel
theorem d_Md_at_236 : decode prog_6_method_37_code 236 = .ok (.istore 5, 2) := by decide +kernel
theorem d_Md_at_238 : decode prog_6_method_37_code 238 = .ok (.iload_n 3, 1) := by decide +kernel
theorem d_Md_at_239 : decode prog_6_method_37_code 239 = .ok (.ifCond .ne 36, 3) := by decide +kernel
theorem d_Md_at_242 : decode prog_6_method_37_code 242 = .ok (.iload 4, 2) := by decide +kernel
theorem d_Md_at_244 : decode prog_6_method_37_code 244 = .ok (.aload_n 0, 1) := by decide +kernel
theorem d_Md_at_245 : decode prog_6_method_37_code 245 = .ok (.getfield 15, 3) := by decide +kernel
theorem d_Md_at_248 : decode prog_6_method_37_code 248 = .ok (.iload 5, 2) := by decide +kernel
theorem d_Md_at_250 : decode prog_6_method_37_code 250 = .ok (.iconst 3, 1) := by decide +kernel
theorem d_Md_at_251 : decode prog_6_method_37_code 251 = .ok (.iadd, 1) := by decide +kernel
theorem d_Md_at_252 : decode prog_6_method_37_code 252 = .ok (.iaload, 1) := by decide +kernel
theorem d_Md_at_253 : decode prog_6_method_37_code 253 = .ok (.if_icmp .ge 18, 3) := by decide +kernel
theorem d_Md_at_256 : decode prog_6_method_37_code 256 = .ok (.aload_n 0, 1) := by decide +kernel
theorem d_Md_at_257 : decode prog_6_method_37_code 257 = .ok (.getfield 15, 3) := by decide +kernel
theorem d_Md_at_260 : decode prog_6_method_37_code 260 = .ok (.iload 5, 2) := by decide +kernel
theorem d_Md_at_262 : decode prog_6_method_37_code 262 = .ok (.iconst 4, 1) := by decide +kernel
theorem d_Md_at_263 : decode prog_6_method_37_code 263 = .ok (.iadd, 1) := by decide +kernel
theorem d_Md_at_264 : decode prog_6_method_37_code 264 = .ok (.iload 4, 2) := by decide +kernel
theorem d_Md_at_266 : decode prog_6_method_37_code 266 = .ok (.iadd, 1) := by decide +kernel
theorem d_Md_at_267 : decode prog_6_method_37_code 267 = .ok (.iaload, 1) := by decide +kernel
theorem d_Md_at_268 : decode prog_6_method_37_code 268 = .ok (.goto 45, 3) := by decide +kernel
theorem d_Md_at_271 : decode prog_6_method_37_code 271 = .ok (.iconst 0, 1) := by decide +kernel
theorem d_Md_at_272 : decode prog_6_method_37_code 272 = .ok (.goto 41, 3) := by decide +kernel
theorem d_Md_at_275 : decode prog_6_method_37_code 275 = .ok (.iload_n 3, 1) := by decide +kernel
theorem d_Md_at_276 : decode prog_6_method_37_code 276 = .ok (.iconst 1, 1) := by decide +kernel
theorem d_Md_at_277 : decode prog_6_method_37_code 277 = .ok (.if_icmp .ne 35, 3) := by decide +kernel
theorem d_Md_at_280 : decode prog_6_method_37_code 280 = .ok (.iload 4, 2) := by decide +kernel
theorem d_Md_at_282 : decode prog_6_method_37_code 282 = .ok (.iconst 3, 1) := by decide +kernel
theorem d_Md_at_283 : decode prog_6_method_37_code 283 = .ok (.aload_n 0, 1) := by decide +kernel
theorem d_Md_at_284 : decode prog_6_method_37_code 284 = .ok (.getfield 15, 3) := by decide +kernel
theorem d_Md_at_287 : decode prog_6_method_37_code 287 = .ok (.iload 5, 2) := by decide +kernel
theorem d_Md_at_289 : decode prog_6_method_37_code 289 = .ok (.iconst 3, 1) := by decide +kernel
theorem d_Md_at_290 : decode prog_6_method_37_code 290 = .ok (.iadd, 1) := by decide +kernel
theorem d_Md_at_291 : decode prog_6_method_37_code 291 = .ok (.iaload, 1) := by decide +kernel
theorem d_Md_at_292 : decode prog_6_method_37_code 292 = .ok (.imul, 1) := by decide +kernel
theorem d_Md_at_293 : decode prog_6_method_37_code 293 = .ok (.if_icmp .ge 19, 3) := by decide +kernel
theorem d_Md_at_296 : decode prog_6_method_37_code 296 = .ok (.aload_n 0, 1) := by decide +kernel
theorem d_Md_at_297 : decode prog_6_method_37_code 297 = .ok (.getfield 15, 3) := by decide +kernel
theorem d_Md_at_300 : decode prog_6_method_37_code 300 = .ok (.iload 5, 2) := by decide +kernel
theorem d_Md_at_302 : decode prog_6_method_37_code 302 = .ok (.bipush 36, 2) := by decide +kernel
theorem d_Md_at_304 : decode prog_6_method_37_code 304 = .ok (.iadd, 1) := by decide +kernel
theorem d_Md_at_305 : decode prog_6_method_37_code 305 = .ok (.iload 4, 2) := by decide +kernel
theorem d_Md_at_307 : decode prog_6_method_37_code 307 = .ok (.iadd, 1) := by decide +kernel
theorem d_Md_at_308 : decode prog_6_method_37_code 308 = .ok (.iaload, 1) := by decide +kernel
theorem d_Md_at_309 : decode prog_6_method_37_code 309 = .ok (.goto 4, 3) := by decide +kernel
theorem d_Md_at_312 : decode prog_6_method_37_code 312 = .ok (.iconst 0, 1) := by decide +kernel
theorem d_Md_at_313 : decode prog_6_method_37_code 313 = .ok (.ireturn, 1) := by decide +kernel
theorem d_Md_at_314 : decode prog_6_method_37_code 314 = .ok (.iconst 0, 1) := by decide +kernel
theorem d_Md_at_315 : decode prog_6_method_37_code 315 = .ok (.ireturn, 1) := by decide +kernel
theorem d_Md_view_0 : decode prog_6_method_38_code 0 = .ok (.aload_n 0, 1) := by decide +kernel
theorem d_Md_view_1 : decode prog_6_method_38_code 1 = .ok (.iconst 0, 1) := by decide +kernel
theorem d_Md_view_2 : decode prog_6_method_38_code 2 = .ok (.putfield 25, 3) := by decide +kernel
theorem d_Md_view_5 : decode prog_6_method_38_code 5 = .ok (.iload_n 1, 1) := by decide +kernel
theorem d_Md_view_6 : decode prog_6_method_38_code 6 = .ok (.ifCond .lt 21, 3) := by decide +kernel
theorem d_Md_view_9 : decode prog_6_method_38_code 9 = .ok (.iload_n 1, 1) := by decide +kernel
theorem d_Md_view_10 : decode prog_6_method_38_code 10 = .ok (.bipush 11, 2) := by decide +kernel
theorem d_Md_view_12 : decode prog_6_method_38_code 12 = .ok (.if_icmp .ge 15, 3) := by decide +kernel
theorem d_Md_view_15 : decode prog_6_method_38_code 15 = .ok (.aload_n 0, 1) := by decide +kernel
theorem d_Md_view_16 : decode prog_6_method_38_code 16 = .ok (.getfield 15, 3) := by decide +kernel
theorem d_Md_view_19 : decode prog_6_method_38_code 19 = .ok (.ldc 186, 2) := by decide +kernel
theorem d_Md_view_21 : decode prog_6_method_38_code 21 = .ok (.iload_n 1, 1) := by decide +kernel
theorem d_Md_view_22 : decode prog_6_method_38_code 22 = .ok (.iadd, 1) := by decide +kernel
theorem d_Md_view_23 : decode prog_6_method_38_code 23 = .ok (.iaload, 1) := by decide +kernel
theorem d_Md_view_24 : decode prog_6_method_38_code 24 = .ok (.goto 4, 3) := by decide +kernel
theorem d_Md_view_27 : decode prog_6_method_38_code 27 = .ok (.iconst 0, 1) := by decide +kernel
theorem d_Md_view_28 : decode prog_6_method_38_code 28 = .ok (.ireturn, 1) := by decide +kernel

/-! What each instruction is. By program. -/
theorem d_St_init_0 : decode prog_1_method_1_code 0 = .ok (.aload_n 0, 1) := by decide +kernel
theorem d_St_init_1 : decode prog_1_method_1_code 1 = .ok (.invokespecial 1, 3) := by decide +kernel
theorem d_St_init_4 : decode prog_1_method_1_code 4 = .ok (.aload_n 0, 1) := by decide +kernel
theorem d_St_init_5 : decode prog_1_method_1_code 5 = .ok (.new 7, 3) := by decide +kernel
theorem d_St_init_8 : decode prog_1_method_1_code 8 = .ok (.dup, 1) := by decide +kernel
theorem d_St_init_9 : decode prog_1_method_1_code 9 = .ok (.invokespecial 9, 3) := by decide +kernel
theorem d_St_init_12 : decode prog_1_method_1_code 12 = .ok (.putfield 10, 3) := by decide +kernel
theorem d_St_init_15 : decode prog_1_method_1_code 15 = .ok (.aload_n 0, 1) := by decide +kernel
theorem d_St_init_16 : decode prog_1_method_1_code 16 = .ok (.new 16, 3) := by decide +kernel
theorem d_St_init_19 : decode prog_1_method_1_code 19 = .ok (.dup, 1) := by decide +kernel
theorem d_St_init_20 : decode prog_1_method_1_code 20 = .ok (.invokespecial 18, 3) := by decide +kernel
theorem d_St_init_23 : decode prog_1_method_1_code 23 = .ok (.putfield 19, 3) := by decide +kernel
theorem d_St_init_26 : decode prog_1_method_1_code 26 = .ok (.return_, 1) := by decide +kernel
theorem d_Rd_init_0 : decode prog_2_method_1_code 0 = .ok (.aload_n 0, 1) := by decide +kernel
theorem d_Rd_init_1 : decode prog_2_method_1_code 1 = .ok (.invokespecial 3, 3) := by decide +kernel
theorem d_Rd_init_4 : decode prog_2_method_1_code 4 = .ok (.aload_n 0, 1) := by decide +kernel
theorem d_Rd_init_5 : decode prog_2_method_1_code 5 = .ok (.new 9, 3) := by decide +kernel
theorem d_Rd_init_8 : decode prog_2_method_1_code 8 = .ok (.dup, 1) := by decide +kernel
theorem d_Rd_init_9 : decode prog_2_method_1_code 9 = .ok (.invokespecial 11, 3) := by decide +kernel
theorem d_Rd_init_12 : decode prog_2_method_1_code 12 = .ok (.putfield 12, 3) := by decide +kernel
theorem d_Rd_init_15 : decode prog_2_method_1_code 15 = .ok (.aload_n 0, 1) := by decide +kernel
theorem d_Rd_init_16 : decode prog_2_method_1_code 16 = .ok (.new 18, 3) := by decide +kernel
theorem d_Rd_init_19 : decode prog_2_method_1_code 19 = .ok (.dup, 1) := by decide +kernel
theorem d_Rd_init_20 : decode prog_2_method_1_code 20 = .ok (.invokespecial 20, 3) := by decide +kernel
theorem d_Rd_init_23 : decode prog_2_method_1_code 23 = .ok (.putfield 21, 3) := by decide +kernel
theorem d_Rd_init_26 : decode prog_2_method_1_code 26 = .ok (.return_, 1) := by decide +kernel
theorem d_Tp_init_0 : decode prog_4_method_1_code 0 = .ok (.aload_n 0, 1) := by decide +kernel
theorem d_Tp_init_1 : decode prog_4_method_1_code 1 = .ok (.invokespecial 3, 3) := by decide +kernel
theorem d_Tp_init_4 : decode prog_4_method_1_code 4 = .ok (.aload_n 0, 1) := by decide +kernel
theorem d_Tp_init_5 : decode prog_4_method_1_code 5 = .ok (.ldc 11, 2) := by decide +kernel
theorem d_Tp_init_7 : decode prog_4_method_1_code 7 = .ok (.newarray .byte, 2) := by decide +kernel
theorem d_Tp_init_9 : decode prog_4_method_1_code 9 = .ok (.putfield 12, 3) := by decide +kernel
theorem d_Tp_init_12 : decode prog_4_method_1_code 12 = .ok (.aload_n 0, 1) := by decide +kernel
theorem d_Tp_init_13 : decode prog_4_method_1_code 13 = .ok (.iconst 0, 1) := by decide +kernel
theorem d_Tp_init_14 : decode prog_4_method_1_code 14 = .ok (.putfield 16, 3) := by decide +kernel
theorem d_Tp_init_17 : decode prog_4_method_1_code 17 = .ok (.aload_n 0, 1) := by decide +kernel
theorem d_Tp_init_18 : decode prog_4_method_1_code 18 = .ok (.iconst 0, 1) := by decide +kernel
theorem d_Tp_init_19 : decode prog_4_method_1_code 19 = .ok (.putfield 20, 3) := by decide +kernel
theorem d_Tp_init_22 : decode prog_4_method_1_code 22 = .ok (.aload_n 0, 1) := by decide +kernel
theorem d_Tp_init_23 : decode prog_4_method_1_code 23 = .ok (.iconst 0, 1) := by decide +kernel
theorem d_Tp_init_24 : decode prog_4_method_1_code 24 = .ok (.putfield 23, 3) := by decide +kernel
theorem d_Tp_init_27 : decode prog_4_method_1_code 27 = .ok (.aload_n 0, 1) := by decide +kernel
theorem d_Tp_init_28 : decode prog_4_method_1_code 28 = .ok (.iconst 0, 1) := by decide +kernel
theorem d_Tp_init_29 : decode prog_4_method_1_code 29 = .ok (.putfield 26, 3) := by decide +kernel
theorem d_Tp_init_32 : decode prog_4_method_1_code 32 = .ok (.aload_n 0, 1) := by decide +kernel
theorem d_Tp_init_33 : decode prog_4_method_1_code 33 = .ok (.iconst 0, 1) := by decide +kernel
theorem d_Tp_init_34 : decode prog_4_method_1_code 34 = .ok (.putfield 29, 3) := by decide +kernel
theorem d_Tp_init_37 : decode prog_4_method_1_code 37 = .ok (.aload_n 0, 1) := by decide +kernel
theorem d_Tp_init_38 : decode prog_4_method_1_code 38 = .ok (.iconst 0, 1) := by decide +kernel
theorem d_Tp_init_39 : decode prog_4_method_1_code 39 = .ok (.putfield 32, 3) := by decide +kernel
theorem d_Tp_init_42 : decode prog_4_method_1_code 42 = .ok (.return_, 1) := by decide +kernel
theorem d_Sc_init_0 : decode prog_3_method_1_code 0 = .ok (.aload_n 0, 1) := by decide +kernel
theorem d_Sc_init_1 : decode prog_3_method_1_code 1 = .ok (.invokespecial 5, 3) := by decide +kernel
theorem d_Sc_init_4 : decode prog_3_method_1_code 4 = .ok (.aload_n 0, 1) := by decide +kernel
theorem d_Sc_init_5 : decode prog_3_method_1_code 5 = .ok (.iconst 5, 1) := by decide +kernel
theorem d_Sc_init_6 : decode prog_3_method_1_code 6 = .ok (.newarray .int, 2) := by decide +kernel
theorem d_Sc_init_8 : decode prog_3_method_1_code 8 = .ok (.putfield 11, 3) := by decide +kernel
theorem d_Sc_init_11 : decode prog_3_method_1_code 11 = .ok (.aload_n 0, 1) := by decide +kernel
theorem d_Sc_init_12 : decode prog_3_method_1_code 12 = .ok (.ldc 15, 2) := by decide +kernel
theorem d_Sc_init_14 : decode prog_3_method_1_code 14 = .ok (.newarray .int, 2) := by decide +kernel
theorem d_Sc_init_16 : decode prog_3_method_1_code 16 = .ok (.putfield 16, 3) := by decide +kernel
theorem d_Sc_init_19 : decode prog_3_method_1_code 19 = .ok (.aload_n 0, 1) := by decide +kernel
theorem d_Sc_init_20 : decode prog_3_method_1_code 20 = .ok (.invokevirtual 19, 3) := by decide +kernel
theorem d_Sc_init_23 : decode prog_3_method_1_code 23 = .ok (.return_, 1) := by decide +kernel
theorem d_Sc_clear_0 : decode prog_3_method_2_code 0 = .ok (.iconst 0, 1) := by decide +kernel
theorem d_Sc_clear_1 : decode prog_3_method_2_code 1 = .ok (.istore_n 1, 1) := by decide +kernel
theorem d_Sc_clear_2 : decode prog_3_method_2_code 2 = .ok (.iload_n 1, 1) := by decide +kernel
theorem d_Sc_clear_3 : decode prog_3_method_2_code 3 = .ok (.iconst 5, 1) := by decide +kernel
theorem d_Sc_clear_4 : decode prog_3_method_2_code 4 = .ok (.if_icmp .ge 16, 3) := by decide +kernel
theorem d_Sc_clear_7 : decode prog_3_method_2_code 7 = .ok (.aload_n 0, 1) := by decide +kernel
theorem d_Sc_clear_8 : decode prog_3_method_2_code 8 = .ok (.getfield 11, 3) := by decide +kernel
theorem d_Sc_clear_11 : decode prog_3_method_2_code 11 = .ok (.iload_n 1, 1) := by decide +kernel
theorem d_Sc_clear_12 : decode prog_3_method_2_code 12 = .ok (.iconst 0, 1) := by decide +kernel
theorem d_Sc_clear_13 : decode prog_3_method_2_code 13 = .ok (.iastore, 1) := by decide +kernel
theorem d_Sc_clear_14 : decode prog_3_method_2_code 14 = .ok (.iinc 1 1, 3) := by decide +kernel
theorem d_Sc_clear_17 : decode prog_3_method_2_code 17 = .ok (.goto (-15), 3) := by decide +kernel
theorem d_Sc_clear_20 : decode prog_3_method_2_code 20 = .ok (.iconst 0, 1) := by decide +kernel
theorem d_Sc_clear_21 : decode prog_3_method_2_code 21 = .ok (.istore_n 1, 1) := by decide +kernel
theorem d_Sc_clear_22 : decode prog_3_method_2_code 22 = .ok (.iload_n 1, 1) := by decide +kernel
theorem d_Sc_clear_23 : decode prog_3_method_2_code 23 = .ok (.bipush 11, 2) := by decide +kernel
theorem d_Sc_clear_25 : decode prog_3_method_2_code 25 = .ok (.if_icmp .ge 20, 3) := by decide +kernel
theorem d_Sc_clear_28 : decode prog_3_method_2_code 28 = .ok (.aload_n 0, 1) := by decide +kernel
theorem d_Sc_clear_29 : decode prog_3_method_2_code 29 = .ok (.getfield 16, 3) := by decide +kernel
theorem d_Sc_clear_32 : decode prog_3_method_2_code 32 = .ok (.iload_n 1, 1) := by decide +kernel
theorem d_Sc_clear_33 : decode prog_3_method_2_code 33 = .ok (.getstatic 22, 3) := by decide +kernel
theorem d_Sc_clear_36 : decode prog_3_method_2_code 36 = .ok (.iload_n 1, 1) := by decide +kernel
theorem d_Sc_clear_37 : decode prog_3_method_2_code 37 = .ok (.iaload, 1) := by decide +kernel
theorem d_Sc_clear_38 : decode prog_3_method_2_code 38 = .ok (.iastore, 1) := by decide +kernel
theorem d_Sc_clear_39 : decode prog_3_method_2_code 39 = .ok (.iinc 1 1, 3) := by decide +kernel
theorem d_Sc_clear_42 : decode prog_3_method_2_code 42 = .ok (.goto (-20), 3) := by decide +kernel
theorem d_Sc_clear_45 : decode prog_3_method_2_code 45 = .ok (.return_, 1) := by decide +kernel
theorem d_St_feed_0 : decode prog_1_method_2_code 0 = .ok (.aload_n 0, 1) := by decide +kernel
theorem d_St_feed_1 : decode prog_1_method_2_code 1 = .ok (.getfield 10, 3) := by decide +kernel
theorem d_St_feed_4 : decode prog_1_method_2_code 4 = .ok (.getfield 23, 3) := by decide +kernel
theorem d_St_feed_7 : decode prog_1_method_2_code 7 = .ok (.astore 6, 2) := by decide +kernel
theorem d_St_feed_9 : decode prog_1_method_2_code 9 = .ok (.aload 6, 2) := by decide +kernel
theorem d_St_feed_11 : decode prog_1_method_2_code 11 = .ok (.invokevirtual 27, 3) := by decide +kernel
theorem d_St_feed_14 : decode prog_1_method_2_code 14 = .ok (.ifCond .ne 5, 3) := by decide +kernel
theorem d_St_feed_17 : decode prog_1_method_2_code 17 = .ok (.iconst 0, 1) := by decide +kernel
theorem d_St_feed_18 : decode prog_1_method_2_code 18 = .ok (.ireturn, 1) := by decide +kernel
theorem d_St_feed_19 : decode prog_1_method_2_code 19 = .ok (.aload 6, 2) := by decide +kernel
theorem d_St_feed_21 : decode prog_1_method_2_code 21 = .ok (.iload_n 1, 1) := by decide +kernel
theorem d_St_feed_22 : decode prog_1_method_2_code 22 = .ok (.invokevirtual 33, 3) := by decide +kernel
theorem d_St_feed_25 : decode prog_1_method_2_code 25 = .ok (.aload 6, 2) := by decide +kernel
theorem d_St_feed_27 : decode prog_1_method_2_code 27 = .ok (.iload_n 2, 1) := by decide +kernel
theorem d_St_feed_28 : decode prog_1_method_2_code 28 = .ok (.invokevirtual 33, 3) := by decide +kernel
theorem d_St_feed_31 : decode prog_1_method_2_code 31 = .ok (.aload 6, 2) := by decide +kernel
theorem d_St_feed_33 : decode prog_1_method_2_code 33 = .ok (.iload_n 3, 1) := by decide +kernel
theorem d_St_feed_34 : decode prog_1_method_2_code 34 = .ok (.invokevirtual 33, 3) := by decide +kernel
theorem d_St_feed_37 : decode prog_1_method_2_code 37 = .ok (.aload 6, 2) := by decide +kernel
theorem d_St_feed_39 : decode prog_1_method_2_code 39 = .ok (.iload 4, 2) := by decide +kernel
theorem d_St_feed_41 : decode prog_1_method_2_code 41 = .ok (.invokevirtual 33, 3) := by decide +kernel
theorem d_St_feed_44 : decode prog_1_method_2_code 44 = .ok (.aload 6, 2) := by decide +kernel
theorem d_St_feed_46 : decode prog_1_method_2_code 46 = .ok (.iload 5, 2) := by decide +kernel
theorem d_St_feed_48 : decode prog_1_method_2_code 48 = .ok (.invokevirtual 33, 3) := by decide +kernel
theorem d_St_feed_51 : decode prog_1_method_2_code 51 = .ok (.iconst 1, 1) := by decide +kernel
theorem d_St_feed_52 : decode prog_1_method_2_code 52 = .ok (.ireturn, 1) := by decide +kernel
theorem d_Tp_hasRoom_0 : decode prog_4_method_2_code 0 = .ok (.aload_n 0, 1) := by decide +kernel
theorem d_Tp_hasRoom_1 : decode prog_4_method_2_code 1 = .ok (.getfield 16, 3) := by decide +kernel
theorem d_Tp_hasRoom_4 : decode prog_4_method_2_code 4 = .ok (.ldc 35, 2) := by decide +kernel
theorem d_Tp_hasRoom_6 : decode prog_4_method_2_code 6 = .ok (.if_icmp .gt 7, 3) := by decide +kernel
theorem d_Tp_hasRoom_9 : decode prog_4_method_2_code 9 = .ok (.iconst 1, 1) := by decide +kernel
theorem d_Tp_hasRoom_10 : decode prog_4_method_2_code 10 = .ok (.goto 4, 3) := by decide +kernel
theorem d_Tp_hasRoom_13 : decode prog_4_method_2_code 13 = .ok (.iconst 0, 1) := by decide +kernel
theorem d_Tp_hasRoom_14 : decode prog_4_method_2_code 14 = .ok (.ireturn, 1) := by decide +kernel
theorem d_Tp_put_0 : decode prog_4_method_3_code 0 = .ok (.bipush 24, 2) := by decide +kernel
theorem d_Tp_put_2 : decode prog_4_method_3_code 2 = .ok (.istore_n 2, 1) := by decide +kernel
theorem d_Tp_put_3 : decode prog_4_method_3_code 3 = .ok (.iload_n 2, 1) := by decide +kernel
theorem d_Tp_put_4 : decode prog_4_method_3_code 4 = .ok (.ifCond .lt 41, 3) := by decide +kernel
theorem d_Tp_put_7 : decode prog_4_method_3_code 7 = .ok (.aload_n 0, 1) := by decide +kernel
theorem d_Tp_put_8 : decode prog_4_method_3_code 8 = .ok (.getfield 16, 3) := by decide +kernel
theorem d_Tp_put_11 : decode prog_4_method_3_code 11 = .ok (.ldc 11, 2) := by decide +kernel
theorem d_Tp_put_13 : decode prog_4_method_3_code 13 = .ok (.if_icmp .ge 32, 3) := by decide +kernel
theorem d_Tp_put_16 : decode prog_4_method_3_code 16 = .ok (.aload_n 0, 1) := by decide +kernel
theorem d_Tp_put_17 : decode prog_4_method_3_code 17 = .ok (.getfield 12, 3) := by decide +kernel
theorem d_Tp_put_20 : decode prog_4_method_3_code 20 = .ok (.aload_n 0, 1) := by decide +kernel
theorem d_Tp_put_21 : decode prog_4_method_3_code 21 = .ok (.getfield 16, 3) := by decide +kernel
theorem d_Tp_put_24 : decode prog_4_method_3_code 24 = .ok (.iload_n 1, 1) := by decide +kernel
theorem d_Tp_put_25 : decode prog_4_method_3_code 25 = .ok (.iload_n 2, 1) := by decide +kernel
theorem d_Tp_put_26 : decode prog_4_method_3_code 26 = .ok (.iushr, 1) := by decide +kernel
theorem d_Tp_put_27 : decode prog_4_method_3_code 27 = .ok (.i2b, 1) := by decide +kernel
theorem d_Tp_put_28 : decode prog_4_method_3_code 28 = .ok (.bastore, 1) := by decide +kernel
theorem d_Tp_put_29 : decode prog_4_method_3_code 29 = .ok (.aload_n 0, 1) := by decide +kernel
theorem d_Tp_put_30 : decode prog_4_method_3_code 30 = .ok (.dup, 1) := by decide +kernel
theorem d_Tp_put_31 : decode prog_4_method_3_code 31 = .ok (.getfield 16, 3) := by decide +kernel
theorem d_Tp_put_34 : decode prog_4_method_3_code 34 = .ok (.iconst 1, 1) := by decide +kernel
theorem d_Tp_put_35 : decode prog_4_method_3_code 35 = .ok (.iadd, 1) := by decide +kernel
theorem d_Tp_put_36 : decode prog_4_method_3_code 36 = .ok (.putfield 16, 3) := by decide +kernel
theorem d_Tp_put_39 : decode prog_4_method_3_code 39 = .ok (.iinc 2 (-8), 3) := by decide +kernel
theorem d_Tp_put_42 : decode prog_4_method_3_code 42 = .ok (.goto (-39), 3) := by decide +kernel
theorem d_Tp_put_45 : decode prog_4_method_3_code 45 = .ok (.return_, 1) := by decide +kernel
theorem d_St_end_0 : decode prog_1_method_3_code 0 = .ok (.aload_n 0, 1) := by decide +kernel
theorem d_St_end_1 : decode prog_1_method_3_code 1 = .ok (.getfield 10, 3) := by decide +kernel
theorem d_St_end_4 : decode prog_1_method_3_code 4 = .ok (.getfield 23, 3) := by decide +kernel
theorem d_St_end_7 : decode prog_1_method_3_code 7 = .ok (.iload_n 1, 1) := by decide +kernel
theorem d_St_end_8 : decode prog_1_method_3_code 8 = .ok (.invokevirtual 37, 3) := by decide +kernel
theorem d_St_end_11 : decode prog_1_method_3_code 11 = .ok (.ireturn, 1) := by decide +kernel
theorem d_Tp_cut_0 : decode prog_4_method_4_code 0 = .ok (.iload_n 1, 1) := by decide +kernel
theorem d_Tp_cut_1 : decode prog_4_method_4_code 1 = .ok (.ifCond .lt 11, 3) := by decide +kernel
theorem d_Tp_cut_4 : decode prog_4_method_4_code 4 = .ok (.iload_n 1, 1) := by decide +kernel
theorem d_Tp_cut_5 : decode prog_4_method_4_code 5 = .ok (.aload_n 0, 1) := by decide +kernel
theorem d_Tp_cut_6 : decode prog_4_method_4_code 6 = .ok (.getfield 16, 3) := by decide +kernel
theorem d_Tp_cut_9 : decode prog_4_method_4_code 9 = .ok (.if_icmp .le 5, 3) := by decide +kernel
theorem d_Tp_cut_12 : decode prog_4_method_4_code 12 = .ok (.iconst 0, 1) := by decide +kernel
theorem d_Tp_cut_13 : decode prog_4_method_4_code 13 = .ok (.ireturn, 1) := by decide +kernel
theorem d_Tp_cut_14 : decode prog_4_method_4_code 14 = .ok (.aload_n 0, 1) := by decide +kernel
theorem d_Tp_cut_15 : decode prog_4_method_4_code 15 = .ok (.iload_n 1, 1) := by decide +kernel
theorem d_Tp_cut_16 : decode prog_4_method_4_code 16 = .ok (.putfield 16, 3) := by decide +kernel
theorem d_Tp_cut_19 : decode prog_4_method_4_code 19 = .ok (.iconst 1, 1) := by decide +kernel
theorem d_Tp_cut_20 : decode prog_4_method_4_code 20 = .ok (.ireturn, 1) := by decide +kernel
theorem d_St_size_0 : decode prog_1_method_4_code 0 = .ok (.aload_n 0, 1) := by decide +kernel
theorem d_St_size_1 : decode prog_1_method_4_code 1 = .ok (.getfield 10, 3) := by decide +kernel
theorem d_St_size_4 : decode prog_1_method_4_code 4 = .ok (.getfield 23, 3) := by decide +kernel
theorem d_St_size_7 : decode prog_1_method_4_code 7 = .ok (.getfield 41, 3) := by decide +kernel
theorem d_St_size_10 : decode prog_1_method_4_code 10 = .ok (.ireturn, 1) := by decide +kernel
theorem d_St_error_0 : decode prog_1_method_6_code 0 = .ok (.iload_n 1, 1) := by decide +kernel
theorem d_St_error_1 : decode prog_1_method_6_code 1 = .ok (.ifCond .ne 14, 3) := by decide +kernel
theorem d_St_error_4 : decode prog_1_method_6_code 4 = .ok (.aload_n 0, 1) := by decide +kernel
theorem d_St_error_5 : decode prog_1_method_6_code 5 = .ok (.getfield 10, 3) := by decide +kernel
theorem d_St_error_8 : decode prog_1_method_6_code 8 = .ok (.getfield 23, 3) := by decide +kernel
theorem d_St_error_11 : decode prog_1_method_6_code 11 = .ok (.getfield 53, 3) := by decide +kernel
theorem d_St_error_14 : decode prog_1_method_6_code 14 = .ok (.ireturn, 1) := by decide +kernel
theorem d_St_error_15 : decode prog_1_method_6_code 15 = .ok (.iload_n 1, 1) := by decide +kernel
theorem d_St_error_16 : decode prog_1_method_6_code 16 = .ok (.iconst 1, 1) := by decide +kernel
theorem d_St_error_17 : decode prog_1_method_6_code 17 = .ok (.if_icmp .ne 16, 3) := by decide +kernel
theorem d_St_error_20 : decode prog_1_method_6_code 20 = .ok (.aload_n 0, 1) := by decide +kernel
theorem d_St_error_21 : decode prog_1_method_6_code 21 = .ok (.getfield 10, 3) := by decide +kernel
theorem d_St_error_24 : decode prog_1_method_6_code 24 = .ok (.getfield 23, 3) := by decide +kernel
theorem d_St_error_27 : decode prog_1_method_6_code 27 = .ok (.getfield 56, 3) := by decide +kernel
theorem d_St_error_30 : decode prog_1_method_6_code 30 = .ok (.goto 4, 3) := by decide +kernel
theorem d_St_error_33 : decode prog_1_method_6_code 33 = .ok (.iconst 0, 1) := by decide +kernel
theorem d_St_error_34 : decode prog_1_method_6_code 34 = .ok (.ireturn, 1) := by decide +kernel
theorem d_St_count_0 : decode prog_1_method_7_code 0 = .ok (.aload_n 0, 1) := by decide +kernel
theorem d_St_count_1 : decode prog_1_method_7_code 1 = .ok (.getfield 19, 3) := by decide +kernel
theorem d_St_count_4 : decode prog_1_method_7_code 4 = .ok (.iload_n 1, 1) := by decide +kernel
theorem d_St_count_5 : decode prog_1_method_7_code 5 = .ok (.invokevirtual 49, 3) := by decide +kernel
theorem d_St_count_8 : decode prog_1_method_7_code 8 = .ok (.ireturn, 1) := by decide +kernel
theorem d_Sc_howMany_0 : decode prog_3_method_6_code 0 = .ok (.iload_n 1, 1) := by decide +kernel
theorem d_Sc_howMany_1 : decode prog_3_method_6_code 1 = .ok (.ifCond .lt 8, 3) := by decide +kernel
theorem d_Sc_howMany_4 : decode prog_3_method_6_code 4 = .ok (.iload_n 1, 1) := by decide +kernel
theorem d_Sc_howMany_5 : decode prog_3_method_6_code 5 = .ok (.iconst 5, 1) := by decide +kernel
theorem d_Sc_howMany_6 : decode prog_3_method_6_code 6 = .ok (.if_icmp .lt 7, 3) := by decide +kernel
theorem d_Sc_howMany_9 : decode prog_3_method_6_code 9 = .ok (.iconst (-1), 1) := by decide +kernel
theorem d_Sc_howMany_10 : decode prog_3_method_6_code 10 = .ok (.goto 9, 3) := by decide +kernel
theorem d_Sc_howMany_13 : decode prog_3_method_6_code 13 = .ok (.aload_n 0, 1) := by decide +kernel
theorem d_Sc_howMany_14 : decode prog_3_method_6_code 14 = .ok (.getfield 11, 3) := by decide +kernel
theorem d_Sc_howMany_17 : decode prog_3_method_6_code 17 = .ok (.iload_n 1, 1) := by decide +kernel
theorem d_Sc_howMany_18 : decode prog_3_method_6_code 18 = .ok (.iaload, 1) := by decide +kernel
theorem d_Sc_howMany_19 : decode prog_3_method_6_code 19 = .ok (.ireturn, 1) := by decide +kernel
theorem d_St_about_0 : decode prog_1_method_8_code 0 = .ok (.aload_n 0, 1) := by decide +kernel
theorem d_St_about_1 : decode prog_1_method_8_code 1 = .ok (.getfield 19, 3) := by decide +kernel
theorem d_St_about_4 : decode prog_1_method_8_code 4 = .ok (.iload_n 1, 1) := by decide +kernel
theorem d_St_about_5 : decode prog_1_method_8_code 5 = .ok (.iload_n 2, 1) := by decide +kernel
theorem d_St_about_6 : decode prog_1_method_8_code 6 = .ok (.iload_n 3, 1) := by decide +kernel
theorem d_St_about_7 : decode prog_1_method_8_code 7 = .ok (.invokevirtual 59, 3) := by decide +kernel
theorem d_St_about_10 : decode prog_1_method_8_code 10 = .ok (.ireturn, 1) := by decide +kernel
theorem d_Sc_fact_0 : decode prog_3_method_7_code 0 = .ok (.aload_n 0, 1) := by decide +kernel
theorem d_Sc_fact_1 : decode prog_3_method_7_code 1 = .ok (.iload_n 1, 1) := by decide +kernel
theorem d_Sc_fact_2 : decode prog_3_method_7_code 2 = .ok (.iload_n 2, 1) := by decide +kernel
theorem d_Sc_fact_3 : decode prog_3_method_7_code 3 = .ok (.invokevirtual 32, 3) := by decide +kernel
theorem d_Sc_fact_6 : decode prog_3_method_7_code 6 = .ok (.ifCond .eq 16, 3) := by decide +kernel
theorem d_Sc_fact_9 : decode prog_3_method_7_code 9 = .ok (.iload_n 3, 1) := by decide +kernel
theorem d_Sc_fact_10 : decode prog_3_method_7_code 10 = .ok (.ifCond .lt 12, 3) := by decide +kernel
theorem d_Sc_fact_13 : decode prog_3_method_7_code 13 = .ok (.iload_n 3, 1) := by decide +kernel
theorem d_Sc_fact_14 : decode prog_3_method_7_code 14 = .ok (.getstatic 36, 3) := by decide +kernel
theorem d_Sc_fact_17 : decode prog_3_method_7_code 17 = .ok (.iload_n 1, 1) := by decide +kernel
theorem d_Sc_fact_18 : decode prog_3_method_7_code 18 = .ok (.iaload, 1) := by decide +kernel
theorem d_Sc_fact_19 : decode prog_3_method_7_code 19 = .ok (.if_icmp .lt 5, 3) := by decide +kernel
theorem d_Sc_fact_22 : decode prog_3_method_7_code 22 = .ok (.iconst 0, 1) := by decide +kernel
theorem d_Sc_fact_23 : decode prog_3_method_7_code 23 = .ok (.ireturn, 1) := by decide +kernel
theorem d_Sc_fact_24 : decode prog_3_method_7_code 24 = .ok (.aload_n 0, 1) := by decide +kernel
theorem d_Sc_fact_25 : decode prog_3_method_7_code 25 = .ok (.aload_n 0, 1) := by decide +kernel
theorem d_Sc_fact_26 : decode prog_3_method_7_code 26 = .ok (.iload_n 1, 1) := by decide +kernel
theorem d_Sc_fact_27 : decode prog_3_method_7_code 27 = .ok (.iload_n 2, 1) := by decide +kernel
theorem d_Sc_fact_28 : decode prog_3_method_7_code 28 = .ok (.invokevirtual 28, 3) := by decide +kernel
theorem d_Sc_fact_31 : decode prog_3_method_7_code 31 = .ok (.iload_n 3, 1) := by decide +kernel
theorem d_Sc_fact_32 : decode prog_3_method_7_code 32 = .ok (.iadd, 1) := by decide +kernel
theorem d_Sc_fact_33 : decode prog_3_method_7_code 33 = .ok (.invokevirtual 39, 3) := by decide +kernel
theorem d_Sc_fact_36 : decode prog_3_method_7_code 36 = .ok (.ireturn, 1) := by decide +kernel
theorem d_Sc_has_0 : decode prog_3_method_10_code 0 = .ok (.iload_n 2, 1) := by decide +kernel
theorem d_Sc_has_1 : decode prog_3_method_10_code 1 = .ok (.ifCond .lt 16, 3) := by decide +kernel
theorem d_Sc_has_4 : decode prog_3_method_10_code 4 = .ok (.iload_n 2, 1) := by decide +kernel
theorem d_Sc_has_5 : decode prog_3_method_10_code 5 = .ok (.aload_n 0, 1) := by decide +kernel
theorem d_Sc_has_6 : decode prog_3_method_10_code 6 = .ok (.iload_n 1, 1) := by decide +kernel
theorem d_Sc_has_7 : decode prog_3_method_10_code 7 = .ok (.invokevirtual 50, 3) := by decide +kernel
theorem d_Sc_has_10 : decode prog_3_method_10_code 10 = .ok (.if_icmp .ge 7, 3) := by decide +kernel
theorem d_Sc_has_13 : decode prog_3_method_10_code 13 = .ok (.iconst 1, 1) := by decide +kernel
theorem d_Sc_has_14 : decode prog_3_method_10_code 14 = .ok (.goto 4, 3) := by decide +kernel
theorem d_Sc_has_17 : decode prog_3_method_10_code 17 = .ok (.iconst 0, 1) := by decide +kernel
theorem d_Sc_has_18 : decode prog_3_method_10_code 18 = .ok (.ireturn, 1) := by decide +kernel
theorem d_Sc_firstCell_0 : decode prog_3_method_12_code 0 = .ok (.iload_n 1, 1) := by decide +kernel
theorem d_Sc_firstCell_1 : decode prog_3_method_12_code 1 = .ok (.ifCond .lt 8, 3) := by decide +kernel
theorem d_Sc_firstCell_4 : decode prog_3_method_12_code 4 = .ok (.iload_n 1, 1) := by decide +kernel
theorem d_Sc_firstCell_5 : decode prog_3_method_12_code 5 = .ok (.iconst 5, 1) := by decide +kernel
theorem d_Sc_firstCell_6 : decode prog_3_method_12_code 6 = .ok (.if_icmp .lt 7, 3) := by decide +kernel
theorem d_Sc_firstCell_9 : decode prog_3_method_12_code 9 = .ok (.iconst (-1), 1) := by decide +kernel
theorem d_Sc_firstCell_10 : decode prog_3_method_12_code 10 = .ok (.goto 16, 3) := by decide +kernel
theorem d_Sc_firstCell_13 : decode prog_3_method_12_code 13 = .ok (.getstatic 53, 3) := by decide +kernel
theorem d_Sc_firstCell_16 : decode prog_3_method_12_code 16 = .ok (.iload_n 1, 1) := by decide +kernel
theorem d_Sc_firstCell_17 : decode prog_3_method_12_code 17 = .ok (.iaload, 1) := by decide +kernel
theorem d_Sc_firstCell_18 : decode prog_3_method_12_code 18 = .ok (.iload_n 2, 1) := by decide +kernel
theorem d_Sc_firstCell_19 : decode prog_3_method_12_code 19 = .ok (.getstatic 56, 3) := by decide +kernel
theorem d_Sc_firstCell_22 : decode prog_3_method_12_code 22 = .ok (.iload_n 1, 1) := by decide +kernel
theorem d_Sc_firstCell_23 : decode prog_3_method_12_code 23 = .ok (.iaload, 1) := by decide +kernel
theorem d_Sc_firstCell_24 : decode prog_3_method_12_code 24 = .ok (.imul, 1) := by decide +kernel
theorem d_Sc_firstCell_25 : decode prog_3_method_12_code 25 = .ok (.iadd, 1) := by decide +kernel
theorem d_Sc_firstCell_26 : decode prog_3_method_12_code 26 = .ok (.ireturn, 1) := by decide +kernel
theorem d_Sc_cell_0 : decode prog_3_method_11_code 0 = .ok (.iload_n 1, 1) := by decide +kernel
theorem d_Sc_cell_1 : decode prog_3_method_11_code 1 = .ok (.ifCond .lt 9, 3) := by decide +kernel
theorem d_Sc_cell_4 : decode prog_3_method_11_code 4 = .ok (.iload_n 1, 1) := by decide +kernel
theorem d_Sc_cell_5 : decode prog_3_method_11_code 5 = .ok (.ldc 15, 2) := by decide +kernel
theorem d_Sc_cell_7 : decode prog_3_method_11_code 7 = .ok (.if_icmp .lt 7, 3) := by decide +kernel
theorem d_Sc_cell_10 : decode prog_3_method_11_code 10 = .ok (.iconst 0, 1) := by decide +kernel
theorem d_Sc_cell_11 : decode prog_3_method_11_code 11 = .ok (.goto 9, 3) := by decide +kernel
theorem d_Sc_cell_14 : decode prog_3_method_11_code 14 = .ok (.aload_n 0, 1) := by decide +kernel
theorem d_Sc_cell_15 : decode prog_3_method_11_code 15 = .ok (.getfield 16, 3) := by decide +kernel
theorem d_Sc_cell_18 : decode prog_3_method_11_code 18 = .ok (.iload_n 1, 1) := by decide +kernel
theorem d_Sc_cell_19 : decode prog_3_method_11_code 19 = .ok (.iaload, 1) := by decide +kernel
theorem d_Sc_cell_20 : decode prog_3_method_11_code 20 = .ok (.ireturn, 1) := by decide +kernel
theorem d_St_at_0 : decode prog_1_method_9_code 0 = .ok (.aload_n 0, 1) := by decide +kernel
theorem d_St_at_1 : decode prog_1_method_9_code 1 = .ok (.getfield 19, 3) := by decide +kernel
theorem d_St_at_4 : decode prog_1_method_9_code 4 = .ok (.iload_n 1, 1) := by decide +kernel
theorem d_St_at_5 : decode prog_1_method_9_code 5 = .ok (.iload_n 2, 1) := by decide +kernel
theorem d_St_at_6 : decode prog_1_method_9_code 6 = .ok (.iload_n 3, 1) := by decide +kernel
theorem d_St_at_7 : decode prog_1_method_9_code 7 = .ok (.iload 4, 2) := by decide +kernel
theorem d_St_at_9 : decode prog_1_method_9_code 9 = .ok (.invokevirtual 63, 3) := by decide +kernel
theorem d_St_at_12 : decode prog_1_method_9_code 12 = .ok (.ireturn, 1) := by decide +kernel
theorem d_Sc_listed_0 : decode prog_3_method_8_code 0 = .ok (.iload 4, 2) := by decide +kernel
theorem d_Sc_listed_2 : decode prog_3_method_8_code 2 = .ok (.ifCond .lt 15, 3) := by decide +kernel
theorem d_Sc_listed_5 : decode prog_3_method_8_code 5 = .ok (.iload 4, 2) := by decide +kernel
theorem d_Sc_listed_7 : decode prog_3_method_8_code 7 = .ok (.aload_n 0, 1) := by decide +kernel
theorem d_Sc_listed_8 : decode prog_3_method_8_code 8 = .ok (.iload_n 1, 1) := by decide +kernel
theorem d_Sc_listed_9 : decode prog_3_method_8_code 9 = .ok (.iload_n 2, 1) := by decide +kernel
theorem d_Sc_listed_10 : decode prog_3_method_8_code 10 = .ok (.iload_n 3, 1) := by decide +kernel
theorem d_Sc_listed_11 : decode prog_3_method_8_code 11 = .ok (.invokevirtual 43, 3) := by decide +kernel
theorem d_Sc_listed_14 : decode prog_3_method_8_code 14 = .ok (.if_icmp .lt 5, 3) := by decide +kernel
theorem d_Sc_listed_17 : decode prog_3_method_8_code 17 = .ok (.iconst 0, 1) := by decide +kernel
theorem d_Sc_listed_18 : decode prog_3_method_8_code 18 = .ok (.ireturn, 1) := by decide +kernel
theorem d_Sc_listed_19 : decode prog_3_method_8_code 19 = .ok (.aload_n 0, 1) := by decide +kernel
theorem d_Sc_listed_20 : decode prog_3_method_8_code 20 = .ok (.aload_n 0, 1) := by decide +kernel
theorem d_Sc_listed_21 : decode prog_3_method_8_code 21 = .ok (.iload_n 1, 1) := by decide +kernel
theorem d_Sc_listed_22 : decode prog_3_method_8_code 22 = .ok (.iload_n 2, 1) := by decide +kernel
theorem d_Sc_listed_23 : decode prog_3_method_8_code 23 = .ok (.invokevirtual 28, 3) := by decide +kernel
theorem d_Sc_listed_26 : decode prog_3_method_8_code 26 = .ok (.iload_n 1, 1) := by decide +kernel
theorem d_Sc_listed_27 : decode prog_3_method_8_code 27 = .ok (.iload_n 3, 1) := by decide +kernel
theorem d_Sc_listed_28 : decode prog_3_method_8_code 28 = .ok (.invokestatic 47, 3) := by decide +kernel
theorem d_Sc_listed_31 : decode prog_3_method_8_code 31 = .ok (.iadd, 1) := by decide +kernel
theorem d_Sc_listed_32 : decode prog_3_method_8_code 32 = .ok (.iload 4, 2) := by decide +kernel
theorem d_Sc_listed_34 : decode prog_3_method_8_code 34 = .ok (.iadd, 1) := by decide +kernel
theorem d_Sc_listed_35 : decode prog_3_method_8_code 35 = .ok (.invokevirtual 39, 3) := by decide +kernel
theorem d_Sc_listed_38 : decode prog_3_method_8_code 38 = .ok (.ireturn, 1) := by decide +kernel
theorem d_Sc_listLength_0 : decode prog_3_method_13_code 0 = .ok (.iload_n 1, 1) := by decide +kernel
theorem d_Sc_listLength_1 : decode prog_3_method_13_code 1 = .ok (.tableswitch 99 0 4 #[35, 99, 60, 99, 67], 35) := by decide +kernel
theorem d_Sc_listLength_36 : decode prog_3_method_13_code 36 = .ok (.aload_n 0, 1) := by decide +kernel
theorem d_Sc_listLength_37 : decode prog_3_method_13_code 37 = .ok (.iload_n 1, 1) := by decide +kernel
theorem d_Sc_listLength_38 : decode prog_3_method_13_code 38 = .ok (.iload_n 2, 1) := by decide +kernel
theorem d_Sc_listLength_39 : decode prog_3_method_13_code 39 = .ok (.iconst 0, 1) := by decide +kernel
theorem d_Sc_listLength_40 : decode prog_3_method_13_code 40 = .ok (.invokevirtual 59, 3) := by decide +kernel
theorem d_Sc_listLength_43 : decode prog_3_method_13_code 43 = .ok (.istore 4, 2) := by decide +kernel
theorem d_Sc_listLength_45 : decode prog_3_method_13_code 45 = .ok (.iload_n 3, 1) := by decide +kernel
theorem d_Sc_listLength_46 : decode prog_3_method_13_code 46 = .ok (.ifCond .ne 13, 3) := by decide +kernel
theorem d_Sc_listLength_49 : decode prog_3_method_13_code 49 = .ok (.iconst 3, 1) := by decide +kernel
theorem d_Sc_listLength_50 : decode prog_3_method_13_code 50 = .ok (.iload 4, 2) := by decide +kernel
theorem d_Sc_listLength_52 : decode prog_3_method_13_code 52 = .ok (.imul, 1) := by decide +kernel
theorem d_Sc_listLength_53 : decode prog_3_method_13_code 53 = .ok (.iload 4, 2) := by decide +kernel
theorem d_Sc_listLength_55 : decode prog_3_method_13_code 55 = .ok (.imul, 1) := by decide +kernel
theorem d_Sc_listLength_56 : decode prog_3_method_13_code 56 = .ok (.goto 4, 3) := by decide +kernel
theorem d_Sc_listLength_59 : decode prog_3_method_13_code 59 = .ok (.iconst 0, 1) := by decide +kernel
theorem d_Sc_listLength_60 : decode prog_3_method_13_code 60 = .ok (.ireturn, 1) := by decide +kernel
theorem d_Sc_listLength_61 : decode prog_3_method_13_code 61 = .ok (.aload_n 0, 1) := by decide +kernel
theorem d_Sc_listLength_62 : decode prog_3_method_13_code 62 = .ok (.iload_n 2, 1) := by decide +kernel
theorem d_Sc_listLength_63 : decode prog_3_method_13_code 63 = .ok (.iload_n 3, 1) := by decide +kernel
theorem d_Sc_listLength_64 : decode prog_3_method_13_code 64 = .ok (.invokevirtual 62, 3) := by decide +kernel
theorem d_Sc_listLength_67 : decode prog_3_method_13_code 67 = .ok (.ireturn, 1) := by decide +kernel
theorem d_Sc_listLength_68 : decode prog_3_method_13_code 68 = .ok (.aload_n 0, 1) := by decide +kernel
theorem d_Sc_listLength_69 : decode prog_3_method_13_code 69 = .ok (.iload_n 1, 1) := by decide +kernel
theorem d_Sc_listLength_70 : decode prog_3_method_13_code 70 = .ok (.iload_n 2, 1) := by decide +kernel
theorem d_Sc_listLength_71 : decode prog_3_method_13_code 71 = .ok (.iconst 3, 1) := by decide +kernel
theorem d_Sc_listLength_72 : decode prog_3_method_13_code 72 = .ok (.invokevirtual 59, 3) := by decide +kernel
theorem d_Sc_listLength_75 : decode prog_3_method_13_code 75 = .ok (.istore 5, 2) := by decide +kernel
theorem d_Sc_listLength_77 : decode prog_3_method_13_code 77 = .ok (.iload_n 3, 1) := by decide +kernel
theorem d_Sc_listLength_78 : decode prog_3_method_13_code 78 = .ok (.ifCond .ne 8, 3) := by decide +kernel
theorem d_Sc_listLength_81 : decode prog_3_method_13_code 81 = .ok (.iload 5, 2) := by decide +kernel
theorem d_Sc_listLength_83 : decode prog_3_method_13_code 83 = .ok (.goto 16, 3) := by decide +kernel
theorem d_Sc_listLength_86 : decode prog_3_method_13_code 86 = .ok (.iload_n 3, 1) := by decide +kernel
theorem d_Sc_listLength_87 : decode prog_3_method_13_code 87 = .ok (.iconst 1, 1) := by decide +kernel
theorem d_Sc_listLength_88 : decode prog_3_method_13_code 88 = .ok (.if_icmp .ne 10, 3) := by decide +kernel
theorem d_Sc_listLength_91 : decode prog_3_method_13_code 91 = .ok (.iconst 3, 1) := by decide +kernel
theorem d_Sc_listLength_92 : decode prog_3_method_13_code 92 = .ok (.iload 5, 2) := by decide +kernel
theorem d_Sc_listLength_94 : decode prog_3_method_13_code 94 = .ok (.imul, 1) := by decide +kernel
theorem d_Sc_listLength_95 : decode prog_3_method_13_code 95 = .ok (.goto 4, 3) := by decide +kernel
theorem d_Sc_listLength_98 : decode prog_3_method_13_code 98 = .ok (.iconst 0, 1) := by decide +kernel
theorem d_Sc_listLength_99 : decode prog_3_method_13_code 99 = .ok (.ireturn, 1) := by decide +kernel
theorem d_Sc_listLength_100 : decode prog_3_method_13_code 100 = .ok (.iconst 0, 1) := by decide +kernel
theorem d_Sc_listLength_101 : decode prog_3_method_13_code 101 = .ok (.ireturn, 1) := by decide +kernel
theorem d_Sc_meshListLength_0 : decode prog_3_method_14_code 0 = .ok (.aload_n 0, 1) := by decide +kernel
theorem d_Sc_meshListLength_1 : decode prog_3_method_14_code 1 = .ok (.iconst 2, 1) := by decide +kernel
theorem d_Sc_meshListLength_2 : decode prog_3_method_14_code 2 = .ok (.iload_n 1, 1) := by decide +kernel
theorem d_Sc_meshListLength_3 : decode prog_3_method_14_code 3 = .ok (.iconst 1, 1) := by decide +kernel
theorem d_Sc_meshListLength_4 : decode prog_3_method_14_code 4 = .ok (.invokevirtual 59, 3) := by decide +kernel
theorem d_Sc_meshListLength_7 : decode prog_3_method_14_code 7 = .ok (.istore_n 3, 1) := by decide +kernel
theorem d_Sc_meshListLength_8 : decode prog_3_method_14_code 8 = .ok (.iload_n 2, 1) := by decide +kernel
theorem d_Sc_meshListLength_9 : decode prog_3_method_14_code 9 = .ok (.tableswitch 49 0 3 #[31, 31, 35, 39], 31) := by decide +kernel
theorem d_Sc_meshListLength_40 : decode prog_3_method_14_code 40 = .ok (.iconst 3, 1) := by decide +kernel
theorem d_Sc_meshListLength_41 : decode prog_3_method_14_code 41 = .ok (.iload_n 3, 1) := by decide +kernel
theorem d_Sc_meshListLength_42 : decode prog_3_method_14_code 42 = .ok (.imul, 1) := by decide +kernel
theorem d_Sc_meshListLength_43 : decode prog_3_method_14_code 43 = .ok (.ireturn, 1) := by decide +kernel
theorem d_Sc_meshListLength_44 : decode prog_3_method_14_code 44 = .ok (.iconst 2, 1) := by decide +kernel
theorem d_Sc_meshListLength_45 : decode prog_3_method_14_code 45 = .ok (.iload_n 3, 1) := by decide +kernel
theorem d_Sc_meshListLength_46 : decode prog_3_method_14_code 46 = .ok (.imul, 1) := by decide +kernel
theorem d_Sc_meshListLength_47 : decode prog_3_method_14_code 47 = .ok (.ireturn, 1) := by decide +kernel
theorem d_Sc_meshListLength_48 : decode prog_3_method_14_code 48 = .ok (.iconst 3, 1) := by decide +kernel
theorem d_Sc_meshListLength_49 : decode prog_3_method_14_code 49 = .ok (.aload_n 0, 1) := by decide +kernel
theorem d_Sc_meshListLength_50 : decode prog_3_method_14_code 50 = .ok (.iconst 2, 1) := by decide +kernel
theorem d_Sc_meshListLength_51 : decode prog_3_method_14_code 51 = .ok (.iload_n 1, 1) := by decide +kernel
theorem d_Sc_meshListLength_52 : decode prog_3_method_14_code 52 = .ok (.iconst 2, 1) := by decide +kernel
theorem d_Sc_meshListLength_53 : decode prog_3_method_14_code 53 = .ok (.invokevirtual 59, 3) := by decide +kernel
theorem d_Sc_meshListLength_56 : decode prog_3_method_14_code 56 = .ok (.imul, 1) := by decide +kernel
theorem d_Sc_meshListLength_57 : decode prog_3_method_14_code 57 = .ok (.ireturn, 1) := by decide +kernel
theorem d_Sc_meshListLength_58 : decode prog_3_method_14_code 58 = .ok (.iconst 0, 1) := by decide +kernel
theorem d_Sc_meshListLength_59 : decode prog_3_method_14_code 59 = .ok (.ireturn, 1) := by decide +kernel
theorem d_Sc_listStart_0 : decode prog_3_method_15_code 0 = .ok (.iload_n 0, 1) := by decide +kernel
theorem d_Sc_listStart_1 : decode prog_3_method_15_code 1 = .ok (.ifCond .ne 5, 3) := by decide +kernel
theorem d_Sc_listStart_4 : decode prog_3_method_15_code 4 = .ok (.iconst 3, 1) := by decide +kernel
theorem d_Sc_listStart_5 : decode prog_3_method_15_code 5 = .ok (.ireturn, 1) := by decide +kernel
theorem d_Sc_listStart_6 : decode prog_3_method_15_code 6 = .ok (.iload_n 0, 1) := by decide +kernel
theorem d_Sc_listStart_7 : decode prog_3_method_15_code 7 = .ok (.iconst 4, 1) := by decide +kernel
theorem d_Sc_listStart_8 : decode prog_3_method_15_code 8 = .ok (.if_icmp .ne 14, 3) := by decide +kernel
theorem d_Sc_listStart_11 : decode prog_3_method_15_code 11 = .ok (.iload_n 1, 1) := by decide +kernel
theorem d_Sc_listStart_12 : decode prog_3_method_15_code 12 = .ok (.ifCond .ne 7, 3) := by decide +kernel
theorem d_Sc_listStart_15 : decode prog_3_method_15_code 15 = .ok (.iconst 4, 1) := by decide +kernel
theorem d_Sc_listStart_16 : decode prog_3_method_15_code 16 = .ok (.goto 5, 3) := by decide +kernel
theorem d_Sc_listStart_19 : decode prog_3_method_15_code 19 = .ok (.bipush 36, 2) := by decide +kernel
theorem d_Sc_listStart_21 : decode prog_3_method_15_code 21 = .ok (.ireturn, 1) := by decide +kernel
theorem d_Sc_listStart_22 : decode prog_3_method_15_code 22 = .ok (.iload_n 1, 1) := by decide +kernel
theorem d_Sc_listStart_23 : decode prog_3_method_15_code 23 = .ok (.tableswitch 35 0 2 #[25, 27, 31], 25) := by decide +kernel
theorem d_Sc_listStart_48 : decode prog_3_method_15_code 48 = .ok (.iconst 3, 1) := by decide +kernel
theorem d_Sc_listStart_49 : decode prog_3_method_15_code 49 = .ok (.ireturn, 1) := by decide +kernel
theorem d_Sc_listStart_50 : decode prog_3_method_15_code 50 = .ok (.sipush 387, 3) := by decide +kernel
theorem d_Sc_listStart_53 : decode prog_3_method_15_code 53 = .ok (.ireturn, 1) := by decide +kernel
theorem d_Sc_listStart_54 : decode prog_3_method_15_code 54 = .ok (.sipush 771, 3) := by decide +kernel
theorem d_Sc_listStart_57 : decode prog_3_method_15_code 57 = .ok (.ireturn, 1) := by decide +kernel
theorem d_Sc_listStart_58 : decode prog_3_method_15_code 58 = .ok (.sipush 1027, 3) := by decide +kernel
theorem d_Sc_listStart_61 : decode prog_3_method_15_code 61 = .ok (.ireturn, 1) := by decide +kernel
theorem d_St_view_0 : decode prog_1_method_10_code 0 = .ok (.aload_n 0, 1) := by decide +kernel
theorem d_St_view_1 : decode prog_1_method_10_code 1 = .ok (.getfield 19, 3) := by decide +kernel
theorem d_St_view_4 : decode prog_1_method_10_code 4 = .ok (.iload_n 1, 1) := by decide +kernel
theorem d_St_view_5 : decode prog_1_method_10_code 5 = .ok (.invokevirtual 67, 3) := by decide +kernel
theorem d_St_view_8 : decode prog_1_method_10_code 8 = .ok (.ireturn, 1) := by decide +kernel
theorem d_Sc_seen_0 : decode prog_3_method_9_code 0 = .ok (.iload_n 1, 1) := by decide +kernel
theorem d_Sc_seen_1 : decode prog_3_method_9_code 1 = .ok (.ifCond .lt 9, 3) := by decide +kernel
theorem d_Sc_seen_4 : decode prog_3_method_9_code 4 = .ok (.iload_n 1, 1) := by decide +kernel
theorem d_Sc_seen_5 : decode prog_3_method_9_code 5 = .ok (.bipush 11, 2) := by decide +kernel
theorem d_Sc_seen_7 : decode prog_3_method_9_code 7 = .ok (.if_icmp .lt 7, 3) := by decide +kernel
theorem d_Sc_seen_10 : decode prog_3_method_9_code 10 = .ok (.iconst 0, 1) := by decide +kernel
theorem d_Sc_seen_11 : decode prog_3_method_9_code 11 = .ok (.goto 9, 3) := by decide +kernel
theorem d_Sc_seen_14 : decode prog_3_method_9_code 14 = .ok (.aload_n 0, 1) := by decide +kernel
theorem d_Sc_seen_15 : decode prog_3_method_9_code 15 = .ok (.getfield 16, 3) := by decide +kernel
theorem d_Sc_seen_18 : decode prog_3_method_9_code 18 = .ok (.iload_n 1, 1) := by decide +kernel
theorem d_Sc_seen_19 : decode prog_3_method_9_code 19 = .ok (.iaload, 1) := by decide +kernel
theorem d_Sc_seen_20 : decode prog_3_method_9_code 20 = .ok (.ireturn, 1) := by decide +kernel
theorem d_St_load_0 : decode prog_1_method_5_code 0 = .ok (.aload_n 0, 1) := by decide +kernel
theorem d_St_load_1 : decode prog_1_method_5_code 1 = .ok (.aload_n 0, 1) := by decide +kernel
theorem d_St_load_2 : decode prog_1_method_5_code 2 = .ok (.getfield 10, 3) := by decide +kernel
theorem d_St_load_5 : decode prog_1_method_5_code 5 = .ok (.aload_n 0, 1) := by decide +kernel
theorem d_St_load_6 : decode prog_1_method_5_code 6 = .ok (.getfield 19, 3) := by decide +kernel
theorem d_St_load_9 : decode prog_1_method_5_code 9 = .ok (.invokevirtual 45, 3) := by decide +kernel
theorem d_St_load_12 : decode prog_1_method_5_code 12 = .ok (.putfield 19, 3) := by decide +kernel
theorem d_St_load_15 : decode prog_1_method_5_code 15 = .ok (.aload_n 0, 1) := by decide +kernel
theorem d_St_load_16 : decode prog_1_method_5_code 16 = .ok (.getfield 19, 3) := by decide +kernel
theorem d_St_load_19 : decode prog_1_method_5_code 19 = .ok (.iconst 3, 1) := by decide +kernel
theorem d_St_load_20 : decode prog_1_method_5_code 20 = .ok (.invokevirtual 49, 3) := by decide +kernel
theorem d_St_load_23 : decode prog_1_method_5_code 23 = .ok (.ireturn, 1) := by decide +kernel
theorem d_Rd_read_0 : decode prog_2_method_2_code 0 = .ok (.aload_n 0, 1) := by decide +kernel
theorem d_Rd_read_1 : decode prog_2_method_2_code 1 = .ok (.getfield 12, 3) := by decide +kernel
theorem d_Rd_read_4 : decode prog_2_method_2_code 4 = .ok (.invokevirtual 25, 3) := by decide +kernel
theorem d_Rd_read_7 : decode prog_2_method_2_code 7 = .ok (.aload_n 0, 1) := by decide +kernel
theorem d_Rd_read_8 : decode prog_2_method_2_code 8 = .ok (.getfield 21, 3) := by decide +kernel
theorem d_Rd_read_11 : decode prog_2_method_2_code 11 = .ok (.invokevirtual 28, 3) := by decide +kernel
theorem d_Rd_read_14 : decode prog_2_method_2_code 14 = .ok (.aload_n 0, 1) := by decide +kernel
theorem d_Rd_read_15 : decode prog_2_method_2_code 15 = .ok (.getfield 12, 3) := by decide +kernel
theorem d_Rd_read_18 : decode prog_2_method_2_code 18 = .ok (.bipush 123, 2) := by decide +kernel
theorem d_Rd_read_20 : decode prog_2_method_2_code 20 = .ok (.invokevirtual 31, 3) := by decide +kernel
theorem d_Rd_read_23 : decode prog_2_method_2_code 23 = .ok (.aload_n 0, 1) := by decide +kernel
theorem d_Rd_read_24 : decode prog_2_method_2_code 24 = .ok (.getfield 12, 3) := by decide +kernel
theorem d_Rd_read_27 : decode prog_2_method_2_code 27 = .ok (.bipush 125, 2) := by decide +kernel
theorem d_Rd_read_29 : decode prog_2_method_2_code 29 = .ok (.invokevirtual 35, 3) := by decide +kernel
theorem d_Rd_read_32 : decode prog_2_method_2_code 32 = .ok (.ifCond .ne 7, 3) := by decide +kernel
theorem d_Rd_read_35 : decode prog_2_method_2_code 35 = .ok (.iconst 1, 1) := by decide +kernel
theorem d_Rd_read_36 : decode prog_2_method_2_code 36 = .ok (.goto 4, 3) := by decide +kernel
theorem d_Rd_read_39 : decode prog_2_method_2_code 39 = .ok (.iconst 0, 1) := by decide +kernel
theorem d_Rd_read_40 : decode prog_2_method_2_code 40 = .ok (.istore_n 2, 1) := by decide +kernel
theorem d_Rd_read_41 : decode prog_2_method_2_code 41 = .ok (.iconst 0, 1) := by decide +kernel
theorem d_Rd_read_42 : decode prog_2_method_2_code 42 = .ok (.istore_n 3, 1) := by decide +kernel
theorem d_Rd_read_43 : decode prog_2_method_2_code 43 = .ok (.iload_n 3, 1) := by decide +kernel
theorem d_Rd_read_44 : decode prog_2_method_2_code 44 = .ok (.bipush 7, 2) := by decide +kernel
theorem d_Rd_read_46 : decode prog_2_method_2_code 46 = .ok (.if_icmp .ge 90, 3) := by decide +kernel
theorem d_Rd_read_49 : decode prog_2_method_2_code 49 = .ok (.iload_n 2, 1) := by decide +kernel
theorem d_Rd_read_50 : decode prog_2_method_2_code 50 = .ok (.ifCond .eq 80, 3) := by decide +kernel
theorem d_Rd_read_53 : decode prog_2_method_2_code 53 = .ok (.aload_n 0, 1) := by decide +kernel
theorem d_Rd_read_54 : decode prog_2_method_2_code 54 = .ok (.getfield 12, 3) := by decide +kernel
theorem d_Rd_read_57 : decode prog_2_method_2_code 57 = .ok (.iload_n 3, 1) := by decide +kernel
theorem d_Rd_read_58 : decode prog_2_method_2_code 58 = .ok (.invokestatic 39, 3) := by decide +kernel
theorem d_Rd_read_61 : decode prog_2_method_2_code 61 = .ok (.invokevirtual 43, 3) := by decide +kernel
theorem d_Rd_read_64 : decode prog_2_method_2_code 64 = .ok (.ifCond .eq 66, 3) := by decide +kernel
theorem d_Rd_read_67 : decode prog_2_method_2_code 67 = .ok (.aload_n 0, 1) := by decide +kernel
theorem d_Rd_read_68 : decode prog_2_method_2_code 68 = .ok (.getfield 12, 3) := by decide +kernel
theorem d_Rd_read_71 : decode prog_2_method_2_code 71 = .ok (.bipush 58, 2) := by decide +kernel
theorem d_Rd_read_73 : decode prog_2_method_2_code 73 = .ok (.invokevirtual 31, 3) := by decide +kernel
theorem d_Rd_read_76 : decode prog_2_method_2_code 76 = .ok (.iload_n 3, 1) := by decide +kernel
theorem d_Rd_read_77 : decode prog_2_method_2_code 77 = .ok (.iconst 5, 1) := by decide +kernel
theorem d_Rd_read_78 : decode prog_2_method_2_code 78 = .ok (.if_icmp .ne 10, 3) := by decide +kernel
theorem d_Rd_read_81 : decode prog_2_method_2_code 81 = .ok (.aload_n 0, 1) := by decide +kernel
theorem d_Rd_read_82 : decode prog_2_method_2_code 82 = .ok (.invokevirtual 47, 3) := by decide +kernel
theorem d_Rd_read_85 : decode prog_2_method_2_code 85 = .ok (.goto 21, 3) := by decide +kernel
theorem d_Rd_read_88 : decode prog_2_method_2_code 88 = .ok (.iload_n 3, 1) := by decide +kernel
theorem d_Rd_read_89 : decode prog_2_method_2_code 89 = .ok (.bipush 6, 2) := by decide +kernel
theorem d_Rd_read_91 : decode prog_2_method_2_code 91 = .ok (.if_icmp .ne 10, 3) := by decide +kernel
theorem d_Rd_read_94 : decode prog_2_method_2_code 94 = .ok (.aload_n 0, 1) := by decide +kernel
theorem d_Rd_read_95 : decode prog_2_method_2_code 95 = .ok (.invokevirtual 50, 3) := by decide +kernel
theorem d_Rd_read_98 : decode prog_2_method_2_code 98 = .ok (.goto 8, 3) := by decide +kernel
theorem d_Rd_read_101 : decode prog_2_method_2_code 101 = .ok (.aload_n 0, 1) := by decide +kernel
theorem d_Rd_read_102 : decode prog_2_method_2_code 102 = .ok (.iload_n 3, 1) := by decide +kernel
theorem d_Rd_read_103 : decode prog_2_method_2_code 103 = .ok (.invokevirtual 53, 3) := by decide +kernel
theorem d_Rd_read_106 : decode prog_2_method_2_code 106 = .ok (.iload_n 3, 1) := by decide +kernel
theorem d_Rd_read_107 : decode prog_2_method_2_code 107 = .ok (.bipush 6, 2) := by decide +kernel
theorem d_Rd_read_109 : decode prog_2_method_2_code 109 = .ok (.if_icmp .ge 19, 3) := by decide +kernel
theorem d_Rd_read_112 : decode prog_2_method_2_code 112 = .ok (.aload_n 0, 1) := by decide +kernel
theorem d_Rd_read_113 : decode prog_2_method_2_code 113 = .ok (.getfield 12, 3) := by decide +kernel
theorem d_Rd_read_116 : decode prog_2_method_2_code 116 = .ok (.bipush 44, 2) := by decide +kernel
theorem d_Rd_read_118 : decode prog_2_method_2_code 118 = .ok (.invokevirtual 57, 3) := by decide +kernel
theorem d_Rd_read_121 : decode prog_2_method_2_code 121 = .ok (.ifCond .eq 7, 3) := by decide +kernel
theorem d_Rd_read_124 : decode prog_2_method_2_code 124 = .ok (.iconst 1, 1) := by decide +kernel
theorem d_Rd_read_125 : decode prog_2_method_2_code 125 = .ok (.goto 4, 3) := by decide +kernel
theorem d_Rd_read_128 : decode prog_2_method_2_code 128 = .ok (.iconst 0, 1) := by decide +kernel
theorem d_Rd_read_129 : decode prog_2_method_2_code 129 = .ok (.istore_n 2, 1) := by decide +kernel
theorem d_Rd_read_130 : decode prog_2_method_2_code 130 = .ok (.iinc 3 1, 3) := by decide +kernel
theorem d_Rd_read_133 : decode prog_2_method_2_code 133 = .ok (.goto (-90), 3) := by decide +kernel
theorem d_Rd_read_136 : decode prog_2_method_2_code 136 = .ok (.iload_n 2, 1) := by decide +kernel
theorem d_Rd_read_137 : decode prog_2_method_2_code 137 = .ok (.ifCond .eq 18, 3) := by decide +kernel
theorem d_Rd_read_140 : decode prog_2_method_2_code 140 = .ok (.aload_n 0, 1) := by decide +kernel
theorem d_Rd_read_141 : decode prog_2_method_2_code 141 = .ok (.getfield 12, 3) := by decide +kernel
theorem d_Rd_read_144 : decode prog_2_method_2_code 144 = .ok (.iconst 1, 1) := by decide +kernel
theorem d_Rd_read_145 : decode prog_2_method_2_code 145 = .ok (.aload_n 0, 1) := by decide +kernel
theorem d_Rd_read_146 : decode prog_2_method_2_code 146 = .ok (.getfield 12, 3) := by decide +kernel
theorem d_Rd_read_149 : decode prog_2_method_2_code 149 = .ok (.getfield 60, 3) := by decide +kernel
theorem d_Rd_read_152 : decode prog_2_method_2_code 152 = .ok (.invokevirtual 64, 3) := by decide +kernel
theorem d_Rd_read_155 : decode prog_2_method_2_code 155 = .ok (.aload_n 0, 1) := by decide +kernel
theorem d_Rd_read_156 : decode prog_2_method_2_code 156 = .ok (.getfield 12, 3) := by decide +kernel
theorem d_Rd_read_159 : decode prog_2_method_2_code 159 = .ok (.bipush 125, 2) := by decide +kernel
theorem d_Rd_read_161 : decode prog_2_method_2_code 161 = .ok (.invokevirtual 31, 3) := by decide +kernel
theorem d_Rd_read_164 : decode prog_2_method_2_code 164 = .ok (.aload_n 0, 1) := by decide +kernel
theorem d_Rd_read_165 : decode prog_2_method_2_code 165 = .ok (.getfield 12, 3) := by decide +kernel
theorem d_Rd_read_168 : decode prog_2_method_2_code 168 = .ok (.invokevirtual 68, 3) := by decide +kernel
theorem d_Rd_read_171 : decode prog_2_method_2_code 171 = .ok (.ifCond .ne 18, 3) := by decide +kernel
theorem d_Rd_read_174 : decode prog_2_method_2_code 174 = .ok (.aload_n 0, 1) := by decide +kernel
theorem d_Rd_read_175 : decode prog_2_method_2_code 175 = .ok (.getfield 12, 3) := by decide +kernel
theorem d_Rd_read_178 : decode prog_2_method_2_code 178 = .ok (.iconst 1, 1) := by decide +kernel
theorem d_Rd_read_179 : decode prog_2_method_2_code 179 = .ok (.aload_n 0, 1) := by decide +kernel
theorem d_Rd_read_180 : decode prog_2_method_2_code 180 = .ok (.getfield 12, 3) := by decide +kernel
theorem d_Rd_read_183 : decode prog_2_method_2_code 183 = .ok (.getfield 60, 3) := by decide +kernel
theorem d_Rd_read_186 : decode prog_2_method_2_code 186 = .ok (.invokevirtual 64, 3) := by decide +kernel
theorem d_Rd_read_189 : decode prog_2_method_2_code 189 = .ok (.aload_n 0, 1) := by decide +kernel
theorem d_Rd_read_190 : decode prog_2_method_2_code 190 = .ok (.getfield 21, 3) := by decide +kernel
theorem d_Rd_read_193 : decode prog_2_method_2_code 193 = .ok (.astore_n 3, 1) := by decide +kernel
theorem d_Rd_read_194 : decode prog_2_method_2_code 194 = .ok (.aload_n 0, 1) := by decide +kernel
theorem d_Rd_read_195 : decode prog_2_method_2_code 195 = .ok (.aload_n 1, 1) := by decide +kernel
theorem d_Rd_read_196 : decode prog_2_method_2_code 196 = .ok (.putfield 21, 3) := by decide +kernel
theorem d_Rd_read_199 : decode prog_2_method_2_code 199 = .ok (.aload_n 3, 1) := by decide +kernel
theorem d_Rd_read_200 : decode prog_2_method_2_code 200 = .ok (.areturn, 1) := by decide +kernel
theorem d_Tp_begin_0 : decode prog_4_method_5_code 0 = .ok (.aload_n 0, 1) := by decide +kernel
theorem d_Tp_begin_1 : decode prog_4_method_5_code 1 = .ok (.aload_n 0, 1) := by decide +kernel
theorem d_Tp_begin_2 : decode prog_4_method_5_code 2 = .ok (.getfield 16, 3) := by decide +kernel
theorem d_Tp_begin_5 : decode prog_4_method_5_code 5 = .ok (.putfield 20, 3) := by decide +kernel
theorem d_Tp_begin_8 : decode prog_4_method_5_code 8 = .ok (.aload_n 0, 1) := by decide +kernel
theorem d_Tp_begin_9 : decode prog_4_method_5_code 9 = .ok (.iconst 0, 1) := by decide +kernel
theorem d_Tp_begin_10 : decode prog_4_method_5_code 10 = .ok (.putfield 16, 3) := by decide +kernel
theorem d_Tp_begin_13 : decode prog_4_method_5_code 13 = .ok (.aload_n 0, 1) := by decide +kernel
theorem d_Tp_begin_14 : decode prog_4_method_5_code 14 = .ok (.iconst 0, 1) := by decide +kernel
theorem d_Tp_begin_15 : decode prog_4_method_5_code 15 = .ok (.putfield 29, 3) := by decide +kernel
theorem d_Tp_begin_18 : decode prog_4_method_5_code 18 = .ok (.aload_n 0, 1) := by decide +kernel
theorem d_Tp_begin_19 : decode prog_4_method_5_code 19 = .ok (.iconst 0, 1) := by decide +kernel
theorem d_Tp_begin_20 : decode prog_4_method_5_code 20 = .ok (.putfield 32, 3) := by decide +kernel
theorem d_Tp_begin_23 : decode prog_4_method_5_code 23 = .ok (.aload_n 0, 1) := by decide +kernel
theorem d_Tp_begin_24 : decode prog_4_method_5_code 24 = .ok (.iconst 0, 1) := by decide +kernel
theorem d_Tp_begin_25 : decode prog_4_method_5_code 25 = .ok (.invokevirtual 36, 3) := by decide +kernel
theorem d_Tp_begin_28 : decode prog_4_method_5_code 28 = .ok (.return_, 1) := by decide +kernel
theorem d_Tp_goOnFrom_0 : decode prog_4_method_13_code 0 = .ok (.iload_n 1, 1) := by decide +kernel
theorem d_Tp_goOnFrom_1 : decode prog_4_method_13_code 1 = .ok (.istore_n 2, 1) := by decide +kernel
theorem d_Tp_goOnFrom_2 : decode prog_4_method_13_code 2 = .ok (.iload_n 2, 1) := by decide +kernel
theorem d_Tp_goOnFrom_3 : decode prog_4_method_13_code 3 = .ok (.aload_n 0, 1) := by decide +kernel
theorem d_Tp_goOnFrom_4 : decode prog_4_method_13_code 4 = .ok (.getfield 20, 3) := by decide +kernel
theorem d_Tp_goOnFrom_7 : decode prog_4_method_13_code 7 = .ok (.if_icmp .ge 53, 3) := by decide +kernel
theorem d_Tp_goOnFrom_10 : decode prog_4_method_13_code 10 = .ok (.aload_n 0, 1) := by decide +kernel
theorem d_Tp_goOnFrom_11 : decode prog_4_method_13_code 11 = .ok (.getfield 12, 3) := by decide +kernel
theorem d_Tp_goOnFrom_14 : decode prog_4_method_13_code 14 = .ok (.iload_n 2, 1) := by decide +kernel
theorem d_Tp_goOnFrom_15 : decode prog_4_method_13_code 15 = .ok (.baload, 1) := by decide +kernel
theorem d_Tp_goOnFrom_16 : decode prog_4_method_13_code 16 = .ok (.bipush 32, 2) := by decide +kernel
theorem d_Tp_goOnFrom_18 : decode prog_4_method_13_code 18 = .ok (.if_icmp .eq 36, 3) := by decide +kernel
theorem d_Tp_goOnFrom_21 : decode prog_4_method_13_code 21 = .ok (.aload_n 0, 1) := by decide +kernel
theorem d_Tp_goOnFrom_22 : decode prog_4_method_13_code 22 = .ok (.getfield 12, 3) := by decide +kernel
theorem d_Tp_goOnFrom_25 : decode prog_4_method_13_code 25 = .ok (.iload_n 2, 1) := by decide +kernel
theorem d_Tp_goOnFrom_26 : decode prog_4_method_13_code 26 = .ok (.baload, 1) := by decide +kernel
theorem d_Tp_goOnFrom_27 : decode prog_4_method_13_code 27 = .ok (.bipush 10, 2) := by decide +kernel
theorem d_Tp_goOnFrom_29 : decode prog_4_method_13_code 29 = .ok (.if_icmp .eq 25, 3) := by decide +kernel
theorem d_Tp_goOnFrom_32 : decode prog_4_method_13_code 32 = .ok (.aload_n 0, 1) := by decide +kernel
theorem d_Tp_goOnFrom_33 : decode prog_4_method_13_code 33 = .ok (.getfield 12, 3) := by decide +kernel
theorem d_Tp_goOnFrom_36 : decode prog_4_method_13_code 36 = .ok (.iload_n 2, 1) := by decide +kernel
theorem d_Tp_goOnFrom_37 : decode prog_4_method_13_code 37 = .ok (.baload, 1) := by decide +kernel
theorem d_Tp_goOnFrom_38 : decode prog_4_method_13_code 38 = .ok (.bipush 13, 2) := by decide +kernel
theorem d_Tp_goOnFrom_40 : decode prog_4_method_13_code 40 = .ok (.if_icmp .eq 14, 3) := by decide +kernel
theorem d_Tp_goOnFrom_43 : decode prog_4_method_13_code 43 = .ok (.aload_n 0, 1) := by decide +kernel
theorem d_Tp_goOnFrom_44 : decode prog_4_method_13_code 44 = .ok (.getfield 12, 3) := by decide +kernel
theorem d_Tp_goOnFrom_47 : decode prog_4_method_13_code 47 = .ok (.iload_n 2, 1) := by decide +kernel
theorem d_Tp_goOnFrom_48 : decode prog_4_method_13_code 48 = .ok (.baload, 1) := by decide +kernel
theorem d_Tp_goOnFrom_49 : decode prog_4_method_13_code 49 = .ok (.bipush 9, 2) := by decide +kernel
theorem d_Tp_goOnFrom_51 : decode prog_4_method_13_code 51 = .ok (.if_icmp .ne 9, 3) := by decide +kernel
theorem d_Tp_goOnFrom_54 : decode prog_4_method_13_code 54 = .ok (.iinc 2 1, 3) := by decide +kernel
theorem d_Tp_goOnFrom_57 : decode prog_4_method_13_code 57 = .ok (.goto (-55), 3) := by decide +kernel
theorem d_Tp_goOnFrom_60 : decode prog_4_method_13_code 60 = .ok (.aload_n 0, 1) := by decide +kernel
theorem d_Tp_goOnFrom_61 : decode prog_4_method_13_code 61 = .ok (.iload_n 2, 1) := by decide +kernel
theorem d_Tp_goOnFrom_62 : decode prog_4_method_13_code 62 = .ok (.putfield 23, 3) := by decide +kernel
theorem d_Tp_goOnFrom_65 : decode prog_4_method_13_code 65 = .ok (.return_, 1) := by decide +kernel
theorem d_Tp_mustTake_0 : decode prog_4_method_10_code 0 = .ok (.aload_n 0, 1) := by decide +kernel
theorem d_Tp_mustTake_1 : decode prog_4_method_10_code 1 = .ok (.iload_n 1, 1) := by decide +kernel
theorem d_Tp_mustTake_2 : decode prog_4_method_10_code 2 = .ok (.invokevirtual 47, 3) := by decide +kernel
theorem d_Tp_mustTake_5 : decode prog_4_method_10_code 5 = .ok (.ifCond .ne 12, 3) := by decide +kernel
theorem d_Tp_mustTake_8 : decode prog_4_method_10_code 8 = .ok (.aload_n 0, 1) := by decide +kernel
theorem d_Tp_mustTake_9 : decode prog_4_method_10_code 9 = .ok (.iconst 1, 1) := by decide +kernel
theorem d_Tp_mustTake_10 : decode prog_4_method_10_code 10 = .ok (.aload_n 0, 1) := by decide +kernel
theorem d_Tp_mustTake_11 : decode prog_4_method_10_code 11 = .ok (.getfield 23, 3) := by decide +kernel
theorem d_Tp_mustTake_14 : decode prog_4_method_10_code 14 = .ok (.invokevirtual 51, 3) := by decide +kernel
theorem d_Tp_mustTake_17 : decode prog_4_method_10_code 17 = .ok (.aload_n 0, 1) := by decide +kernel
theorem d_Tp_mustTake_18 : decode prog_4_method_10_code 18 = .ok (.aload_n 0, 1) := by decide +kernel
theorem d_Tp_mustTake_19 : decode prog_4_method_10_code 19 = .ok (.getfield 23, 3) := by decide +kernel
theorem d_Tp_mustTake_22 : decode prog_4_method_10_code 22 = .ok (.iconst 1, 1) := by decide +kernel
theorem d_Tp_mustTake_23 : decode prog_4_method_10_code 23 = .ok (.iadd, 1) := by decide +kernel
theorem d_Tp_mustTake_24 : decode prog_4_method_10_code 24 = .ok (.invokevirtual 36, 3) := by decide +kernel
theorem d_Tp_mustTake_27 : decode prog_4_method_10_code 27 = .ok (.return_, 1) := by decide +kernel
theorem d_Tp_sees_0 : decode prog_4_method_8_code 0 = .ok (.aload_n 0, 1) := by decide +kernel
theorem d_Tp_sees_1 : decode prog_4_method_8_code 1 = .ok (.getfield 23, 3) := by decide +kernel
theorem d_Tp_sees_4 : decode prog_4_method_8_code 4 = .ok (.aload_n 0, 1) := by decide +kernel
theorem d_Tp_sees_5 : decode prog_4_method_8_code 5 = .ok (.getfield 20, 3) := by decide +kernel
theorem d_Tp_sees_8 : decode prog_4_method_8_code 8 = .ok (.if_icmp .ge 20, 3) := by decide +kernel
theorem d_Tp_sees_11 : decode prog_4_method_8_code 11 = .ok (.aload_n 0, 1) := by decide +kernel
theorem d_Tp_sees_12 : decode prog_4_method_8_code 12 = .ok (.getfield 12, 3) := by decide +kernel
theorem d_Tp_sees_15 : decode prog_4_method_8_code 15 = .ok (.aload_n 0, 1) := by decide +kernel
theorem d_Tp_sees_16 : decode prog_4_method_8_code 16 = .ok (.getfield 23, 3) := by decide +kernel
theorem d_Tp_sees_19 : decode prog_4_method_8_code 19 = .ok (.baload, 1) := by decide +kernel
theorem d_Tp_sees_20 : decode prog_4_method_8_code 20 = .ok (.iload_n 1, 1) := by decide +kernel
theorem d_Tp_sees_21 : decode prog_4_method_8_code 21 = .ok (.if_icmp .ne 7, 3) := by decide +kernel
theorem d_Tp_sees_24 : decode prog_4_method_8_code 24 = .ok (.iconst 1, 1) := by decide +kernel
theorem d_Tp_sees_25 : decode prog_4_method_8_code 25 = .ok (.goto 4, 3) := by decide +kernel
theorem d_Tp_sees_28 : decode prog_4_method_8_code 28 = .ok (.iconst 0, 1) := by decide +kernel
theorem d_Tp_sees_29 : decode prog_4_method_8_code 29 = .ok (.ireturn, 1) := by decide +kernel
theorem d_Tp_refuse_0 : decode prog_4_method_6_code 0 = .ok (.aload_n 0, 1) := by decide +kernel
theorem d_Tp_refuse_1 : decode prog_4_method_6_code 1 = .ok (.iload_n 1, 1) := by decide +kernel
theorem d_Tp_refuse_2 : decode prog_4_method_6_code 2 = .ok (.putfield 29, 3) := by decide +kernel
theorem d_Tp_refuse_5 : decode prog_4_method_6_code 5 = .ok (.aload_n 0, 1) := by decide +kernel
theorem d_Tp_refuse_6 : decode prog_4_method_6_code 6 = .ok (.iload_n 2, 1) := by decide +kernel
theorem d_Tp_refuse_7 : decode prog_4_method_6_code 7 = .ok (.putfield 32, 3) := by decide +kernel
theorem d_Tp_refuse_10 : decode prog_4_method_6_code 10 = .ok (.new 40, 3) := by decide +kernel
theorem d_Tp_refuse_13 : decode prog_4_method_6_code 13 = .ok (.dup, 1) := by decide +kernel
theorem d_Tp_refuse_14 : decode prog_4_method_6_code 14 = .ok (.ldc 42, 2) := by decide +kernel
theorem d_Tp_refuse_16 : decode prog_4_method_6_code 16 = .ok (.invokespecial 44, 3) := by decide +kernel
theorem d_Tp_refuse_19 : decode prog_4_method_6_code 19 = .ok (.athrow, 1) := by decide +kernel
theorem d_Rd_partName_0 : decode prog_2_method_3_code 0 = .ok (.iload_n 0, 1) := by decide +kernel
theorem d_Rd_partName_1 : decode prog_2_method_3_code 1 = .ok (.tableswitch 57 0 5 #[39, 42, 45, 48, 51, 54], 39) := by decide +kernel
theorem d_Rd_partName_40 : decode prog_2_method_3_code 40 = .ok (.ldc 72, 2) := by decide +kernel
theorem d_Rd_partName_42 : decode prog_2_method_3_code 42 = .ok (.areturn, 1) := by decide +kernel
theorem d_Rd_partName_43 : decode prog_2_method_3_code 43 = .ok (.ldc 74, 2) := by decide +kernel
theorem d_Rd_partName_45 : decode prog_2_method_3_code 45 = .ok (.areturn, 1) := by decide +kernel
theorem d_Rd_partName_46 : decode prog_2_method_3_code 46 = .ok (.ldc 76, 2) := by decide +kernel
theorem d_Rd_partName_48 : decode prog_2_method_3_code 48 = .ok (.areturn, 1) := by decide +kernel
theorem d_Rd_partName_49 : decode prog_2_method_3_code 49 = .ok (.ldc 78, 2) := by decide +kernel
theorem d_Rd_partName_51 : decode prog_2_method_3_code 51 = .ok (.areturn, 1) := by decide +kernel
theorem d_Rd_partName_52 : decode prog_2_method_3_code 52 = .ok (.ldc 80, 2) := by decide +kernel
theorem d_Rd_partName_54 : decode prog_2_method_3_code 54 = .ok (.areturn, 1) := by decide +kernel
theorem d_Rd_partName_55 : decode prog_2_method_3_code 55 = .ok (.ldc 82, 2) := by decide +kernel
theorem d_Rd_partName_57 : decode prog_2_method_3_code 57 = .ok (.areturn, 1) := by decide +kernel
theorem d_Rd_partName_58 : decode prog_2_method_3_code 58 = .ok (.ldc 84, 2) := by decide +kernel
theorem d_Rd_partName_60 : decode prog_2_method_3_code 60 = .ok (.areturn, 1) := by decide +kernel
theorem d_Tp_takesWord_0 : decode prog_4_method_11_code 0 = .ok (.aload_n 1, 1) := by decide +kernel
theorem d_Tp_takesWord_1 : decode prog_4_method_11_code 1 = .ok (.invokevirtual 55, 3) := by decide +kernel
theorem d_Tp_takesWord_4 : decode prog_4_method_11_code 4 = .ok (.istore_n 2, 1) := by decide +kernel
theorem d_Tp_takesWord_5 : decode prog_4_method_11_code 5 = .ok (.aload_n 0, 1) := by decide +kernel
theorem d_Tp_takesWord_6 : decode prog_4_method_11_code 6 = .ok (.getfield 23, 3) := by decide +kernel
theorem d_Tp_takesWord_9 : decode prog_4_method_11_code 9 = .ok (.iconst 1, 1) := by decide +kernel
theorem d_Tp_takesWord_10 : decode prog_4_method_11_code 10 = .ok (.iadd, 1) := by decide +kernel
theorem d_Tp_takesWord_11 : decode prog_4_method_11_code 11 = .ok (.iload_n 2, 1) := by decide +kernel
theorem d_Tp_takesWord_12 : decode prog_4_method_11_code 12 = .ok (.iadd, 1) := by decide +kernel
theorem d_Tp_takesWord_13 : decode prog_4_method_11_code 13 = .ok (.istore_n 3, 1) := by decide +kernel
theorem d_Tp_takesWord_14 : decode prog_4_method_11_code 14 = .ok (.iload_n 3, 1) := by decide +kernel
theorem d_Tp_takesWord_15 : decode prog_4_method_11_code 15 = .ok (.aload_n 0, 1) := by decide +kernel
theorem d_Tp_takesWord_16 : decode prog_4_method_11_code 16 = .ok (.getfield 20, 3) := by decide +kernel
theorem d_Tp_takesWord_19 : decode prog_4_method_11_code 19 = .ok (.if_icmp .ge 28, 3) := by decide +kernel
theorem d_Tp_takesWord_22 : decode prog_4_method_11_code 22 = .ok (.aload_n 0, 1) := by decide +kernel
theorem d_Tp_takesWord_23 : decode prog_4_method_11_code 23 = .ok (.getfield 12, 3) := by decide +kernel
theorem d_Tp_takesWord_26 : decode prog_4_method_11_code 26 = .ok (.aload_n 0, 1) := by decide +kernel
theorem d_Tp_takesWord_27 : decode prog_4_method_11_code 27 = .ok (.getfield 23, 3) := by decide +kernel
theorem d_Tp_takesWord_30 : decode prog_4_method_11_code 30 = .ok (.baload, 1) := by decide +kernel
theorem d_Tp_takesWord_31 : decode prog_4_method_11_code 31 = .ok (.bipush 34, 2) := by decide +kernel
theorem d_Tp_takesWord_33 : decode prog_4_method_11_code 33 = .ok (.if_icmp .ne 14, 3) := by decide +kernel
theorem d_Tp_takesWord_36 : decode prog_4_method_11_code 36 = .ok (.aload_n 0, 1) := by decide +kernel
theorem d_Tp_takesWord_37 : decode prog_4_method_11_code 37 = .ok (.getfield 12, 3) := by decide +kernel
theorem d_Tp_takesWord_40 : decode prog_4_method_11_code 40 = .ok (.iload_n 3, 1) := by decide +kernel
theorem d_Tp_takesWord_41 : decode prog_4_method_11_code 41 = .ok (.baload, 1) := by decide +kernel
theorem d_Tp_takesWord_42 : decode prog_4_method_11_code 42 = .ok (.bipush 34, 2) := by decide +kernel
theorem d_Tp_takesWord_44 : decode prog_4_method_11_code 44 = .ok (.if_icmp .eq 5, 3) := by decide +kernel
theorem d_Tp_takesWord_47 : decode prog_4_method_11_code 47 = .ok (.iconst 0, 1) := by decide +kernel
theorem d_Tp_takesWord_48 : decode prog_4_method_11_code 48 = .ok (.ireturn, 1) := by decide +kernel
theorem d_Tp_takesWord_49 : decode prog_4_method_11_code 49 = .ok (.iconst 0, 1) := by decide +kernel
theorem d_Tp_takesWord_50 : decode prog_4_method_11_code 50 = .ok (.istore 4, 2) := by decide +kernel
theorem d_Tp_takesWord_52 : decode prog_4_method_11_code 52 = .ok (.iload 4, 2) := by decide +kernel
theorem d_Tp_takesWord_54 : decode prog_4_method_11_code 54 = .ok (.iload_n 2, 1) := by decide +kernel
theorem d_Tp_takesWord_55 : decode prog_4_method_11_code 55 = .ok (.if_icmp .ge 34, 3) := by decide +kernel
theorem d_Tp_takesWord_58 : decode prog_4_method_11_code 58 = .ok (.aload_n 0, 1) := by decide +kernel
theorem d_Tp_takesWord_59 : decode prog_4_method_11_code 59 = .ok (.getfield 12, 3) := by decide +kernel
theorem d_Tp_takesWord_62 : decode prog_4_method_11_code 62 = .ok (.aload_n 0, 1) := by decide +kernel
theorem d_Tp_takesWord_63 : decode prog_4_method_11_code 63 = .ok (.getfield 23, 3) := by decide +kernel
theorem d_Tp_takesWord_66 : decode prog_4_method_11_code 66 = .ok (.iconst 1, 1) := by decide +kernel
theorem d_Tp_takesWord_67 : decode prog_4_method_11_code 67 = .ok (.iadd, 1) := by decide +kernel
theorem d_Tp_takesWord_68 : decode prog_4_method_11_code 68 = .ok (.iload 4, 2) := by decide +kernel
theorem d_Tp_takesWord_70 : decode prog_4_method_11_code 70 = .ok (.iadd, 1) := by decide +kernel
theorem d_Tp_takesWord_71 : decode prog_4_method_11_code 71 = .ok (.baload, 1) := by decide +kernel
theorem d_Tp_takesWord_72 : decode prog_4_method_11_code 72 = .ok (.aload_n 1, 1) := by decide +kernel
theorem d_Tp_takesWord_73 : decode prog_4_method_11_code 73 = .ok (.iload 4, 2) := by decide +kernel
theorem d_Tp_takesWord_75 : decode prog_4_method_11_code 75 = .ok (.invokevirtual 61, 3) := by decide +kernel
theorem d_Tp_takesWord_78 : decode prog_4_method_11_code 78 = .ok (.if_icmp .eq 5, 3) := by decide +kernel
theorem d_Tp_takesWord_81 : decode prog_4_method_11_code 81 = .ok (.iconst 0, 1) := by decide +kernel
theorem d_Tp_takesWord_82 : decode prog_4_method_11_code 82 = .ok (.ireturn, 1) := by decide +kernel
theorem d_Tp_takesWord_83 : decode prog_4_method_11_code 83 = .ok (.iinc 4 1, 3) := by decide +kernel
theorem d_Tp_takesWord_86 : decode prog_4_method_11_code 86 = .ok (.goto (-34), 3) := by decide +kernel
theorem d_Tp_takesWord_89 : decode prog_4_method_11_code 89 = .ok (.aload_n 0, 1) := by decide +kernel
theorem d_Tp_takesWord_90 : decode prog_4_method_11_code 90 = .ok (.iload_n 3, 1) := by decide +kernel
theorem d_Tp_takesWord_91 : decode prog_4_method_11_code 91 = .ok (.iconst 1, 1) := by decide +kernel
theorem d_Tp_takesWord_92 : decode prog_4_method_11_code 92 = .ok (.iadd, 1) := by decide +kernel
theorem d_Tp_takesWord_93 : decode prog_4_method_11_code 93 = .ok (.invokevirtual 36, 3) := by decide +kernel
theorem d_Tp_takesWord_96 : decode prog_4_method_11_code 96 = .ok (.iconst 1, 1) := by decide +kernel
theorem d_Tp_takesWord_97 : decode prog_4_method_11_code 97 = .ok (.ireturn, 1) := by decide +kernel
theorem d_JS_length_0 : decode prog_10_method_54_code 0 = .ok (.aload_n 0, 1) := by decide +kernel
theorem d_JS_length_1 : decode prog_10_method_54_code 1 = .ok (.getfield 9, 3) := by decide +kernel
theorem d_JS_length_4 : decode prog_10_method_54_code 4 = .ok (.arraylength, 1) := by decide +kernel
theorem d_JS_length_5 : decode prog_10_method_54_code 5 = .ok (.aload_n 0, 1) := by decide +kernel
theorem d_JS_length_6 : decode prog_10_method_54_code 6 = .ok (.invokevirtual 335, 3) := by decide +kernel
theorem d_JS_length_9 : decode prog_10_method_54_code 9 = .ok (.ishr, 1) := by decide +kernel
theorem d_JS_length_10 : decode prog_10_method_54_code 10 = .ok (.ireturn, 1) := by decide +kernel
theorem d_JS_coder_0 : decode prog_10_method_152_code 0 = .ok (.getstatic 38, 3) := by decide +kernel
theorem d_JS_coder_3 : decode prog_10_method_152_code 3 = .ok (.ifCond .eq 10, 3) := by decide +kernel
theorem d_JS_coder_6 : decode prog_10_method_152_code 6 = .ok (.aload_n 0, 1) := by decide +kernel
theorem d_JS_coder_7 : decode prog_10_method_152_code 7 = .ok (.getfield 15, 3) := by decide +kernel
theorem d_JS_coder_10 : decode prog_10_method_152_code 10 = .ok (.goto 4, 3) := by decide +kernel
theorem d_JS_coder_13 : decode prog_10_method_152_code 13 = .ok (.iconst 1, 1) := by decide +kernel
theorem d_JS_coder_14 : decode prog_10_method_152_code 14 = .ok (.ireturn, 1) := by decide +kernel
theorem d_JS_charAt_0 : decode prog_10_method_56_code 0 = .ok (.aload_n 0, 1) := by decide +kernel
theorem d_JS_charAt_1 : decode prog_10_method_56_code 1 = .ok (.invokevirtual 492, 3) := by decide +kernel
theorem d_JS_charAt_4 : decode prog_10_method_56_code 4 = .ok (.ifCond .eq 12, 3) := by decide +kernel
theorem d_JS_charAt_7 : decode prog_10_method_56_code 7 = .ok (.aload_n 0, 1) := by decide +kernel
theorem d_JS_charAt_8 : decode prog_10_method_56_code 8 = .ok (.getfield 9, 3) := by decide +kernel
theorem d_JS_charAt_11 : decode prog_10_method_56_code 11 = .ok (.iload_n 1, 1) := by decide +kernel
theorem d_JS_charAt_12 : decode prog_10_method_56_code 12 = .ok (.invokestatic 495, 3) := by decide +kernel
theorem d_JS_charAt_15 : decode prog_10_method_56_code 15 = .ok (.ireturn, 1) := by decide +kernel
theorem d_JS_charAt_16 : decode prog_10_method_56_code 16 = .ok (.aload_n 0, 1) := by decide +kernel
theorem d_JS_charAt_17 : decode prog_10_method_56_code 17 = .ok (.getfield 9, 3) := by decide +kernel
theorem d_JS_charAt_20 : decode prog_10_method_56_code 20 = .ok (.iload_n 1, 1) := by decide +kernel
theorem d_JS_charAt_21 : decode prog_10_method_56_code 21 = .ok (.invokestatic 498, 3) := by decide +kernel
theorem d_JS_charAt_24 : decode prog_10_method_56_code 24 = .ok (.ireturn, 1) := by decide +kernel
theorem d_JS_isLatin1_0 : decode prog_10_method_154_code 0 = .ok (.getstatic 38, 3) := by decide +kernel
theorem d_JS_isLatin1_3 : decode prog_10_method_154_code 3 = .ok (.ifCond .eq 14, 3) := by decide +kernel
theorem d_JS_isLatin1_6 : decode prog_10_method_154_code 6 = .ok (.aload_n 0, 1) := by decide +kernel
theorem d_JS_isLatin1_7 : decode prog_10_method_154_code 7 = .ok (.getfield 15, 3) := by decide +kernel
theorem d_JS_isLatin1_10 : decode prog_10_method_154_code 10 = .ok (.ifCond .ne 7, 3) := by decide +kernel
theorem d_JS_isLatin1_13 : decode prog_10_method_154_code 13 = .ok (.iconst 1, 1) := by decide +kernel
theorem d_JS_isLatin1_14 : decode prog_10_method_154_code 14 = .ok (.goto 4, 3) := by decide +kernel
theorem d_JS_isLatin1_17 : decode prog_10_method_154_code 17 = .ok (.iconst 0, 1) := by decide +kernel
theorem d_JS_isLatin1_18 : decode prog_10_method_154_code 18 = .ok (.ireturn, 1) := by decide +kernel
theorem d_JL_charAt_0 : decode prog_11_method_2_code 0 = .ok (.iload_n 1, 1) := by decide +kernel
theorem d_JL_charAt_1 : decode prog_11_method_2_code 1 = .ok (.aload_n 0, 1) := by decide +kernel
theorem d_JL_charAt_2 : decode prog_11_method_2_code 2 = .ok (.arraylength, 1) := by decide +kernel
theorem d_JL_charAt_3 : decode prog_11_method_2_code 3 = .ok (.invokestatic 9, 3) := by decide +kernel
theorem d_JL_charAt_6 : decode prog_11_method_2_code 6 = .ok (.aload_n 0, 1) := by decide +kernel
theorem d_JL_charAt_7 : decode prog_11_method_2_code 7 = .ok (.iload_n 1, 1) := by decide +kernel
theorem d_JL_charAt_8 : decode prog_11_method_2_code 8 = .ok (.baload, 1) := by decide +kernel
theorem d_JL_charAt_9 : decode prog_11_method_2_code 9 = .ok (.sipush 255, 3) := by decide +kernel
theorem d_JL_charAt_12 : decode prog_11_method_2_code 12 = .ok (.iand, 1) := by decide +kernel
theorem d_JL_charAt_13 : decode prog_11_method_2_code 13 = .ok (.i2c, 1) := by decide +kernel
theorem d_JL_charAt_14 : decode prog_11_method_2_code 14 = .ok (.ireturn, 1) := by decide +kernel
theorem d_JS_checkIndex_0 : decode prog_10_method_155_code 0 = .ok (.iload_n 0, 1) := by decide +kernel
theorem d_JS_checkIndex_1 : decode prog_10_method_155_code 1 = .ok (.iload_n 1, 1) := by decide +kernel
theorem d_JS_checkIndex_2 : decode prog_10_method_155_code 2 = .ok (.getstatic 1053, 3) := by decide +kernel
theorem d_JS_checkIndex_5 : decode prog_10_method_155_code 5 = .ok (.invokestatic 1059, 3) := by decide +kernel
theorem d_JS_checkIndex_8 : decode prog_10_method_155_code 8 = .ok (.pop, 1) := by decide +kernel
theorem d_JS_checkIndex_9 : decode prog_10_method_155_code 9 = .ok (.return_, 1) := by decide +kernel
theorem d_JP_checkIndex_0 : decode prog_14_method_11_code 0 = .ok (.iload_n 0, 1) := by decide +kernel
theorem d_JP_checkIndex_1 : decode prog_14_method_11_code 1 = .ok (.ifCond .lt 8, 3) := by decide +kernel
theorem d_JP_checkIndex_4 : decode prog_14_method_11_code 4 = .ok (.iload_n 0, 1) := by decide +kernel
theorem d_JP_checkIndex_5 : decode prog_14_method_11_code 5 = .ok (.iload_n 1, 1) := by decide +kernel
theorem d_JP_checkIndex_6 : decode prog_14_method_11_code 6 = .ok (.if_icmp .lt 10, 3) := by decide +kernel
theorem d_JP_checkIndex_9 : decode prog_14_method_11_code 9 = .ok (.aload_n 2, 1) := by decide +kernel
theorem d_JP_checkIndex_10 : decode prog_14_method_11_code 10 = .ok (.iload_n 0, 1) := by decide +kernel
theorem d_JP_checkIndex_11 : decode prog_14_method_11_code 11 = .ok (.iload_n 1, 1) := by decide +kernel
theorem d_JP_checkIndex_12 : decode prog_14_method_11_code 12 = .ok (.invokestatic 95, 3) := by decide +kernel
theorem d_JP_checkIndex_15 : decode prog_14_method_11_code 15 = .ok (.athrow, 1) := by decide +kernel
theorem d_JP_checkIndex_16 : decode prog_14_method_11_code 16 = .ok (.iload_n 0, 1) := by decide +kernel
theorem d_JP_checkIndex_17 : decode prog_14_method_11_code 17 = .ok (.ireturn, 1) := by decide +kernel
theorem d_Rd_takeCamera_0 : decode prog_2_method_10_code 0 = .ok (.aload_n 0, 1) := by decide +kernel
theorem d_Rd_takeCamera_1 : decode prog_2_method_10_code 1 = .ok (.bipush 123, 2) := by decide +kernel
theorem d_Rd_takeCamera_3 : decode prog_2_method_10_code 3 = .ok (.ldc 163, 2) := by decide +kernel
theorem d_Rd_takeCamera_5 : decode prog_2_method_10_code 5 = .ok (.invokevirtual 110, 3) := by decide +kernel
theorem d_Rd_takeCamera_8 : decode prog_2_method_10_code 8 = .ok (.aload_n 0, 1) := by decide +kernel
theorem d_Rd_takeCamera_9 : decode prog_2_method_10_code 9 = .ok (.iconst 0, 1) := by decide +kernel
theorem d_Rd_takeCamera_10 : decode prog_2_method_10_code 10 = .ok (.iconst 3, 1) := by decide +kernel
theorem d_Rd_takeCamera_11 : decode prog_2_method_10_code 11 = .ok (.iconst 3, 1) := by decide +kernel
theorem d_Rd_takeCamera_12 : decode prog_2_method_10_code 12 = .ok (.iconst 0, 1) := by decide +kernel
theorem d_Rd_takeCamera_13 : decode prog_2_method_10_code 13 = .ok (.ldc 165, 2) := by decide +kernel
theorem d_Rd_takeCamera_15 : decode prog_2_method_10_code 15 = .ok (.ldc 166, 2) := by decide +kernel
theorem d_Rd_takeCamera_17 : decode prog_2_method_10_code 17 = .ok (.invokevirtual 127, 3) := by decide +kernel
theorem d_Rd_takeCamera_20 : decode prog_2_method_10_code 20 = .ok (.pop, 1) := by decide +kernel
theorem d_Rd_takeCamera_21 : decode prog_2_method_10_code 21 = .ok (.aload_n 0, 1) := by decide +kernel
theorem d_Rd_takeCamera_22 : decode prog_2_method_10_code 22 = .ok (.bipush 44, 2) := by decide +kernel
theorem d_Rd_takeCamera_24 : decode prog_2_method_10_code 24 = .ok (.ldc 167, 2) := by decide +kernel
theorem d_Rd_takeCamera_26 : decode prog_2_method_10_code 26 = .ok (.invokevirtual 110, 3) := by decide +kernel
theorem d_Rd_takeCamera_29 : decode prog_2_method_10_code 29 = .ok (.aload_n 0, 1) := by decide +kernel
theorem d_Rd_takeCamera_30 : decode prog_2_method_10_code 30 = .ok (.iconst 0, 1) := by decide +kernel
theorem d_Rd_takeCamera_31 : decode prog_2_method_10_code 31 = .ok (.iconst 3, 1) := by decide +kernel
theorem d_Rd_takeCamera_32 : decode prog_2_method_10_code 32 = .ok (.iconst 3, 1) := by decide +kernel
theorem d_Rd_takeCamera_33 : decode prog_2_method_10_code 33 = .ok (.iconst 3, 1) := by decide +kernel
theorem d_Rd_takeCamera_34 : decode prog_2_method_10_code 34 = .ok (.ldc 144, 2) := by decide +kernel
theorem d_Rd_takeCamera_36 : decode prog_2_method_10_code 36 = .ok (.ldc 145, 2) := by decide +kernel
theorem d_Rd_takeCamera_38 : decode prog_2_method_10_code 38 = .ok (.invokevirtual 127, 3) := by decide +kernel
theorem d_Rd_takeCamera_41 : decode prog_2_method_10_code 41 = .ok (.pop, 1) := by decide +kernel
theorem d_Rd_takeCamera_42 : decode prog_2_method_10_code 42 = .ok (.aload_n 0, 1) := by decide +kernel
theorem d_Rd_takeCamera_43 : decode prog_2_method_10_code 43 = .ok (.bipush 44, 2) := by decide +kernel
theorem d_Rd_takeCamera_45 : decode prog_2_method_10_code 45 = .ok (.ldc 182, 2) := by decide +kernel
theorem d_Rd_takeCamera_47 : decode prog_2_method_10_code 47 = .ok (.invokevirtual 110, 3) := by decide +kernel
theorem d_Rd_takeCamera_50 : decode prog_2_method_10_code 50 = .ok (.aload_n 0, 1) := by decide +kernel
theorem d_Rd_takeCamera_51 : decode prog_2_method_10_code 51 = .ok (.bipush 6, 2) := by decide +kernel
theorem d_Rd_takeCamera_53 : decode prog_2_method_10_code 53 = .ok (.bipush 8, 2) := by decide +kernel
theorem d_Rd_takeCamera_55 : decode prog_2_method_10_code 55 = .ok (.sipush 512, 3) := by decide +kernel
theorem d_Rd_takeCamera_58 : decode prog_2_method_10_code 58 = .ok (.invokevirtual 114, 3) := by decide +kernel
theorem d_Rd_takeCamera_61 : decode prog_2_method_10_code 61 = .ok (.pop, 1) := by decide +kernel
theorem d_Rd_takeCamera_62 : decode prog_2_method_10_code 62 = .ok (.aload_n 0, 1) := by decide +kernel
theorem d_Rd_takeCamera_63 : decode prog_2_method_10_code 63 = .ok (.getfield 12, 3) := by decide +kernel
theorem d_Rd_takeCamera_66 : decode prog_2_method_10_code 66 = .ok (.bipush 125, 2) := by decide +kernel
theorem d_Rd_takeCamera_68 : decode prog_2_method_10_code 68 = .ok (.invokevirtual 31, 3) := by decide +kernel
theorem d_Rd_takeCamera_71 : decode prog_2_method_10_code 71 = .ok (.return_, 1) := by decide +kernel
theorem d_Rd_takeName_0 : decode prog_2_method_12_code 0 = .ok (.aload_n 0, 1) := by decide +kernel
theorem d_Rd_takeName_1 : decode prog_2_method_12_code 1 = .ok (.getfield 12, 3) := by decide +kernel
theorem d_Rd_takeName_4 : decode prog_2_method_12_code 4 = .ok (.iload_n 1, 1) := by decide +kernel
theorem d_Rd_takeName_5 : decode prog_2_method_12_code 5 = .ok (.invokevirtual 31, 3) := by decide +kernel
theorem d_Rd_takeName_8 : decode prog_2_method_12_code 8 = .ok (.aload_n 0, 1) := by decide +kernel
theorem d_Rd_takeName_9 : decode prog_2_method_12_code 9 = .ok (.getfield 12, 3) := by decide +kernel
theorem d_Rd_takeName_12 : decode prog_2_method_12_code 12 = .ok (.aload_n 2, 1) := by decide +kernel
theorem d_Rd_takeName_13 : decode prog_2_method_12_code 13 = .ok (.invokevirtual 43, 3) := by decide +kernel
theorem d_Rd_takeName_16 : decode prog_2_method_12_code 16 = .ok (.ifCond .ne 18, 3) := by decide +kernel
theorem d_Rd_takeName_19 : decode prog_2_method_12_code 19 = .ok (.aload_n 0, 1) := by decide +kernel
theorem d_Rd_takeName_20 : decode prog_2_method_12_code 20 = .ok (.getfield 12, 3) := by decide +kernel
theorem d_Rd_takeName_23 : decode prog_2_method_12_code 23 = .ok (.iconst 1, 1) := by decide +kernel
theorem d_Rd_takeName_24 : decode prog_2_method_12_code 24 = .ok (.aload_n 0, 1) := by decide +kernel
theorem d_Rd_takeName_25 : decode prog_2_method_12_code 25 = .ok (.getfield 12, 3) := by decide +kernel
theorem d_Rd_takeName_28 : decode prog_2_method_12_code 28 = .ok (.getfield 60, 3) := by decide +kernel
theorem d_Rd_takeName_31 : decode prog_2_method_12_code 31 = .ok (.invokevirtual 64, 3) := by decide +kernel
theorem d_Rd_takeName_34 : decode prog_2_method_12_code 34 = .ok (.aload_n 0, 1) := by decide +kernel
theorem d_Rd_takeName_35 : decode prog_2_method_12_code 35 = .ok (.getfield 12, 3) := by decide +kernel
theorem d_Rd_takeName_38 : decode prog_2_method_12_code 38 = .ok (.bipush 58, 2) := by decide +kernel
theorem d_Rd_takeName_40 : decode prog_2_method_12_code 40 = .ok (.invokevirtual 31, 3) := by decide +kernel
theorem d_Rd_takeName_43 : decode prog_2_method_12_code 43 = .ok (.return_, 1) := by decide +kernel
theorem d_Rd_takeList_0 : decode prog_2_method_14_code 0 = .ok (.iload 5, 2) := by decide +kernel
theorem d_Rd_takeList_2 : decode prog_2_method_14_code 2 = .ok (.istore 7, 2) := by decide +kernel
theorem d_Rd_takeList_4 : decode prog_2_method_14_code 4 = .ok (.iconst 0, 1) := by decide +kernel
theorem d_Rd_takeList_5 : decode prog_2_method_14_code 5 = .ok (.istore 8, 2) := by decide +kernel
theorem d_Rd_takeList_7 : decode prog_2_method_14_code 7 = .ok (.aload_n 0, 1) := by decide +kernel
theorem d_Rd_takeList_8 : decode prog_2_method_14_code 8 = .ok (.getfield 12, 3) := by decide +kernel
theorem d_Rd_takeList_11 : decode prog_2_method_14_code 11 = .ok (.bipush 91, 2) := by decide +kernel
theorem d_Rd_takeList_13 : decode prog_2_method_14_code 13 = .ok (.invokevirtual 31, 3) := by decide +kernel
theorem d_Rd_takeList_16 : decode prog_2_method_14_code 16 = .ok (.aload_n 0, 1) := by decide +kernel
theorem d_Rd_takeList_17 : decode prog_2_method_14_code 17 = .ok (.getfield 12, 3) := by decide +kernel
theorem d_Rd_takeList_20 : decode prog_2_method_14_code 20 = .ok (.bipush 93, 2) := by decide +kernel
theorem d_Rd_takeList_22 : decode prog_2_method_14_code 22 = .ok (.invokevirtual 35, 3) := by decide +kernel
theorem d_Rd_takeList_25 : decode prog_2_method_14_code 25 = .ok (.ifCond .ne 7, 3) := by decide +kernel
theorem d_Rd_takeList_28 : decode prog_2_method_14_code 28 = .ok (.iconst 1, 1) := by decide +kernel
theorem d_Rd_takeList_29 : decode prog_2_method_14_code 29 = .ok (.goto 4, 3) := by decide +kernel
theorem d_Rd_takeList_32 : decode prog_2_method_14_code 32 = .ok (.iconst 0, 1) := by decide +kernel
theorem d_Rd_takeList_33 : decode prog_2_method_14_code 33 = .ok (.istore 9, 2) := by decide +kernel
theorem d_Rd_takeList_35 : decode prog_2_method_14_code 35 = .ok (.iload 9, 2) := by decide +kernel
theorem d_Rd_takeList_37 : decode prog_2_method_14_code 37 = .ok (.ifCond .eq 115, 3) := by decide +kernel
theorem d_Rd_takeList_40 : decode prog_2_method_14_code 40 = .ok (.iload 8, 2) := by decide +kernel
theorem d_Rd_takeList_42 : decode prog_2_method_14_code 42 = .ok (.iload_n 3, 1) := by decide +kernel
theorem d_Rd_takeList_43 : decode prog_2_method_14_code 43 = .ok (.if_icmp .gt 109, 3) := by decide +kernel
theorem d_Rd_takeList_46 : decode prog_2_method_14_code 46 = .ok (.aload_n 0, 1) := by decide +kernel
theorem d_Rd_takeList_47 : decode prog_2_method_14_code 47 = .ok (.getfield 12, 3) := by decide +kernel
theorem d_Rd_takeList_50 : decode prog_2_method_14_code 50 = .ok (.invokevirtual 188, 3) := by decide +kernel
theorem d_Rd_takeList_53 : decode prog_2_method_14_code 53 = .ok (.istore 10, 2) := by decide +kernel
theorem d_Rd_takeList_55 : decode prog_2_method_14_code 55 = .ok (.iload 8, 2) := by decide +kernel
theorem d_Rd_takeList_57 : decode prog_2_method_14_code 57 = .ok (.iload_n 3, 1) := by decide +kernel
theorem d_Rd_takeList_58 : decode prog_2_method_14_code 58 = .ok (.if_icmp .ne 18, 3) := by decide +kernel
theorem d_Rd_takeList_61 : decode prog_2_method_14_code 61 = .ok (.aload_n 0, 1) := by decide +kernel
theorem d_Rd_takeList_62 : decode prog_2_method_14_code 62 = .ok (.getfield 12, 3) := by decide +kernel
theorem d_Rd_takeList_65 : decode prog_2_method_14_code 65 = .ok (.iconst 3, 1) := by decide +kernel
theorem d_Rd_takeList_66 : decode prog_2_method_14_code 66 = .ok (.aload_n 0, 1) := by decide +kernel
theorem d_Rd_takeList_67 : decode prog_2_method_14_code 67 = .ok (.getfield 12, 3) := by decide +kernel
theorem d_Rd_takeList_70 : decode prog_2_method_14_code 70 = .ok (.getfield 118, 3) := by decide +kernel
theorem d_Rd_takeList_73 : decode prog_2_method_14_code 73 = .ok (.invokevirtual 64, 3) := by decide +kernel
theorem d_Rd_takeList_76 : decode prog_2_method_14_code 76 = .ok (.iload 10, 2) := by decide +kernel
theorem d_Rd_takeList_78 : decode prog_2_method_14_code 78 = .ok (.iload 7, 2) := by decide +kernel
theorem d_Rd_takeList_80 : decode prog_2_method_14_code 80 = .ok (.if_icmp .lt 10, 3) := by decide +kernel
theorem d_Rd_takeList_83 : decode prog_2_method_14_code 83 = .ok (.iload 10, 2) := by decide +kernel
theorem d_Rd_takeList_85 : decode prog_2_method_14_code 85 = .ok (.iload 6, 2) := by decide +kernel
theorem d_Rd_takeList_87 : decode prog_2_method_14_code 87 = .ok (.if_icmp .le 18, 3) := by decide +kernel
theorem d_Rd_takeList_90 : decode prog_2_method_14_code 90 = .ok (.aload_n 0, 1) := by decide +kernel
theorem d_Rd_takeList_91 : decode prog_2_method_14_code 91 = .ok (.getfield 12, 3) := by decide +kernel
theorem d_Rd_takeList_94 : decode prog_2_method_14_code 94 = .ok (.iconst 2, 1) := by decide +kernel
theorem d_Rd_takeList_95 : decode prog_2_method_14_code 95 = .ok (.aload_n 0, 1) := by decide +kernel
theorem d_Rd_takeList_96 : decode prog_2_method_14_code 96 = .ok (.getfield 12, 3) := by decide +kernel
theorem d_Rd_takeList_99 : decode prog_2_method_14_code 99 = .ok (.getfield 118, 3) := by decide +kernel
theorem d_Rd_takeList_102 : decode prog_2_method_14_code 102 = .ok (.invokevirtual 64, 3) := by decide +kernel
theorem d_Rd_takeList_105 : decode prog_2_method_14_code 105 = .ok (.aload_n 0, 1) := by decide +kernel
theorem d_Rd_takeList_106 : decode prog_2_method_14_code 106 = .ok (.getfield 21, 3) := by decide +kernel
theorem d_Rd_takeList_109 : decode prog_2_method_14_code 109 = .ok (.iload 4, 2) := by decide +kernel
theorem d_Rd_takeList_111 : decode prog_2_method_14_code 111 = .ok (.iload 8, 2) := by decide +kernel
theorem d_Rd_takeList_113 : decode prog_2_method_14_code 113 = .ok (.iadd, 1) := by decide +kernel
theorem d_Rd_takeList_114 : decode prog_2_method_14_code 114 = .ok (.iload 10, 2) := by decide +kernel
theorem d_Rd_takeList_116 : decode prog_2_method_14_code 116 = .ok (.invokevirtual 156, 3) := by decide +kernel
theorem d_Rd_takeList_119 : decode prog_2_method_14_code 119 = .ok (.iinc 8 1, 3) := by decide +kernel
theorem d_Rd_takeList_122 : decode prog_2_method_14_code 122 = .ok (.iload_n 1, 1) := by decide +kernel
theorem d_Rd_takeList_123 : decode prog_2_method_14_code 123 = .ok (.iconst 2, 1) := by decide +kernel
theorem d_Rd_takeList_124 : decode prog_2_method_14_code 124 = .ok (.if_icmp .ne 10, 3) := by decide +kernel
theorem d_Rd_takeList_127 : decode prog_2_method_14_code 127 = .ok (.iload 10, 2) := by decide +kernel
theorem d_Rd_takeList_129 : decode prog_2_method_14_code 129 = .ok (.iconst 1, 1) := by decide +kernel
theorem d_Rd_takeList_130 : decode prog_2_method_14_code 130 = .ok (.iadd, 1) := by decide +kernel
theorem d_Rd_takeList_131 : decode prog_2_method_14_code 131 = .ok (.goto 5, 3) := by decide +kernel
theorem d_Rd_takeList_134 : decode prog_2_method_14_code 134 = .ok (.iload 5, 2) := by decide +kernel
theorem d_Rd_takeList_136 : decode prog_2_method_14_code 136 = .ok (.istore 7, 2) := by decide +kernel
theorem d_Rd_takeList_138 : decode prog_2_method_14_code 138 = .ok (.aload_n 0, 1) := by decide +kernel
theorem d_Rd_takeList_139 : decode prog_2_method_14_code 139 = .ok (.getfield 12, 3) := by decide +kernel
theorem d_Rd_takeList_142 : decode prog_2_method_14_code 142 = .ok (.bipush 44, 2) := by decide +kernel
theorem d_Rd_takeList_144 : decode prog_2_method_14_code 144 = .ok (.invokevirtual 57, 3) := by decide +kernel
theorem d_Rd_takeList_147 : decode prog_2_method_14_code 147 = .ok (.istore 9, 2) := by decide +kernel
theorem d_Rd_takeList_149 : decode prog_2_method_14_code 149 = .ok (.goto (-114), 3) := by decide +kernel
theorem d_Rd_takeList_152 : decode prog_2_method_14_code 152 = .ok (.iload 8, 2) := by decide +kernel
theorem d_Rd_takeList_154 : decode prog_2_method_14_code 154 = .ok (.iload_n 2, 1) := by decide +kernel
theorem d_Rd_takeList_155 : decode prog_2_method_14_code 155 = .ok (.if_icmp .lt 15, 3) := by decide +kernel
theorem d_Rd_takeList_158 : decode prog_2_method_14_code 158 = .ok (.iload_n 1, 1) := by decide +kernel
theorem d_Rd_takeList_159 : decode prog_2_method_14_code 159 = .ok (.iconst 1, 1) := by decide +kernel
theorem d_Rd_takeList_160 : decode prog_2_method_14_code 160 = .ok (.if_icmp .ne 14, 3) := by decide +kernel
theorem d_Rd_takeList_163 : decode prog_2_method_14_code 163 = .ok (.iload 8, 2) := by decide +kernel
theorem d_Rd_takeList_165 : decode prog_2_method_14_code 165 = .ok (.iconst 3, 1) := by decide +kernel
theorem d_Rd_takeList_166 : decode prog_2_method_14_code 166 = .ok (.irem, 1) := by decide +kernel
theorem d_Rd_takeList_167 : decode prog_2_method_14_code 167 = .ok (.ifCond .eq 7, 3) := by decide +kernel
theorem d_Rd_takeList_170 : decode prog_2_method_14_code 170 = .ok (.iconst 1, 1) := by decide +kernel
theorem d_Rd_takeList_171 : decode prog_2_method_14_code 171 = .ok (.goto 4, 3) := by decide +kernel
theorem d_Rd_takeList_174 : decode prog_2_method_14_code 174 = .ok (.iconst 0, 1) := by decide +kernel
theorem d_Rd_takeList_175 : decode prog_2_method_14_code 175 = .ok (.istore 10, 2) := by decide +kernel
theorem d_Rd_takeList_177 : decode prog_2_method_14_code 177 = .ok (.iload 10, 2) := by decide +kernel
theorem d_Rd_takeList_179 : decode prog_2_method_14_code 179 = .ok (.ifCond .eq 30, 3) := by decide +kernel
theorem d_Rd_takeList_182 : decode prog_2_method_14_code 182 = .ok (.aload_n 0, 1) := by decide +kernel
theorem d_Rd_takeList_183 : decode prog_2_method_14_code 183 = .ok (.getfield 12, 3) := by decide +kernel
theorem d_Rd_takeList_186 : decode prog_2_method_14_code 186 = .ok (.bipush 93, 2) := by decide +kernel
theorem d_Rd_takeList_188 : decode prog_2_method_14_code 188 = .ok (.invokevirtual 35, 3) := by decide +kernel
theorem d_Rd_takeList_191 : decode prog_2_method_14_code 191 = .ok (.ifCond .eq 18, 3) := by decide +kernel
theorem d_Rd_takeList_194 : decode prog_2_method_14_code 194 = .ok (.aload_n 0, 1) := by decide +kernel
theorem d_Rd_takeList_195 : decode prog_2_method_14_code 195 = .ok (.getfield 12, 3) := by decide +kernel
theorem d_Rd_takeList_198 : decode prog_2_method_14_code 198 = .ok (.iconst 3, 1) := by decide +kernel
theorem d_Rd_takeList_199 : decode prog_2_method_14_code 199 = .ok (.aload_n 0, 1) := by decide +kernel
theorem d_Rd_takeList_200 : decode prog_2_method_14_code 200 = .ok (.getfield 12, 3) := by decide +kernel
theorem d_Rd_takeList_203 : decode prog_2_method_14_code 203 = .ok (.getfield 60, 3) := by decide +kernel
theorem d_Rd_takeList_206 : decode prog_2_method_14_code 206 = .ok (.invokevirtual 64, 3) := by decide +kernel
theorem d_Rd_takeList_209 : decode prog_2_method_14_code 209 = .ok (.aload_n 0, 1) := by decide +kernel
theorem d_Rd_takeList_210 : decode prog_2_method_14_code 210 = .ok (.getfield 12, 3) := by decide +kernel
theorem d_Rd_takeList_213 : decode prog_2_method_14_code 213 = .ok (.bipush 93, 2) := by decide +kernel
theorem d_Rd_takeList_215 : decode prog_2_method_14_code 215 = .ok (.invokevirtual 31, 3) := by decide +kernel
theorem d_Rd_takeList_218 : decode prog_2_method_14_code 218 = .ok (.iload 8, 2) := by decide +kernel
theorem d_Rd_takeList_220 : decode prog_2_method_14_code 220 = .ok (.ireturn, 1) := by decide +kernel
theorem d_Tp_takeNumber_0 : decode prog_4_method_12_code 0 = .ok (.aload_n 0, 1) := by decide +kernel
theorem d_Tp_takeNumber_1 : decode prog_4_method_12_code 1 = .ok (.bipush 45, 2) := by decide +kernel
theorem d_Tp_takeNumber_3 : decode prog_4_method_12_code 3 = .ok (.invokevirtual 47, 3) := by decide +kernel
theorem d_Tp_takeNumber_6 : decode prog_4_method_12_code 6 = .ok (.istore_n 1, 1) := by decide +kernel
theorem d_Tp_takeNumber_7 : decode prog_4_method_12_code 7 = .ok (.iload_n 1, 1) := by decide +kernel
theorem d_Tp_takeNumber_8 : decode prog_4_method_12_code 8 = .ok (.ifCond .eq 12, 3) := by decide +kernel
theorem d_Tp_takeNumber_11 : decode prog_4_method_12_code 11 = .ok (.aload_n 0, 1) := by decide +kernel
theorem d_Tp_takeNumber_12 : decode prog_4_method_12_code 12 = .ok (.getfield 23, 3) := by decide +kernel
theorem d_Tp_takeNumber_15 : decode prog_4_method_12_code 15 = .ok (.iconst 1, 1) := by decide +kernel
theorem d_Tp_takeNumber_16 : decode prog_4_method_12_code 16 = .ok (.iadd, 1) := by decide +kernel
theorem d_Tp_takeNumber_17 : decode prog_4_method_12_code 17 = .ok (.goto 7, 3) := by decide +kernel
theorem d_Tp_takeNumber_20 : decode prog_4_method_12_code 20 = .ok (.aload_n 0, 1) := by decide +kernel
theorem d_Tp_takeNumber_21 : decode prog_4_method_12_code 21 = .ok (.getfield 23, 3) := by decide +kernel
theorem d_Tp_takeNumber_24 : decode prog_4_method_12_code 24 = .ok (.istore_n 2, 1) := by decide +kernel
theorem d_Tp_takeNumber_25 : decode prog_4_method_12_code 25 = .ok (.iconst 0, 1) := by decide +kernel
theorem d_Tp_takeNumber_26 : decode prog_4_method_12_code 26 = .ok (.istore_n 3, 1) := by decide +kernel
theorem d_Tp_takeNumber_27 : decode prog_4_method_12_code 27 = .ok (.iload_n 2, 1) := by decide +kernel
theorem d_Tp_takeNumber_28 : decode prog_4_method_12_code 28 = .ok (.istore 4, 2) := by decide +kernel
theorem d_Tp_takeNumber_30 : decode prog_4_method_12_code 30 = .ok (.iload 4, 2) := by decide +kernel
theorem d_Tp_takeNumber_32 : decode prog_4_method_12_code 32 = .ok (.aload_n 0, 1) := by decide +kernel
theorem d_Tp_takeNumber_33 : decode prog_4_method_12_code 33 = .ok (.getfield 20, 3) := by decide +kernel
theorem d_Tp_takeNumber_36 : decode prog_4_method_12_code 36 = .ok (.if_icmp .ge 55, 3) := by decide +kernel
theorem d_Tp_takeNumber_39 : decode prog_4_method_12_code 39 = .ok (.aload_n 0, 1) := by decide +kernel
theorem d_Tp_takeNumber_40 : decode prog_4_method_12_code 40 = .ok (.getfield 12, 3) := by decide +kernel
theorem d_Tp_takeNumber_43 : decode prog_4_method_12_code 43 = .ok (.iload 4, 2) := by decide +kernel
theorem d_Tp_takeNumber_45 : decode prog_4_method_12_code 45 = .ok (.baload, 1) := by decide +kernel
theorem d_Tp_takeNumber_46 : decode prog_4_method_12_code 46 = .ok (.bipush 48, 2) := by decide +kernel
theorem d_Tp_takeNumber_48 : decode prog_4_method_12_code 48 = .ok (.if_icmp .lt 43, 3) := by decide +kernel
theorem d_Tp_takeNumber_51 : decode prog_4_method_12_code 51 = .ok (.aload_n 0, 1) := by decide +kernel
theorem d_Tp_takeNumber_52 : decode prog_4_method_12_code 52 = .ok (.getfield 12, 3) := by decide +kernel
theorem d_Tp_takeNumber_55 : decode prog_4_method_12_code 55 = .ok (.iload 4, 2) := by decide +kernel
theorem d_Tp_takeNumber_57 : decode prog_4_method_12_code 57 = .ok (.baload, 1) := by decide +kernel
theorem d_Tp_takeNumber_58 : decode prog_4_method_12_code 58 = .ok (.bipush 57, 2) := by decide +kernel
theorem d_Tp_takeNumber_60 : decode prog_4_method_12_code 60 = .ok (.if_icmp .gt 31, 3) := by decide +kernel
theorem d_Tp_takeNumber_63 : decode prog_4_method_12_code 63 = .ok (.iload_n 3, 1) := by decide +kernel
theorem d_Tp_takeNumber_64 : decode prog_4_method_12_code 64 = .ok (.ldc 65, 2) := by decide +kernel
theorem d_Tp_takeNumber_66 : decode prog_4_method_12_code 66 = .ok (.if_icmp .ge 19, 3) := by decide +kernel
theorem d_Tp_takeNumber_69 : decode prog_4_method_12_code 69 = .ok (.iload_n 3, 1) := by decide +kernel
theorem d_Tp_takeNumber_70 : decode prog_4_method_12_code 70 = .ok (.bipush 10, 2) := by decide +kernel
theorem d_Tp_takeNumber_72 : decode prog_4_method_12_code 72 = .ok (.imul, 1) := by decide +kernel
theorem d_Tp_takeNumber_73 : decode prog_4_method_12_code 73 = .ok (.aload_n 0, 1) := by decide +kernel
theorem d_Tp_takeNumber_74 : decode prog_4_method_12_code 74 = .ok (.getfield 12, 3) := by decide +kernel
theorem d_Tp_takeNumber_77 : decode prog_4_method_12_code 77 = .ok (.iload 4, 2) := by decide +kernel
theorem d_Tp_takeNumber_79 : decode prog_4_method_12_code 79 = .ok (.baload, 1) := by decide +kernel
theorem d_Tp_takeNumber_80 : decode prog_4_method_12_code 80 = .ok (.bipush 48, 2) := by decide +kernel
theorem d_Tp_takeNumber_82 : decode prog_4_method_12_code 82 = .ok (.isub, 1) := by decide +kernel
theorem d_Tp_takeNumber_83 : decode prog_4_method_12_code 83 = .ok (.iadd, 1) := by decide +kernel
theorem d_Tp_takeNumber_84 : decode prog_4_method_12_code 84 = .ok (.istore_n 3, 1) := by decide +kernel
theorem d_Tp_takeNumber_85 : decode prog_4_method_12_code 85 = .ok (.iinc 4 1, 3) := by decide +kernel
theorem d_Tp_takeNumber_88 : decode prog_4_method_12_code 88 = .ok (.goto (-58), 3) := by decide +kernel
theorem d_Tp_takeNumber_91 : decode prog_4_method_12_code 91 = .ok (.iload 4, 2) := by decide +kernel
theorem d_Tp_takeNumber_93 : decode prog_4_method_12_code 93 = .ok (.iload_n 2, 1) := by decide +kernel
theorem d_Tp_takeNumber_94 : decode prog_4_method_12_code 94 = .ok (.if_icmp .ne 12, 3) := by decide +kernel
theorem d_Tp_takeNumber_97 : decode prog_4_method_12_code 97 = .ok (.aload_n 0, 1) := by decide +kernel
theorem d_Tp_takeNumber_98 : decode prog_4_method_12_code 98 = .ok (.iconst 1, 1) := by decide +kernel
theorem d_Tp_takeNumber_99 : decode prog_4_method_12_code 99 = .ok (.aload_n 0, 1) := by decide +kernel
theorem d_Tp_takeNumber_100 : decode prog_4_method_12_code 100 = .ok (.getfield 23, 3) := by decide +kernel
theorem d_Tp_takeNumber_103 : decode prog_4_method_12_code 103 = .ok (.invokevirtual 51, 3) := by decide +kernel
theorem d_Tp_takeNumber_106 : decode prog_4_method_12_code 106 = .ok (.aload_n 0, 1) := by decide +kernel
theorem d_Tp_takeNumber_107 : decode prog_4_method_12_code 107 = .ok (.aload_n 0, 1) := by decide +kernel
theorem d_Tp_takeNumber_108 : decode prog_4_method_12_code 108 = .ok (.getfield 23, 3) := by decide +kernel
theorem d_Tp_takeNumber_111 : decode prog_4_method_12_code 111 = .ok (.putfield 26, 3) := by decide +kernel
theorem d_Tp_takeNumber_114 : decode prog_4_method_12_code 114 = .ok (.aload_n 0, 1) := by decide +kernel
theorem d_Tp_takeNumber_115 : decode prog_4_method_12_code 115 = .ok (.iload 4, 2) := by decide +kernel
theorem d_Tp_takeNumber_117 : decode prog_4_method_12_code 117 = .ok (.invokevirtual 36, 3) := by decide +kernel
theorem d_Tp_takeNumber_120 : decode prog_4_method_12_code 120 = .ok (.iload_n 1, 1) := by decide +kernel
theorem d_Tp_takeNumber_121 : decode prog_4_method_12_code 121 = .ok (.ifCond .eq 8, 3) := by decide +kernel
theorem d_Tp_takeNumber_124 : decode prog_4_method_12_code 124 = .ok (.iload_n 3, 1) := by decide +kernel
theorem d_Tp_takeNumber_125 : decode prog_4_method_12_code 125 = .ok (.ineg, 1) := by decide +kernel
theorem d_Tp_takeNumber_126 : decode prog_4_method_12_code 126 = .ok (.goto 4, 3) := by decide +kernel
theorem d_Tp_takeNumber_129 : decode prog_4_method_12_code 129 = .ok (.iload_n 3, 1) := by decide +kernel
theorem d_Tp_takeNumber_130 : decode prog_4_method_12_code 130 = .ok (.ireturn, 1) := by decide +kernel
theorem d_Sc_put_0 : decode prog_3_method_4_code 0 = .ok (.iload_n 1, 1) := by decide +kernel
theorem d_Sc_put_1 : decode prog_3_method_4_code 1 = .ok (.ifCond .lt 16, 3) := by decide +kernel
theorem d_Sc_put_4 : decode prog_3_method_4_code 4 = .ok (.iload_n 1, 1) := by decide +kernel
theorem d_Sc_put_5 : decode prog_3_method_4_code 5 = .ok (.ldc 15, 2) := by decide +kernel
theorem d_Sc_put_7 : decode prog_3_method_4_code 7 = .ok (.if_icmp .ge 10, 3) := by decide +kernel
theorem d_Sc_put_10 : decode prog_3_method_4_code 10 = .ok (.aload_n 0, 1) := by decide +kernel
theorem d_Sc_put_11 : decode prog_3_method_4_code 11 = .ok (.getfield 16, 3) := by decide +kernel
theorem d_Sc_put_14 : decode prog_3_method_4_code 14 = .ok (.iload_n 1, 1) := by decide +kernel
theorem d_Sc_put_15 : decode prog_3_method_4_code 15 = .ok (.iload_n 2, 1) := by decide +kernel
theorem d_Sc_put_16 : decode prog_3_method_4_code 16 = .ok (.iastore, 1) := by decide +kernel
theorem d_Sc_put_17 : decode prog_3_method_4_code 17 = .ok (.return_, 1) := by decide +kernel
theorem d_Tp_takes_0 : decode prog_4_method_9_code 0 = .ok (.aload_n 0, 1) := by decide +kernel
theorem d_Tp_takes_1 : decode prog_4_method_9_code 1 = .ok (.iload_n 1, 1) := by decide +kernel
theorem d_Tp_takes_2 : decode prog_4_method_9_code 2 = .ok (.invokevirtual 47, 3) := by decide +kernel
theorem d_Tp_takes_5 : decode prog_4_method_9_code 5 = .ok (.istore_n 2, 1) := by decide +kernel
theorem d_Tp_takes_6 : decode prog_4_method_9_code 6 = .ok (.iload_n 2, 1) := by decide +kernel
theorem d_Tp_takes_7 : decode prog_4_method_9_code 7 = .ok (.ifCond .eq 13, 3) := by decide +kernel
theorem d_Tp_takes_10 : decode prog_4_method_9_code 10 = .ok (.aload_n 0, 1) := by decide +kernel
theorem d_Tp_takes_11 : decode prog_4_method_9_code 11 = .ok (.aload_n 0, 1) := by decide +kernel
theorem d_Tp_takes_12 : decode prog_4_method_9_code 12 = .ok (.getfield 23, 3) := by decide +kernel
theorem d_Tp_takes_15 : decode prog_4_method_9_code 15 = .ok (.iconst 1, 1) := by decide +kernel
theorem d_Tp_takes_16 : decode prog_4_method_9_code 16 = .ok (.iadd, 1) := by decide +kernel
theorem d_Tp_takes_17 : decode prog_4_method_9_code 17 = .ok (.invokevirtual 36, 3) := by decide +kernel
theorem d_Tp_takes_20 : decode prog_4_method_9_code 20 = .ok (.iload_n 2, 1) := by decide +kernel
theorem d_Tp_takes_21 : decode prog_4_method_9_code 21 = .ok (.ireturn, 1) := by decide +kernel
theorem d_Rd_takeNumber_0 : decode prog_2_method_13_code 0 = .ok (.aload_n 0, 1) := by decide +kernel
theorem d_Rd_takeNumber_1 : decode prog_2_method_13_code 1 = .ok (.getfield 12, 3) := by decide +kernel
theorem d_Rd_takeNumber_4 : decode prog_2_method_13_code 4 = .ok (.invokevirtual 188, 3) := by decide +kernel
theorem d_Rd_takeNumber_7 : decode prog_2_method_13_code 7 = .ok (.istore 4, 2) := by decide +kernel
theorem d_Rd_takeNumber_9 : decode prog_2_method_13_code 9 = .ok (.iload 4, 2) := by decide +kernel
theorem d_Rd_takeNumber_11 : decode prog_2_method_13_code 11 = .ok (.iload_n 2, 1) := by decide +kernel
theorem d_Rd_takeNumber_12 : decode prog_2_method_13_code 12 = .ok (.if_icmp .lt 9, 3) := by decide +kernel
theorem d_Rd_takeNumber_15 : decode prog_2_method_13_code 15 = .ok (.iload 4, 2) := by decide +kernel
theorem d_Rd_takeNumber_17 : decode prog_2_method_13_code 17 = .ok (.iload_n 3, 1) := by decide +kernel
theorem d_Rd_takeNumber_18 : decode prog_2_method_13_code 18 = .ok (.if_icmp .le 18, 3) := by decide +kernel
theorem d_Rd_takeNumber_21 : decode prog_2_method_13_code 21 = .ok (.aload_n 0, 1) := by decide +kernel
theorem d_Rd_takeNumber_22 : decode prog_2_method_13_code 22 = .ok (.getfield 12, 3) := by decide +kernel
theorem d_Rd_takeNumber_25 : decode prog_2_method_13_code 25 = .ok (.iconst 2, 1) := by decide +kernel
theorem d_Rd_takeNumber_26 : decode prog_2_method_13_code 26 = .ok (.aload_n 0, 1) := by decide +kernel
theorem d_Rd_takeNumber_27 : decode prog_2_method_13_code 27 = .ok (.getfield 12, 3) := by decide +kernel
theorem d_Rd_takeNumber_30 : decode prog_2_method_13_code 30 = .ok (.getfield 118, 3) := by decide +kernel
theorem d_Rd_takeNumber_33 : decode prog_2_method_13_code 33 = .ok (.invokevirtual 64, 3) := by decide +kernel
theorem d_Rd_takeNumber_36 : decode prog_2_method_13_code 36 = .ok (.aload_n 0, 1) := by decide +kernel
theorem d_Rd_takeNumber_37 : decode prog_2_method_13_code 37 = .ok (.getfield 21, 3) := by decide +kernel
theorem d_Rd_takeNumber_40 : decode prog_2_method_13_code 40 = .ok (.iload_n 1, 1) := by decide +kernel
theorem d_Rd_takeNumber_41 : decode prog_2_method_13_code 41 = .ok (.iload 4, 2) := by decide +kernel
theorem d_Rd_takeNumber_43 : decode prog_2_method_13_code 43 = .ok (.invokevirtual 156, 3) := by decide +kernel
theorem d_Rd_takeNumber_46 : decode prog_2_method_13_code 46 = .ok (.iload 4, 2) := by decide +kernel
theorem d_Rd_takeNumber_48 : decode prog_2_method_13_code 48 = .ok (.ireturn, 1) := by decide +kernel
theorem d_Rd_takeLight_0 : decode prog_2_method_11_code 0 = .ok (.aload_n 0, 1) := by decide +kernel
theorem d_Rd_takeLight_1 : decode prog_2_method_11_code 1 = .ok (.bipush 123, 2) := by decide +kernel
theorem d_Rd_takeLight_3 : decode prog_2_method_11_code 3 = .ok (.ldc 184, 2) := by decide +kernel
theorem d_Rd_takeLight_5 : decode prog_2_method_11_code 5 = .ok (.invokevirtual 110, 3) := by decide +kernel
theorem d_Rd_takeLight_8 : decode prog_2_method_11_code 8 = .ok (.aload_n 0, 1) := by decide +kernel
theorem d_Rd_takeLight_9 : decode prog_2_method_11_code 9 = .ok (.iconst 0, 1) := by decide +kernel
theorem d_Rd_takeLight_10 : decode prog_2_method_11_code 10 = .ok (.iconst 3, 1) := by decide +kernel
theorem d_Rd_takeLight_11 : decode prog_2_method_11_code 11 = .ok (.iconst 3, 1) := by decide +kernel
theorem d_Rd_takeLight_12 : decode prog_2_method_11_code 12 = .ok (.bipush 7, 2) := by decide +kernel
theorem d_Rd_takeLight_14 : decode prog_2_method_11_code 14 = .ok (.ldc 148, 2) := by decide +kernel
theorem d_Rd_takeLight_16 : decode prog_2_method_11_code 16 = .ok (.ldc 149, 2) := by decide +kernel
theorem d_Rd_takeLight_18 : decode prog_2_method_11_code 18 = .ok (.invokevirtual 127, 3) := by decide +kernel
theorem d_Rd_takeLight_21 : decode prog_2_method_11_code 21 = .ok (.pop, 1) := by decide +kernel
theorem d_Rd_takeLight_22 : decode prog_2_method_11_code 22 = .ok (.aload_n 0, 1) := by decide +kernel
theorem d_Rd_takeLight_23 : decode prog_2_method_11_code 23 = .ok (.bipush 44, 2) := by decide +kernel
theorem d_Rd_takeLight_25 : decode prog_2_method_11_code 25 = .ok (.ldc 186, 2) := by decide +kernel
theorem d_Rd_takeLight_27 : decode prog_2_method_11_code 27 = .ok (.invokevirtual 110, 3) := by decide +kernel
theorem d_Rd_takeLight_30 : decode prog_2_method_11_code 30 = .ok (.aload_n 0, 1) := by decide +kernel
theorem d_Rd_takeLight_31 : decode prog_2_method_11_code 31 = .ok (.bipush 10, 2) := by decide +kernel
theorem d_Rd_takeLight_33 : decode prog_2_method_11_code 33 = .ok (.iconst 0, 1) := by decide +kernel
theorem d_Rd_takeLight_34 : decode prog_2_method_11_code 34 = .ok (.ldc 149, 2) := by decide +kernel
theorem d_Rd_takeLight_36 : decode prog_2_method_11_code 36 = .ok (.invokevirtual 114, 3) := by decide +kernel
theorem d_Rd_takeLight_39 : decode prog_2_method_11_code 39 = .ok (.pop, 1) := by decide +kernel
theorem d_Rd_takeLight_40 : decode prog_2_method_11_code 40 = .ok (.aload_n 0, 1) := by decide +kernel
theorem d_Rd_takeLight_41 : decode prog_2_method_11_code 41 = .ok (.getfield 12, 3) := by decide +kernel
theorem d_Rd_takeLight_44 : decode prog_2_method_11_code 44 = .ok (.bipush 125, 2) := by decide +kernel
theorem d_Rd_takeLight_46 : decode prog_2_method_11_code 46 = .ok (.invokevirtual 31, 3) := by decide +kernel
theorem d_Rd_takeLight_49 : decode prog_2_method_11_code 49 = .ok (.return_, 1) := by decide +kernel
theorem d_Rd_takeThings_0 : decode prog_2_method_4_code 0 = .ok (.iload_n 1, 1) := by decide +kernel
theorem d_Rd_takeThings_1 : decode prog_2_method_4_code 1 = .ok (.invokestatic 86, 3) := by decide +kernel
theorem d_Rd_takeThings_4 : decode prog_2_method_4_code 4 = .ok (.istore_n 2, 1) := by decide +kernel
theorem d_Rd_takeThings_5 : decode prog_2_method_4_code 5 = .ok (.aload_n 0, 1) := by decide +kernel
theorem d_Rd_takeThings_6 : decode prog_2_method_4_code 6 = .ok (.getfield 12, 3) := by decide +kernel
theorem d_Rd_takeThings_9 : decode prog_2_method_4_code 9 = .ok (.bipush 91, 2) := by decide +kernel
theorem d_Rd_takeThings_11 : decode prog_2_method_4_code 11 = .ok (.invokevirtual 31, 3) := by decide +kernel
theorem d_Rd_takeThings_14 : decode prog_2_method_4_code 14 = .ok (.aload_n 0, 1) := by decide +kernel
theorem d_Rd_takeThings_15 : decode prog_2_method_4_code 15 = .ok (.getfield 12, 3) := by decide +kernel
theorem d_Rd_takeThings_18 : decode prog_2_method_4_code 18 = .ok (.bipush 93, 2) := by decide +kernel
theorem d_Rd_takeThings_20 : decode prog_2_method_4_code 20 = .ok (.invokevirtual 35, 3) := by decide +kernel
theorem d_Rd_takeThings_23 : decode prog_2_method_4_code 23 = .ok (.ifCond .ne 7, 3) := by decide +kernel
theorem d_Rd_takeThings_26 : decode prog_2_method_4_code 26 = .ok (.iconst 1, 1) := by decide +kernel
theorem d_Rd_takeThings_27 : decode prog_2_method_4_code 27 = .ok (.goto 4, 3) := by decide +kernel
theorem d_Rd_takeThings_30 : decode prog_2_method_4_code 30 = .ok (.iconst 0, 1) := by decide +kernel
theorem d_Rd_takeThings_31 : decode prog_2_method_4_code 31 = .ok (.istore_n 3, 1) := by decide +kernel
theorem d_Rd_takeThings_32 : decode prog_2_method_4_code 32 = .ok (.iconst 0, 1) := by decide +kernel
theorem d_Rd_takeThings_33 : decode prog_2_method_4_code 33 = .ok (.istore 4, 2) := by decide +kernel
theorem d_Rd_takeThings_35 : decode prog_2_method_4_code 35 = .ok (.iload 4, 2) := by decide +kernel
theorem d_Rd_takeThings_37 : decode prog_2_method_4_code 37 = .ok (.iload_n 2, 1) := by decide +kernel
theorem d_Rd_takeThings_38 : decode prog_2_method_4_code 38 = .ok (.if_icmp .gt 140, 3) := by decide +kernel
theorem d_Rd_takeThings_41 : decode prog_2_method_4_code 41 = .ok (.iload_n 3, 1) := by decide +kernel
theorem d_Rd_takeThings_42 : decode prog_2_method_4_code 42 = .ok (.ifCond .eq 136, 3) := by decide +kernel
theorem d_Rd_takeThings_45 : decode prog_2_method_4_code 45 = .ok (.iload 4, 2) := by decide +kernel
theorem d_Rd_takeThings_47 : decode prog_2_method_4_code 47 = .ok (.iload_n 2, 1) := by decide +kernel
theorem d_Rd_takeThings_48 : decode prog_2_method_4_code 48 = .ok (.if_icmp .ne 34, 3) := by decide +kernel
theorem d_Rd_takeThings_51 : decode prog_2_method_4_code 51 = .ok (.aload_n 0, 1) := by decide +kernel
theorem d_Rd_takeThings_52 : decode prog_2_method_4_code 52 = .ok (.getfield 12, 3) := by decide +kernel
theorem d_Rd_takeThings_55 : decode prog_2_method_4_code 55 = .ok (.aload_n 0, 1) := by decide +kernel
theorem d_Rd_takeThings_56 : decode prog_2_method_4_code 56 = .ok (.getfield 12, 3) := by decide +kernel
theorem d_Rd_takeThings_59 : decode prog_2_method_4_code 59 = .ok (.bipush 123, 2) := by decide +kernel
theorem d_Rd_takeThings_61 : decode prog_2_method_4_code 61 = .ok (.invokevirtual 35, 3) := by decide +kernel
theorem d_Rd_takeThings_64 : decode prog_2_method_4_code 64 = .ok (.ifCond .eq 7, 3) := by decide +kernel
theorem d_Rd_takeThings_67 : decode prog_2_method_4_code 67 = .ok (.iconst 3, 1) := by decide +kernel
theorem d_Rd_takeThings_68 : decode prog_2_method_4_code 68 = .ok (.goto 4, 3) := by decide +kernel
theorem d_Rd_takeThings_71 : decode prog_2_method_4_code 71 = .ok (.iconst 1, 1) := by decide +kernel
theorem d_Rd_takeThings_72 : decode prog_2_method_4_code 72 = .ok (.aload_n 0, 1) := by decide +kernel
theorem d_Rd_takeThings_73 : decode prog_2_method_4_code 73 = .ok (.getfield 12, 3) := by decide +kernel
theorem d_Rd_takeThings_76 : decode prog_2_method_4_code 76 = .ok (.getfield 60, 3) := by decide +kernel
theorem d_Rd_takeThings_79 : decode prog_2_method_4_code 79 = .ok (.invokevirtual 64, 3) := by decide +kernel
theorem d_Rd_takeThings_82 : decode prog_2_method_4_code 82 = .ok (.aload_n 0, 1) := by decide +kernel
theorem d_Rd_takeThings_83 : decode prog_2_method_4_code 83 = .ok (.getfield 21, 3) := by decide +kernel
theorem d_Rd_takeThings_86 : decode prog_2_method_4_code 86 = .ok (.iload_n 1, 1) := by decide +kernel
theorem d_Rd_takeThings_87 : decode prog_2_method_4_code 87 = .ok (.invokevirtual 90, 3) := by decide +kernel
theorem d_Rd_takeThings_90 : decode prog_2_method_4_code 90 = .ok (.istore 5, 2) := by decide +kernel
theorem d_Rd_takeThings_92 : decode prog_2_method_4_code 92 = .ok (.iload_n 1, 1) := by decide +kernel
theorem d_Rd_takeThings_93 : decode prog_2_method_4_code 93 = .ok (.ifCond .ne 12, 3) := by decide +kernel
theorem d_Rd_takeThings_96 : decode prog_2_method_4_code 96 = .ok (.aload_n 0, 1) := by decide +kernel
theorem d_Rd_takeThings_97 : decode prog_2_method_4_code 97 = .ok (.iload 5, 2) := by decide +kernel
theorem d_Rd_takeThings_99 : decode prog_2_method_4_code 99 = .ok (.invokevirtual 93, 3) := by decide +kernel
theorem d_Rd_takeThings_102 : decode prog_2_method_4_code 102 = .ok (.goto 51, 3) := by decide +kernel
theorem d_Rd_takeThings_105 : decode prog_2_method_4_code 105 = .ok (.iload_n 1, 1) := by decide +kernel
theorem d_Rd_takeThings_106 : decode prog_2_method_4_code 106 = .ok (.iconst 1, 1) := by decide +kernel
theorem d_Rd_takeThings_107 : decode prog_2_method_4_code 107 = .ok (.if_icmp .ne 12, 3) := by decide +kernel
theorem d_Rd_takeThings_110 : decode prog_2_method_4_code 110 = .ok (.aload_n 0, 1) := by decide +kernel
theorem d_Rd_takeThings_111 : decode prog_2_method_4_code 111 = .ok (.iload 5, 2) := by decide +kernel
theorem d_Rd_takeThings_113 : decode prog_2_method_4_code 113 = .ok (.invokevirtual 96, 3) := by decide +kernel
theorem d_Rd_takeThings_116 : decode prog_2_method_4_code 116 = .ok (.goto 37, 3) := by decide +kernel
theorem d_Rd_takeThings_119 : decode prog_2_method_4_code 119 = .ok (.iload_n 1, 1) := by decide +kernel
theorem d_Rd_takeThings_120 : decode prog_2_method_4_code 120 = .ok (.iconst 2, 1) := by decide +kernel
theorem d_Rd_takeThings_121 : decode prog_2_method_4_code 121 = .ok (.if_icmp .ne 12, 3) := by decide +kernel
theorem d_Rd_takeThings_124 : decode prog_2_method_4_code 124 = .ok (.aload_n 0, 1) := by decide +kernel
theorem d_Rd_takeThings_125 : decode prog_2_method_4_code 125 = .ok (.iload 5, 2) := by decide +kernel
theorem d_Rd_takeThings_127 : decode prog_2_method_4_code 127 = .ok (.invokevirtual 99, 3) := by decide +kernel
theorem d_Rd_takeThings_130 : decode prog_2_method_4_code 130 = .ok (.goto 23, 3) := by decide +kernel
theorem d_Rd_takeThings_133 : decode prog_2_method_4_code 133 = .ok (.iload_n 1, 1) := by decide +kernel
theorem d_Rd_takeThings_134 : decode prog_2_method_4_code 134 = .ok (.iconst 3, 1) := by decide +kernel
theorem d_Rd_takeThings_135 : decode prog_2_method_4_code 135 = .ok (.if_icmp .ne 12, 3) := by decide +kernel
theorem d_Rd_takeThings_138 : decode prog_2_method_4_code 138 = .ok (.aload_n 0, 1) := by decide +kernel
theorem d_Rd_takeThings_139 : decode prog_2_method_4_code 139 = .ok (.iload 5, 2) := by decide +kernel
theorem d_Rd_takeThings_141 : decode prog_2_method_4_code 141 = .ok (.invokevirtual 102, 3) := by decide +kernel
theorem d_Rd_takeThings_144 : decode prog_2_method_4_code 144 = .ok (.goto 9, 3) := by decide +kernel
theorem d_Rd_takeThings_147 : decode prog_2_method_4_code 147 = .ok (.aload_n 0, 1) := by decide +kernel
theorem d_Rd_takeThings_148 : decode prog_2_method_4_code 148 = .ok (.iload 5, 2) := by decide +kernel
theorem d_Rd_takeThings_150 : decode prog_2_method_4_code 150 = .ok (.invokevirtual 105, 3) := by decide +kernel
theorem d_Rd_takeThings_153 : decode prog_2_method_4_code 153 = .ok (.aload_n 0, 1) := by decide +kernel
theorem d_Rd_takeThings_154 : decode prog_2_method_4_code 154 = .ok (.getfield 12, 3) := by decide +kernel
theorem d_Rd_takeThings_157 : decode prog_2_method_4_code 157 = .ok (.bipush 125, 2) := by decide +kernel
theorem d_Rd_takeThings_159 : decode prog_2_method_4_code 159 = .ok (.invokevirtual 31, 3) := by decide +kernel
theorem d_Rd_takeThings_162 : decode prog_2_method_4_code 162 = .ok (.aload_n 0, 1) := by decide +kernel
theorem d_Rd_takeThings_163 : decode prog_2_method_4_code 163 = .ok (.getfield 12, 3) := by decide +kernel
theorem d_Rd_takeThings_166 : decode prog_2_method_4_code 166 = .ok (.bipush 44, 2) := by decide +kernel
theorem d_Rd_takeThings_168 : decode prog_2_method_4_code 168 = .ok (.invokevirtual 57, 3) := by decide +kernel
theorem d_Rd_takeThings_171 : decode prog_2_method_4_code 171 = .ok (.istore_n 3, 1) := by decide +kernel
theorem d_Rd_takeThings_172 : decode prog_2_method_4_code 172 = .ok (.iinc 4 1, 3) := by decide +kernel
theorem d_Rd_takeThings_175 : decode prog_2_method_4_code 175 = .ok (.goto (-140), 3) := by decide +kernel
theorem d_Rd_takeThings_178 : decode prog_2_method_4_code 178 = .ok (.aload_n 0, 1) := by decide +kernel
theorem d_Rd_takeThings_179 : decode prog_2_method_4_code 179 = .ok (.getfield 12, 3) := by decide +kernel
theorem d_Rd_takeThings_182 : decode prog_2_method_4_code 182 = .ok (.bipush 93, 2) := by decide +kernel
theorem d_Rd_takeThings_184 : decode prog_2_method_4_code 184 = .ok (.invokevirtual 31, 3) := by decide +kernel
theorem d_Rd_takeThings_187 : decode prog_2_method_4_code 187 = .ok (.return_, 1) := by decide +kernel
theorem d_Sc_mostOf_0 : decode prog_3_method_5_code 0 = .ok (.iload_n 0, 1) := by decide +kernel
theorem d_Sc_mostOf_1 : decode prog_3_method_5_code 1 = .ok (.ifCond .lt 8, 3) := by decide +kernel
theorem d_Sc_mostOf_4 : decode prog_3_method_5_code 4 = .ok (.iload_n 0, 1) := by decide +kernel
theorem d_Sc_mostOf_5 : decode prog_3_method_5_code 5 = .ok (.iconst 5, 1) := by decide +kernel
theorem d_Sc_mostOf_6 : decode prog_3_method_5_code 6 = .ok (.if_icmp .lt 7, 3) := by decide +kernel
theorem d_Sc_mostOf_9 : decode prog_3_method_5_code 9 = .ok (.iconst 0, 1) := by decide +kernel
theorem d_Sc_mostOf_10 : decode prog_3_method_5_code 10 = .ok (.goto 8, 3) := by decide +kernel
theorem d_Sc_mostOf_13 : decode prog_3_method_5_code 13 = .ok (.getstatic 25, 3) := by decide +kernel
theorem d_Sc_mostOf_16 : decode prog_3_method_5_code 16 = .ok (.iload_n 0, 1) := by decide +kernel
theorem d_Sc_mostOf_17 : decode prog_3_method_5_code 17 = .ok (.iaload, 1) := by decide +kernel
theorem d_Sc_mostOf_18 : decode prog_3_method_5_code 18 = .ok (.ireturn, 1) := by decide +kernel
theorem d_Sc_add_0 : decode prog_3_method_3_code 0 = .ok (.iload_n 1, 1) := by decide +kernel
theorem d_Sc_add_1 : decode prog_3_method_3_code 1 = .ok (.ifCond .lt 22, 3) := by decide +kernel
theorem d_Sc_add_4 : decode prog_3_method_3_code 4 = .ok (.iload_n 1, 1) := by decide +kernel
theorem d_Sc_add_5 : decode prog_3_method_3_code 5 = .ok (.iconst 5, 1) := by decide +kernel
theorem d_Sc_add_6 : decode prog_3_method_3_code 6 = .ok (.if_icmp .ge 17, 3) := by decide +kernel
theorem d_Sc_add_9 : decode prog_3_method_3_code 9 = .ok (.aload_n 0, 1) := by decide +kernel
theorem d_Sc_add_10 : decode prog_3_method_3_code 10 = .ok (.getfield 11, 3) := by decide +kernel
theorem d_Sc_add_13 : decode prog_3_method_3_code 13 = .ok (.iload_n 1, 1) := by decide +kernel
theorem d_Sc_add_14 : decode prog_3_method_3_code 14 = .ok (.iaload, 1) := by decide +kernel
theorem d_Sc_add_15 : decode prog_3_method_3_code 15 = .ok (.getstatic 25, 3) := by decide +kernel
theorem d_Sc_add_18 : decode prog_3_method_3_code 18 = .ok (.iload_n 1, 1) := by decide +kernel
theorem d_Sc_add_19 : decode prog_3_method_3_code 19 = .ok (.iaload, 1) := by decide +kernel
theorem d_Sc_add_20 : decode prog_3_method_3_code 20 = .ok (.if_icmp .lt 5, 3) := by decide +kernel
theorem d_Sc_add_23 : decode prog_3_method_3_code 23 = .ok (.iconst (-1), 1) := by decide +kernel
theorem d_Sc_add_24 : decode prog_3_method_3_code 24 = .ok (.ireturn, 1) := by decide +kernel
theorem d_Sc_add_25 : decode prog_3_method_3_code 25 = .ok (.aload_n 0, 1) := by decide +kernel
theorem d_Sc_add_26 : decode prog_3_method_3_code 26 = .ok (.getfield 11, 3) := by decide +kernel
theorem d_Sc_add_29 : decode prog_3_method_3_code 29 = .ok (.iload_n 1, 1) := by decide +kernel
theorem d_Sc_add_30 : decode prog_3_method_3_code 30 = .ok (.dup2, 1) := by decide +kernel
theorem d_Sc_add_31 : decode prog_3_method_3_code 31 = .ok (.iaload, 1) := by decide +kernel
theorem d_Sc_add_32 : decode prog_3_method_3_code 32 = .ok (.iconst 1, 1) := by decide +kernel
theorem d_Sc_add_33 : decode prog_3_method_3_code 33 = .ok (.iadd, 1) := by decide +kernel
theorem d_Sc_add_34 : decode prog_3_method_3_code 34 = .ok (.iastore, 1) := by decide +kernel
theorem d_Sc_add_35 : decode prog_3_method_3_code 35 = .ok (.aload_n 0, 1) := by decide +kernel
theorem d_Sc_add_36 : decode prog_3_method_3_code 36 = .ok (.iload_n 1, 1) := by decide +kernel
theorem d_Sc_add_37 : decode prog_3_method_3_code 37 = .ok (.aload_n 0, 1) := by decide +kernel
theorem d_Sc_add_38 : decode prog_3_method_3_code 38 = .ok (.getfield 11, 3) := by decide +kernel
theorem d_Sc_add_41 : decode prog_3_method_3_code 41 = .ok (.iload_n 1, 1) := by decide +kernel
theorem d_Sc_add_42 : decode prog_3_method_3_code 42 = .ok (.iaload, 1) := by decide +kernel
theorem d_Sc_add_43 : decode prog_3_method_3_code 43 = .ok (.iconst 1, 1) := by decide +kernel
theorem d_Sc_add_44 : decode prog_3_method_3_code 44 = .ok (.isub, 1) := by decide +kernel
theorem d_Sc_add_45 : decode prog_3_method_3_code 45 = .ok (.invokevirtual 28, 3) := by decide +kernel
theorem d_Sc_add_48 : decode prog_3_method_3_code 48 = .ok (.ireturn, 1) := by decide +kernel
theorem d_Rd_takeTexture_0 : decode prog_2_method_5_code 0 = .ok (.aload_n 0, 1) := by decide +kernel
theorem d_Rd_takeTexture_1 : decode prog_2_method_5_code 1 = .ok (.bipush 123, 2) := by decide +kernel
theorem d_Rd_takeTexture_3 : decode prog_2_method_5_code 3 = .ok (.ldc 108, 2) := by decide +kernel
theorem d_Rd_takeTexture_5 : decode prog_2_method_5_code 5 = .ok (.invokevirtual 110, 3) := by decide +kernel
theorem d_Rd_takeTexture_8 : decode prog_2_method_5_code 8 = .ok (.aload_n 0, 1) := by decide +kernel
theorem d_Rd_takeTexture_9 : decode prog_2_method_5_code 9 = .ok (.iload_n 1, 1) := by decide +kernel
theorem d_Rd_takeTexture_10 : decode prog_2_method_5_code 10 = .ok (.iconst 1, 1) := by decide +kernel
theorem d_Rd_takeTexture_11 : decode prog_2_method_5_code 11 = .ok (.bipush 32, 2) := by decide +kernel
theorem d_Rd_takeTexture_13 : decode prog_2_method_5_code 13 = .ok (.invokevirtual 114, 3) := by decide +kernel
theorem d_Rd_takeTexture_16 : decode prog_2_method_5_code 16 = .ok (.istore_n 2, 1) := by decide +kernel
theorem d_Rd_takeTexture_17 : decode prog_2_method_5_code 17 = .ok (.iload_n 2, 1) := by decide +kernel
theorem d_Rd_takeTexture_18 : decode prog_2_method_5_code 18 = .ok (.iload_n 2, 1) := by decide +kernel
theorem d_Rd_takeTexture_19 : decode prog_2_method_5_code 19 = .ok (.iconst 1, 1) := by decide +kernel
theorem d_Rd_takeTexture_20 : decode prog_2_method_5_code 20 = .ok (.isub, 1) := by decide +kernel
theorem d_Rd_takeTexture_21 : decode prog_2_method_5_code 21 = .ok (.iand, 1) := by decide +kernel
theorem d_Rd_takeTexture_22 : decode prog_2_method_5_code 22 = .ok (.ifCond .ne 7, 3) := by decide +kernel
theorem d_Rd_takeTexture_25 : decode prog_2_method_5_code 25 = .ok (.iconst 1, 1) := by decide +kernel
theorem d_Rd_takeTexture_26 : decode prog_2_method_5_code 26 = .ok (.goto 4, 3) := by decide +kernel
theorem d_Rd_takeTexture_29 : decode prog_2_method_5_code 29 = .ok (.iconst 0, 1) := by decide +kernel
theorem d_Rd_takeTexture_30 : decode prog_2_method_5_code 30 = .ok (.istore_n 3, 1) := by decide +kernel
theorem d_Rd_takeTexture_31 : decode prog_2_method_5_code 31 = .ok (.iload_n 3, 1) := by decide +kernel
theorem d_Rd_takeTexture_32 : decode prog_2_method_5_code 32 = .ok (.ifCond .ne 18, 3) := by decide +kernel
theorem d_Rd_takeTexture_35 : decode prog_2_method_5_code 35 = .ok (.aload_n 0, 1) := by decide +kernel
theorem d_Rd_takeTexture_36 : decode prog_2_method_5_code 36 = .ok (.getfield 12, 3) := by decide +kernel
theorem d_Rd_takeTexture_39 : decode prog_2_method_5_code 39 = .ok (.iconst 2, 1) := by decide +kernel
theorem d_Rd_takeTexture_40 : decode prog_2_method_5_code 40 = .ok (.aload_n 0, 1) := by decide +kernel
theorem d_Rd_takeTexture_41 : decode prog_2_method_5_code 41 = .ok (.getfield 12, 3) := by decide +kernel
theorem d_Rd_takeTexture_44 : decode prog_2_method_5_code 44 = .ok (.getfield 118, 3) := by decide +kernel
theorem d_Rd_takeTexture_47 : decode prog_2_method_5_code 47 = .ok (.invokevirtual 64, 3) := by decide +kernel
theorem d_Rd_takeTexture_50 : decode prog_2_method_5_code 50 = .ok (.aload_n 0, 1) := by decide +kernel
theorem d_Rd_takeTexture_51 : decode prog_2_method_5_code 51 = .ok (.bipush 44, 2) := by decide +kernel
theorem d_Rd_takeTexture_53 : decode prog_2_method_5_code 53 = .ok (.ldc 121, 2) := by decide +kernel
theorem d_Rd_takeTexture_55 : decode prog_2_method_5_code 55 = .ok (.invokevirtual 110, 3) := by decide +kernel
theorem d_Rd_takeTexture_58 : decode prog_2_method_5_code 58 = .ok (.aload_n 0, 1) := by decide +kernel
theorem d_Rd_takeTexture_59 : decode prog_2_method_5_code 59 = .ok (.iload_n 1, 1) := by decide +kernel
theorem d_Rd_takeTexture_60 : decode prog_2_method_5_code 60 = .ok (.iconst 1, 1) := by decide +kernel
theorem d_Rd_takeTexture_61 : decode prog_2_method_5_code 61 = .ok (.iadd, 1) := by decide +kernel
theorem d_Rd_takeTexture_62 : decode prog_2_method_5_code 62 = .ok (.iconst 0, 1) := by decide +kernel
theorem d_Rd_takeTexture_63 : decode prog_2_method_5_code 63 = .ok (.iconst 2, 1) := by decide +kernel
theorem d_Rd_takeTexture_64 : decode prog_2_method_5_code 64 = .ok (.invokevirtual 114, 3) := by decide +kernel
theorem d_Rd_takeTexture_67 : decode prog_2_method_5_code 67 = .ok (.pop, 1) := by decide +kernel
theorem d_Rd_takeTexture_68 : decode prog_2_method_5_code 68 = .ok (.aload_n 0, 1) := by decide +kernel
theorem d_Rd_takeTexture_69 : decode prog_2_method_5_code 69 = .ok (.bipush 44, 2) := by decide +kernel
theorem d_Rd_takeTexture_71 : decode prog_2_method_5_code 71 = .ok (.ldc 123, 2) := by decide +kernel
theorem d_Rd_takeTexture_73 : decode prog_2_method_5_code 73 = .ok (.invokevirtual 110, 3) := by decide +kernel
theorem d_Rd_takeTexture_76 : decode prog_2_method_5_code 76 = .ok (.aload_n 0, 1) := by decide +kernel
theorem d_Rd_takeTexture_77 : decode prog_2_method_5_code 77 = .ok (.iload_n 1, 1) := by decide +kernel
theorem d_Rd_takeTexture_78 : decode prog_2_method_5_code 78 = .ok (.iconst 2, 1) := by decide +kernel
theorem d_Rd_takeTexture_79 : decode prog_2_method_5_code 79 = .ok (.iadd, 1) := by decide +kernel
theorem d_Rd_takeTexture_80 : decode prog_2_method_5_code 80 = .ok (.iconst 0, 1) := by decide +kernel
theorem d_Rd_takeTexture_81 : decode prog_2_method_5_code 81 = .ok (.iconst 1, 1) := by decide +kernel
theorem d_Rd_takeTexture_82 : decode prog_2_method_5_code 82 = .ok (.invokevirtual 114, 3) := by decide +kernel
theorem d_Rd_takeTexture_85 : decode prog_2_method_5_code 85 = .ok (.pop, 1) := by decide +kernel
theorem d_Rd_takeTexture_86 : decode prog_2_method_5_code 86 = .ok (.aload_n 0, 1) := by decide +kernel
theorem d_Rd_takeTexture_87 : decode prog_2_method_5_code 87 = .ok (.bipush 44, 2) := by decide +kernel
theorem d_Rd_takeTexture_89 : decode prog_2_method_5_code 89 = .ok (.ldc 125, 2) := by decide +kernel
theorem d_Rd_takeTexture_91 : decode prog_2_method_5_code 91 = .ok (.invokevirtual 110, 3) := by decide +kernel
theorem d_Rd_takeTexture_94 : decode prog_2_method_5_code 94 = .ok (.iconst 3, 1) := by decide +kernel
theorem d_Rd_takeTexture_95 : decode prog_2_method_5_code 95 = .ok (.iload_n 2, 1) := by decide +kernel
theorem d_Rd_takeTexture_96 : decode prog_2_method_5_code 96 = .ok (.imul, 1) := by decide +kernel
theorem d_Rd_takeTexture_97 : decode prog_2_method_5_code 97 = .ok (.iload_n 2, 1) := by decide +kernel
theorem d_Rd_takeTexture_98 : decode prog_2_method_5_code 98 = .ok (.imul, 1) := by decide +kernel
theorem d_Rd_takeTexture_99 : decode prog_2_method_5_code 99 = .ok (.istore 4, 2) := by decide +kernel
theorem d_Rd_takeTexture_101 : decode prog_2_method_5_code 101 = .ok (.aload_n 0, 1) := by decide +kernel
theorem d_Rd_takeTexture_102 : decode prog_2_method_5_code 102 = .ok (.iconst 0, 1) := by decide +kernel
theorem d_Rd_takeTexture_103 : decode prog_2_method_5_code 103 = .ok (.iload 4, 2) := by decide +kernel
theorem d_Rd_takeTexture_105 : decode prog_2_method_5_code 105 = .ok (.iload 4, 2) := by decide +kernel
theorem d_Rd_takeTexture_107 : decode prog_2_method_5_code 107 = .ok (.iload_n 1, 1) := by decide +kernel
theorem d_Rd_takeTexture_108 : decode prog_2_method_5_code 108 = .ok (.iconst 3, 1) := by decide +kernel
theorem d_Rd_takeTexture_109 : decode prog_2_method_5_code 109 = .ok (.iadd, 1) := by decide +kernel
theorem d_Rd_takeTexture_110 : decode prog_2_method_5_code 110 = .ok (.iconst 0, 1) := by decide +kernel
theorem d_Rd_takeTexture_111 : decode prog_2_method_5_code 111 = .ok (.sipush 255, 3) := by decide +kernel
theorem d_Rd_takeTexture_114 : decode prog_2_method_5_code 114 = .ok (.invokevirtual 127, 3) := by decide +kernel
theorem d_Rd_takeTexture_117 : decode prog_2_method_5_code 117 = .ok (.pop, 1) := by decide +kernel
theorem d_Rd_takeTexture_118 : decode prog_2_method_5_code 118 = .ok (.return_, 1) := by decide +kernel
theorem d_Rd_takeMaterial_0 : decode prog_2_method_6_code 0 = .ok (.aload_n 0, 1) := by decide +kernel
theorem d_Rd_takeMaterial_1 : decode prog_2_method_6_code 1 = .ok (.bipush 123, 2) := by decide +kernel
theorem d_Rd_takeMaterial_3 : decode prog_2_method_6_code 3 = .ok (.ldc 131, 2) := by decide +kernel
theorem d_Rd_takeMaterial_5 : decode prog_2_method_6_code 5 = .ok (.invokevirtual 110, 3) := by decide +kernel
theorem d_Rd_takeMaterial_8 : decode prog_2_method_6_code 8 = .ok (.aload_n 0, 1) := by decide +kernel
theorem d_Rd_takeMaterial_9 : decode prog_2_method_6_code 9 = .ok (.iconst 0, 1) := by decide +kernel
theorem d_Rd_takeMaterial_10 : decode prog_2_method_6_code 10 = .ok (.iconst 4, 1) := by decide +kernel
theorem d_Rd_takeMaterial_11 : decode prog_2_method_6_code 11 = .ok (.iconst 4, 1) := by decide +kernel
theorem d_Rd_takeMaterial_12 : decode prog_2_method_6_code 12 = .ok (.iload_n 1, 1) := by decide +kernel
theorem d_Rd_takeMaterial_13 : decode prog_2_method_6_code 13 = .ok (.iconst 0, 1) := by decide +kernel
theorem d_Rd_takeMaterial_14 : decode prog_2_method_6_code 14 = .ok (.sipush 255, 3) := by decide +kernel
theorem d_Rd_takeMaterial_17 : decode prog_2_method_6_code 17 = .ok (.invokevirtual 127, 3) := by decide +kernel
theorem d_Rd_takeMaterial_20 : decode prog_2_method_6_code 20 = .ok (.pop, 1) := by decide +kernel
theorem d_Rd_takeMaterial_21 : decode prog_2_method_6_code 21 = .ok (.aload_n 0, 1) := by decide +kernel
theorem d_Rd_takeMaterial_22 : decode prog_2_method_6_code 22 = .ok (.bipush 44, 2) := by decide +kernel
theorem d_Rd_takeMaterial_24 : decode prog_2_method_6_code 24 = .ok (.ldc 133, 2) := by decide +kernel
theorem d_Rd_takeMaterial_26 : decode prog_2_method_6_code 26 = .ok (.invokevirtual 110, 3) := by decide +kernel
theorem d_Rd_takeMaterial_29 : decode prog_2_method_6_code 29 = .ok (.aload_n 0, 1) := by decide +kernel
theorem d_Rd_takeMaterial_30 : decode prog_2_method_6_code 30 = .ok (.iload_n 1, 1) := by decide +kernel
theorem d_Rd_takeMaterial_31 : decode prog_2_method_6_code 31 = .ok (.iconst 4, 1) := by decide +kernel
theorem d_Rd_takeMaterial_32 : decode prog_2_method_6_code 32 = .ok (.iadd, 1) := by decide +kernel
theorem d_Rd_takeMaterial_33 : decode prog_2_method_6_code 33 = .ok (.iconst (-1), 1) := by decide +kernel
theorem d_Rd_takeMaterial_34 : decode prog_2_method_6_code 34 = .ok (.aload_n 0, 1) := by decide +kernel
theorem d_Rd_takeMaterial_35 : decode prog_2_method_6_code 35 = .ok (.getfield 21, 3) := by decide +kernel
theorem d_Rd_takeMaterial_38 : decode prog_2_method_6_code 38 = .ok (.iconst 0, 1) := by decide +kernel
theorem d_Rd_takeMaterial_39 : decode prog_2_method_6_code 39 = .ok (.invokevirtual 135, 3) := by decide +kernel
theorem d_Rd_takeMaterial_42 : decode prog_2_method_6_code 42 = .ok (.iconst 1, 1) := by decide +kernel
theorem d_Rd_takeMaterial_43 : decode prog_2_method_6_code 43 = .ok (.isub, 1) := by decide +kernel
theorem d_Rd_takeMaterial_44 : decode prog_2_method_6_code 44 = .ok (.invokevirtual 114, 3) := by decide +kernel
theorem d_Rd_takeMaterial_47 : decode prog_2_method_6_code 47 = .ok (.pop, 1) := by decide +kernel
theorem d_Rd_takeMaterial_48 : decode prog_2_method_6_code 48 = .ok (.aload_n 0, 1) := by decide +kernel
theorem d_Rd_takeMaterial_49 : decode prog_2_method_6_code 49 = .ok (.bipush 44, 2) := by decide +kernel
theorem d_Rd_takeMaterial_51 : decode prog_2_method_6_code 51 = .ok (.ldc 138, 2) := by decide +kernel
theorem d_Rd_takeMaterial_53 : decode prog_2_method_6_code 53 = .ok (.invokevirtual 110, 3) := by decide +kernel
theorem d_Rd_takeMaterial_56 : decode prog_2_method_6_code 56 = .ok (.aload_n 0, 1) := by decide +kernel
theorem d_Rd_takeMaterial_57 : decode prog_2_method_6_code 57 = .ok (.iload_n 1, 1) := by decide +kernel
theorem d_Rd_takeMaterial_58 : decode prog_2_method_6_code 58 = .ok (.iconst 5, 1) := by decide +kernel
theorem d_Rd_takeMaterial_59 : decode prog_2_method_6_code 59 = .ok (.iadd, 1) := by decide +kernel
theorem d_Rd_takeMaterial_60 : decode prog_2_method_6_code 60 = .ok (.iconst 0, 1) := by decide +kernel
theorem d_Rd_takeMaterial_61 : decode prog_2_method_6_code 61 = .ok (.iconst 1, 1) := by decide +kernel
theorem d_Rd_takeMaterial_62 : decode prog_2_method_6_code 62 = .ok (.invokevirtual 114, 3) := by decide +kernel
theorem d_Rd_takeMaterial_65 : decode prog_2_method_6_code 65 = .ok (.pop, 1) := by decide +kernel
theorem d_Rd_takeMaterial_66 : decode prog_2_method_6_code 66 = .ok (.return_, 1) := by decide +kernel
theorem d_Rd_takeMesh_0 : decode prog_2_method_7_code 0 = .ok (.aload_n 0, 1) := by decide +kernel
theorem d_Rd_takeMesh_1 : decode prog_2_method_7_code 1 = .ok (.bipush 123, 2) := by decide +kernel
theorem d_Rd_takeMesh_3 : decode prog_2_method_7_code 3 = .ok (.ldc 140, 2) := by decide +kernel
theorem d_Rd_takeMesh_5 : decode prog_2_method_7_code 5 = .ok (.invokevirtual 110, 3) := by decide +kernel
theorem d_Rd_takeMesh_8 : decode prog_2_method_7_code 8 = .ok (.aload_n 0, 1) := by decide +kernel
theorem d_Rd_takeMesh_9 : decode prog_2_method_7_code 9 = .ok (.iload_n 1, 1) := by decide +kernel
theorem d_Rd_takeMesh_10 : decode prog_2_method_7_code 10 = .ok (.iconst 0, 1) := by decide +kernel
theorem d_Rd_takeMesh_11 : decode prog_2_method_7_code 11 = .ok (.aload_n 0, 1) := by decide +kernel
theorem d_Rd_takeMesh_12 : decode prog_2_method_7_code 12 = .ok (.getfield 21, 3) := by decide +kernel
theorem d_Rd_takeMesh_15 : decode prog_2_method_7_code 15 = .ok (.iconst 1, 1) := by decide +kernel
theorem d_Rd_takeMesh_16 : decode prog_2_method_7_code 16 = .ok (.invokevirtual 135, 3) := by decide +kernel
theorem d_Rd_takeMesh_19 : decode prog_2_method_7_code 19 = .ok (.iconst 1, 1) := by decide +kernel
theorem d_Rd_takeMesh_20 : decode prog_2_method_7_code 20 = .ok (.isub, 1) := by decide +kernel
theorem d_Rd_takeMesh_21 : decode prog_2_method_7_code 21 = .ok (.invokevirtual 114, 3) := by decide +kernel
theorem d_Rd_takeMesh_24 : decode prog_2_method_7_code 24 = .ok (.pop, 1) := by decide +kernel
theorem d_Rd_takeMesh_25 : decode prog_2_method_7_code 25 = .ok (.aload_n 0, 1) := by decide +kernel
theorem d_Rd_takeMesh_26 : decode prog_2_method_7_code 26 = .ok (.bipush 44, 2) := by decide +kernel
theorem d_Rd_takeMesh_28 : decode prog_2_method_7_code 28 = .ok (.ldc 142, 2) := by decide +kernel
theorem d_Rd_takeMesh_30 : decode prog_2_method_7_code 30 = .ok (.invokevirtual 110, 3) := by decide +kernel
theorem d_Rd_takeMesh_33 : decode prog_2_method_7_code 33 = .ok (.aload_n 0, 1) := by decide +kernel
theorem d_Rd_takeMesh_34 : decode prog_2_method_7_code 34 = .ok (.iconst 1, 1) := by decide +kernel
theorem d_Rd_takeMesh_35 : decode prog_2_method_7_code 35 = .ok (.iconst 3, 1) := by decide +kernel
theorem d_Rd_takeMesh_36 : decode prog_2_method_7_code 36 = .ok (.sipush 384, 3) := by decide +kernel
theorem d_Rd_takeMesh_39 : decode prog_2_method_7_code 39 = .ok (.iload_n 1, 1) := by decide +kernel
theorem d_Rd_takeMesh_40 : decode prog_2_method_7_code 40 = .ok (.iconst 3, 1) := by decide +kernel
theorem d_Rd_takeMesh_41 : decode prog_2_method_7_code 41 = .ok (.iadd, 1) := by decide +kernel
theorem d_Rd_takeMesh_42 : decode prog_2_method_7_code 42 = .ok (.ldc 144, 2) := by decide +kernel
theorem d_Rd_takeMesh_44 : decode prog_2_method_7_code 44 = .ok (.ldc 145, 2) := by decide +kernel
theorem d_Rd_takeMesh_46 : decode prog_2_method_7_code 46 = .ok (.invokevirtual 127, 3) := by decide +kernel
theorem d_Rd_takeMesh_49 : decode prog_2_method_7_code 49 = .ok (.iconst 3, 1) := by decide +kernel
theorem d_Rd_takeMesh_50 : decode prog_2_method_7_code 50 = .ok (.idiv, 1) := by decide +kernel
theorem d_Rd_takeMesh_51 : decode prog_2_method_7_code 51 = .ok (.istore_n 2, 1) := by decide +kernel
theorem d_Rd_takeMesh_52 : decode prog_2_method_7_code 52 = .ok (.aload_n 0, 1) := by decide +kernel
theorem d_Rd_takeMesh_53 : decode prog_2_method_7_code 53 = .ok (.bipush 44, 2) := by decide +kernel
theorem d_Rd_takeMesh_55 : decode prog_2_method_7_code 55 = .ok (.ldc 146, 2) := by decide +kernel
theorem d_Rd_takeMesh_57 : decode prog_2_method_7_code 57 = .ok (.invokevirtual 110, 3) := by decide +kernel
theorem d_Rd_takeMesh_60 : decode prog_2_method_7_code 60 = .ok (.aload_n 0, 1) := by decide +kernel
theorem d_Rd_takeMesh_61 : decode prog_2_method_7_code 61 = .ok (.iconst 0, 1) := by decide +kernel
theorem d_Rd_takeMesh_62 : decode prog_2_method_7_code 62 = .ok (.iconst 3, 1) := by decide +kernel
theorem d_Rd_takeMesh_63 : decode prog_2_method_7_code 63 = .ok (.iload_n 2, 1) := by decide +kernel
theorem d_Rd_takeMesh_64 : decode prog_2_method_7_code 64 = .ok (.imul, 1) := by decide +kernel
theorem d_Rd_takeMesh_65 : decode prog_2_method_7_code 65 = .ok (.iconst 3, 1) := by decide +kernel
theorem d_Rd_takeMesh_66 : decode prog_2_method_7_code 66 = .ok (.iload_n 2, 1) := by decide +kernel
theorem d_Rd_takeMesh_67 : decode prog_2_method_7_code 67 = .ok (.imul, 1) := by decide +kernel
theorem d_Rd_takeMesh_68 : decode prog_2_method_7_code 68 = .ok (.iload_n 1, 1) := by decide +kernel
theorem d_Rd_takeMesh_69 : decode prog_2_method_7_code 69 = .ok (.sipush 387, 3) := by decide +kernel
theorem d_Rd_takeMesh_72 : decode prog_2_method_7_code 72 = .ok (.iadd, 1) := by decide +kernel
theorem d_Rd_takeMesh_73 : decode prog_2_method_7_code 73 = .ok (.ldc 148, 2) := by decide +kernel
theorem d_Rd_takeMesh_75 : decode prog_2_method_7_code 75 = .ok (.ldc 149, 2) := by decide +kernel
theorem d_Rd_takeMesh_77 : decode prog_2_method_7_code 77 = .ok (.invokevirtual 127, 3) := by decide +kernel
theorem d_Rd_takeMesh_80 : decode prog_2_method_7_code 80 = .ok (.pop, 1) := by decide +kernel
theorem d_Rd_takeMesh_81 : decode prog_2_method_7_code 81 = .ok (.aload_n 0, 1) := by decide +kernel
theorem d_Rd_takeMesh_82 : decode prog_2_method_7_code 82 = .ok (.bipush 44, 2) := by decide +kernel
theorem d_Rd_takeMesh_84 : decode prog_2_method_7_code 84 = .ok (.ldc 150, 2) := by decide +kernel
theorem d_Rd_takeMesh_86 : decode prog_2_method_7_code 86 = .ok (.invokevirtual 110, 3) := by decide +kernel
theorem d_Rd_takeMesh_89 : decode prog_2_method_7_code 89 = .ok (.aload_n 0, 1) := by decide +kernel
theorem d_Rd_takeMesh_90 : decode prog_2_method_7_code 90 = .ok (.iconst 0, 1) := by decide +kernel
theorem d_Rd_takeMesh_91 : decode prog_2_method_7_code 91 = .ok (.iconst 2, 1) := by decide +kernel
theorem d_Rd_takeMesh_92 : decode prog_2_method_7_code 92 = .ok (.iload_n 2, 1) := by decide +kernel
theorem d_Rd_takeMesh_93 : decode prog_2_method_7_code 93 = .ok (.imul, 1) := by decide +kernel
theorem d_Rd_takeMesh_94 : decode prog_2_method_7_code 94 = .ok (.iconst 2, 1) := by decide +kernel
theorem d_Rd_takeMesh_95 : decode prog_2_method_7_code 95 = .ok (.iload_n 2, 1) := by decide +kernel
theorem d_Rd_takeMesh_96 : decode prog_2_method_7_code 96 = .ok (.imul, 1) := by decide +kernel
theorem d_Rd_takeMesh_97 : decode prog_2_method_7_code 97 = .ok (.iload_n 1, 1) := by decide +kernel
theorem d_Rd_takeMesh_98 : decode prog_2_method_7_code 98 = .ok (.sipush 771, 3) := by decide +kernel
theorem d_Rd_takeMesh_101 : decode prog_2_method_7_code 101 = .ok (.iadd, 1) := by decide +kernel
theorem d_Rd_takeMesh_102 : decode prog_2_method_7_code 102 = .ok (.ldc 152, 2) := by decide +kernel
theorem d_Rd_takeMesh_104 : decode prog_2_method_7_code 104 = .ok (.ldc 153, 2) := by decide +kernel
theorem d_Rd_takeMesh_106 : decode prog_2_method_7_code 106 = .ok (.invokevirtual 127, 3) := by decide +kernel
theorem d_Rd_takeMesh_109 : decode prog_2_method_7_code 109 = .ok (.pop, 1) := by decide +kernel
theorem d_Rd_takeMesh_110 : decode prog_2_method_7_code 110 = .ok (.aload_n 0, 1) := by decide +kernel
theorem d_Rd_takeMesh_111 : decode prog_2_method_7_code 111 = .ok (.bipush 44, 2) := by decide +kernel
theorem d_Rd_takeMesh_113 : decode prog_2_method_7_code 113 = .ok (.ldc 154, 2) := by decide +kernel
theorem d_Rd_takeMesh_115 : decode prog_2_method_7_code 115 = .ok (.invokevirtual 110, 3) := by decide +kernel
theorem d_Rd_takeMesh_118 : decode prog_2_method_7_code 118 = .ok (.aload_n 0, 1) := by decide +kernel
theorem d_Rd_takeMesh_119 : decode prog_2_method_7_code 119 = .ok (.iconst 1, 1) := by decide +kernel
theorem d_Rd_takeMesh_120 : decode prog_2_method_7_code 120 = .ok (.iconst 3, 1) := by decide +kernel
theorem d_Rd_takeMesh_121 : decode prog_2_method_7_code 121 = .ok (.sipush 384, 3) := by decide +kernel
theorem d_Rd_takeMesh_124 : decode prog_2_method_7_code 124 = .ok (.iload_n 1, 1) := by decide +kernel
theorem d_Rd_takeMesh_125 : decode prog_2_method_7_code 125 = .ok (.sipush 1027, 3) := by decide +kernel
theorem d_Rd_takeMesh_128 : decode prog_2_method_7_code 128 = .ok (.iadd, 1) := by decide +kernel
theorem d_Rd_takeMesh_129 : decode prog_2_method_7_code 129 = .ok (.iconst 0, 1) := by decide +kernel
theorem d_Rd_takeMesh_130 : decode prog_2_method_7_code 130 = .ok (.iload_n 2, 1) := by decide +kernel
theorem d_Rd_takeMesh_131 : decode prog_2_method_7_code 131 = .ok (.iconst 1, 1) := by decide +kernel
theorem d_Rd_takeMesh_132 : decode prog_2_method_7_code 132 = .ok (.isub, 1) := by decide +kernel
theorem d_Rd_takeMesh_133 : decode prog_2_method_7_code 133 = .ok (.invokevirtual 127, 3) := by decide +kernel
theorem d_Rd_takeMesh_136 : decode prog_2_method_7_code 136 = .ok (.iconst 3, 1) := by decide +kernel
theorem d_Rd_takeMesh_137 : decode prog_2_method_7_code 137 = .ok (.idiv, 1) := by decide +kernel
theorem d_Rd_takeMesh_138 : decode prog_2_method_7_code 138 = .ok (.istore_n 3, 1) := by decide +kernel
theorem d_Rd_takeMesh_139 : decode prog_2_method_7_code 139 = .ok (.aload_n 0, 1) := by decide +kernel
theorem d_Rd_takeMesh_140 : decode prog_2_method_7_code 140 = .ok (.getfield 21, 3) := by decide +kernel
theorem d_Rd_takeMesh_143 : decode prog_2_method_7_code 143 = .ok (.iload_n 1, 1) := by decide +kernel
theorem d_Rd_takeMesh_144 : decode prog_2_method_7_code 144 = .ok (.iconst 1, 1) := by decide +kernel
theorem d_Rd_takeMesh_145 : decode prog_2_method_7_code 145 = .ok (.iadd, 1) := by decide +kernel
theorem d_Rd_takeMesh_146 : decode prog_2_method_7_code 146 = .ok (.iload_n 2, 1) := by decide +kernel
theorem d_Rd_takeMesh_147 : decode prog_2_method_7_code 147 = .ok (.invokevirtual 156, 3) := by decide +kernel
theorem d_Rd_takeMesh_150 : decode prog_2_method_7_code 150 = .ok (.aload_n 0, 1) := by decide +kernel
theorem d_Rd_takeMesh_151 : decode prog_2_method_7_code 151 = .ok (.getfield 21, 3) := by decide +kernel
theorem d_Rd_takeMesh_154 : decode prog_2_method_7_code 154 = .ok (.iload_n 1, 1) := by decide +kernel
theorem d_Rd_takeMesh_155 : decode prog_2_method_7_code 155 = .ok (.iconst 2, 1) := by decide +kernel
theorem d_Rd_takeMesh_156 : decode prog_2_method_7_code 156 = .ok (.iadd, 1) := by decide +kernel
theorem d_Rd_takeMesh_157 : decode prog_2_method_7_code 157 = .ok (.iload_n 3, 1) := by decide +kernel
theorem d_Rd_takeMesh_158 : decode prog_2_method_7_code 158 = .ok (.invokevirtual 156, 3) := by decide +kernel
theorem d_Rd_takeMesh_161 : decode prog_2_method_7_code 161 = .ok (.return_, 1) := by decide +kernel
theorem d_Rd_takeNode_0 : decode prog_2_method_8_code 0 = .ok (.aload_n 0, 1) := by decide +kernel
theorem d_Rd_takeNode_1 : decode prog_2_method_8_code 1 = .ok (.bipush 123, 2) := by decide +kernel
theorem d_Rd_takeNode_3 : decode prog_2_method_8_code 3 = .ok (.ldc 159, 2) := by decide +kernel
theorem d_Rd_takeNode_5 : decode prog_2_method_8_code 5 = .ok (.invokevirtual 110, 3) := by decide +kernel
theorem d_Rd_takeNode_8 : decode prog_2_method_8_code 8 = .ok (.aload_n 0, 1) := by decide +kernel
theorem d_Rd_takeNode_9 : decode prog_2_method_8_code 9 = .ok (.iload_n 1, 1) := by decide +kernel
theorem d_Rd_takeNode_10 : decode prog_2_method_8_code 10 = .ok (.iconst (-1), 1) := by decide +kernel
theorem d_Rd_takeNode_11 : decode prog_2_method_8_code 11 = .ok (.aload_n 0, 1) := by decide +kernel
theorem d_Rd_takeNode_12 : decode prog_2_method_8_code 12 = .ok (.getfield 21, 3) := by decide +kernel
theorem d_Rd_takeNode_15 : decode prog_2_method_8_code 15 = .ok (.iconst 3, 1) := by decide +kernel
theorem d_Rd_takeNode_16 : decode prog_2_method_8_code 16 = .ok (.invokevirtual 135, 3) := by decide +kernel
theorem d_Rd_takeNode_19 : decode prog_2_method_8_code 19 = .ok (.iconst 2, 1) := by decide +kernel
theorem d_Rd_takeNode_20 : decode prog_2_method_8_code 20 = .ok (.isub, 1) := by decide +kernel
theorem d_Rd_takeNode_21 : decode prog_2_method_8_code 21 = .ok (.invokevirtual 114, 3) := by decide +kernel
theorem d_Rd_takeNode_24 : decode prog_2_method_8_code 24 = .ok (.pop, 1) := by decide +kernel
theorem d_Rd_takeNode_25 : decode prog_2_method_8_code 25 = .ok (.aload_n 0, 1) := by decide +kernel
theorem d_Rd_takeNode_26 : decode prog_2_method_8_code 26 = .ok (.bipush 44, 2) := by decide +kernel
theorem d_Rd_takeNode_28 : decode prog_2_method_8_code 28 = .ok (.ldc 161, 2) := by decide +kernel
theorem d_Rd_takeNode_30 : decode prog_2_method_8_code 30 = .ok (.invokevirtual 110, 3) := by decide +kernel
theorem d_Rd_takeNode_33 : decode prog_2_method_8_code 33 = .ok (.aload_n 0, 1) := by decide +kernel
theorem d_Rd_takeNode_34 : decode prog_2_method_8_code 34 = .ok (.iload_n 1, 1) := by decide +kernel
theorem d_Rd_takeNode_35 : decode prog_2_method_8_code 35 = .ok (.iconst 1, 1) := by decide +kernel
theorem d_Rd_takeNode_36 : decode prog_2_method_8_code 36 = .ok (.iadd, 1) := by decide +kernel
theorem d_Rd_takeNode_37 : decode prog_2_method_8_code 37 = .ok (.iconst (-1), 1) := by decide +kernel
theorem d_Rd_takeNode_38 : decode prog_2_method_8_code 38 = .ok (.aload_n 0, 1) := by decide +kernel
theorem d_Rd_takeNode_39 : decode prog_2_method_8_code 39 = .ok (.getfield 21, 3) := by decide +kernel
theorem d_Rd_takeNode_42 : decode prog_2_method_8_code 42 = .ok (.iconst 2, 1) := by decide +kernel
theorem d_Rd_takeNode_43 : decode prog_2_method_8_code 43 = .ok (.invokevirtual 135, 3) := by decide +kernel
theorem d_Rd_takeNode_46 : decode prog_2_method_8_code 46 = .ok (.iconst 1, 1) := by decide +kernel
theorem d_Rd_takeNode_47 : decode prog_2_method_8_code 47 = .ok (.isub, 1) := by decide +kernel
theorem d_Rd_takeNode_48 : decode prog_2_method_8_code 48 = .ok (.invokevirtual 114, 3) := by decide +kernel
theorem d_Rd_takeNode_51 : decode prog_2_method_8_code 51 = .ok (.pop, 1) := by decide +kernel
theorem d_Rd_takeNode_52 : decode prog_2_method_8_code 52 = .ok (.aload_n 0, 1) := by decide +kernel
theorem d_Rd_takeNode_53 : decode prog_2_method_8_code 53 = .ok (.bipush 44, 2) := by decide +kernel
theorem d_Rd_takeNode_55 : decode prog_2_method_8_code 55 = .ok (.ldc 163, 2) := by decide +kernel
theorem d_Rd_takeNode_57 : decode prog_2_method_8_code 57 = .ok (.invokevirtual 110, 3) := by decide +kernel
theorem d_Rd_takeNode_60 : decode prog_2_method_8_code 60 = .ok (.aload_n 0, 1) := by decide +kernel
theorem d_Rd_takeNode_61 : decode prog_2_method_8_code 61 = .ok (.iconst 0, 1) := by decide +kernel
theorem d_Rd_takeNode_62 : decode prog_2_method_8_code 62 = .ok (.iconst 3, 1) := by decide +kernel
theorem d_Rd_takeNode_63 : decode prog_2_method_8_code 63 = .ok (.iconst 3, 1) := by decide +kernel
theorem d_Rd_takeNode_64 : decode prog_2_method_8_code 64 = .ok (.iload_n 1, 1) := by decide +kernel
theorem d_Rd_takeNode_65 : decode prog_2_method_8_code 65 = .ok (.iconst 2, 1) := by decide +kernel
theorem d_Rd_takeNode_66 : decode prog_2_method_8_code 66 = .ok (.iadd, 1) := by decide +kernel
theorem d_Rd_takeNode_67 : decode prog_2_method_8_code 67 = .ok (.ldc 165, 2) := by decide +kernel
theorem d_Rd_takeNode_69 : decode prog_2_method_8_code 69 = .ok (.ldc 166, 2) := by decide +kernel
theorem d_Rd_takeNode_71 : decode prog_2_method_8_code 71 = .ok (.invokevirtual 127, 3) := by decide +kernel
theorem d_Rd_takeNode_74 : decode prog_2_method_8_code 74 = .ok (.pop, 1) := by decide +kernel
theorem d_Rd_takeNode_75 : decode prog_2_method_8_code 75 = .ok (.aload_n 0, 1) := by decide +kernel
theorem d_Rd_takeNode_76 : decode prog_2_method_8_code 76 = .ok (.bipush 44, 2) := by decide +kernel
theorem d_Rd_takeNode_78 : decode prog_2_method_8_code 78 = .ok (.ldc 167, 2) := by decide +kernel
theorem d_Rd_takeNode_80 : decode prog_2_method_8_code 80 = .ok (.invokevirtual 110, 3) := by decide +kernel
theorem d_Rd_takeNode_83 : decode prog_2_method_8_code 83 = .ok (.aload_n 0, 1) := by decide +kernel
theorem d_Rd_takeNode_84 : decode prog_2_method_8_code 84 = .ok (.iconst 0, 1) := by decide +kernel
theorem d_Rd_takeNode_85 : decode prog_2_method_8_code 85 = .ok (.iconst 3, 1) := by decide +kernel
theorem d_Rd_takeNode_86 : decode prog_2_method_8_code 86 = .ok (.iconst 3, 1) := by decide +kernel
theorem d_Rd_takeNode_87 : decode prog_2_method_8_code 87 = .ok (.iload_n 1, 1) := by decide +kernel
theorem d_Rd_takeNode_88 : decode prog_2_method_8_code 88 = .ok (.iconst 5, 1) := by decide +kernel
theorem d_Rd_takeNode_89 : decode prog_2_method_8_code 89 = .ok (.iadd, 1) := by decide +kernel
theorem d_Rd_takeNode_90 : decode prog_2_method_8_code 90 = .ok (.ldc 144, 2) := by decide +kernel
theorem d_Rd_takeNode_92 : decode prog_2_method_8_code 92 = .ok (.ldc 145, 2) := by decide +kernel
theorem d_Rd_takeNode_94 : decode prog_2_method_8_code 94 = .ok (.invokevirtual 127, 3) := by decide +kernel
theorem d_Rd_takeNode_97 : decode prog_2_method_8_code 97 = .ok (.pop, 1) := by decide +kernel
theorem d_Rd_takeNode_98 : decode prog_2_method_8_code 98 = .ok (.aload_n 0, 1) := by decide +kernel
theorem d_Rd_takeNode_99 : decode prog_2_method_8_code 99 = .ok (.bipush 44, 2) := by decide +kernel
theorem d_Rd_takeNode_101 : decode prog_2_method_8_code 101 = .ok (.ldc 169, 2) := by decide +kernel
theorem d_Rd_takeNode_103 : decode prog_2_method_8_code 103 = .ok (.invokevirtual 110, 3) := by decide +kernel
theorem d_Rd_takeNode_106 : decode prog_2_method_8_code 106 = .ok (.aload_n 0, 1) := by decide +kernel
theorem d_Rd_takeNode_107 : decode prog_2_method_8_code 107 = .ok (.iconst 0, 1) := by decide +kernel
theorem d_Rd_takeNode_108 : decode prog_2_method_8_code 108 = .ok (.iconst 3, 1) := by decide +kernel
theorem d_Rd_takeNode_109 : decode prog_2_method_8_code 109 = .ok (.iconst 3, 1) := by decide +kernel
theorem d_Rd_takeNode_110 : decode prog_2_method_8_code 110 = .ok (.iload_n 1, 1) := by decide +kernel
theorem d_Rd_takeNode_111 : decode prog_2_method_8_code 111 = .ok (.bipush 8, 2) := by decide +kernel
theorem d_Rd_takeNode_113 : decode prog_2_method_8_code 113 = .ok (.iadd, 1) := by decide +kernel
theorem d_Rd_takeNode_114 : decode prog_2_method_8_code 114 = .ok (.ldc 144, 2) := by decide +kernel
theorem d_Rd_takeNode_116 : decode prog_2_method_8_code 116 = .ok (.ldc 145, 2) := by decide +kernel
theorem d_Rd_takeNode_118 : decode prog_2_method_8_code 118 = .ok (.invokevirtual 127, 3) := by decide +kernel
theorem d_Rd_takeNode_121 : decode prog_2_method_8_code 121 = .ok (.pop, 1) := by decide +kernel
theorem d_Rd_takeNode_122 : decode prog_2_method_8_code 122 = .ok (.return_, 1) := by decide +kernel
theorem d_Rd_takeTrack_0 : decode prog_2_method_9_code 0 = .ok (.aload_n 0, 1) := by decide +kernel
theorem d_Rd_takeTrack_1 : decode prog_2_method_9_code 1 = .ok (.bipush 123, 2) := by decide +kernel
theorem d_Rd_takeTrack_3 : decode prog_2_method_9_code 3 = .ok (.ldc 171, 2) := by decide +kernel
theorem d_Rd_takeTrack_5 : decode prog_2_method_9_code 5 = .ok (.invokevirtual 110, 3) := by decide +kernel
theorem d_Rd_takeTrack_8 : decode prog_2_method_9_code 8 = .ok (.aload_n 0, 1) := by decide +kernel
theorem d_Rd_takeTrack_9 : decode prog_2_method_9_code 9 = .ok (.iload_n 1, 1) := by decide +kernel
theorem d_Rd_takeTrack_10 : decode prog_2_method_9_code 10 = .ok (.iconst 0, 1) := by decide +kernel
theorem d_Rd_takeTrack_11 : decode prog_2_method_9_code 11 = .ok (.aload_n 0, 1) := by decide +kernel
theorem d_Rd_takeTrack_12 : decode prog_2_method_9_code 12 = .ok (.getfield 21, 3) := by decide +kernel
theorem d_Rd_takeTrack_15 : decode prog_2_method_9_code 15 = .ok (.iconst 3, 1) := by decide +kernel
theorem d_Rd_takeTrack_16 : decode prog_2_method_9_code 16 = .ok (.invokevirtual 135, 3) := by decide +kernel
theorem d_Rd_takeTrack_19 : decode prog_2_method_9_code 19 = .ok (.iconst 1, 1) := by decide +kernel
theorem d_Rd_takeTrack_20 : decode prog_2_method_9_code 20 = .ok (.isub, 1) := by decide +kernel
theorem d_Rd_takeTrack_21 : decode prog_2_method_9_code 21 = .ok (.invokevirtual 114, 3) := by decide +kernel
theorem d_Rd_takeTrack_24 : decode prog_2_method_9_code 24 = .ok (.pop, 1) := by decide +kernel
theorem d_Rd_takeTrack_25 : decode prog_2_method_9_code 25 = .ok (.aload_n 0, 1) := by decide +kernel
theorem d_Rd_takeTrack_26 : decode prog_2_method_9_code 26 = .ok (.bipush 44, 2) := by decide +kernel
theorem d_Rd_takeTrack_28 : decode prog_2_method_9_code 28 = .ok (.ldc 173, 2) := by decide +kernel
theorem d_Rd_takeTrack_30 : decode prog_2_method_9_code 30 = .ok (.invokevirtual 110, 3) := by decide +kernel
theorem d_Rd_takeTrack_33 : decode prog_2_method_9_code 33 = .ok (.aload_n 0, 1) := by decide +kernel
theorem d_Rd_takeTrack_34 : decode prog_2_method_9_code 34 = .ok (.iload_n 1, 1) := by decide +kernel
theorem d_Rd_takeTrack_35 : decode prog_2_method_9_code 35 = .ok (.iconst 1, 1) := by decide +kernel
theorem d_Rd_takeTrack_36 : decode prog_2_method_9_code 36 = .ok (.iadd, 1) := by decide +kernel
theorem d_Rd_takeTrack_37 : decode prog_2_method_9_code 37 = .ok (.iconst 0, 1) := by decide +kernel
theorem d_Rd_takeTrack_38 : decode prog_2_method_9_code 38 = .ok (.iconst 2, 1) := by decide +kernel
theorem d_Rd_takeTrack_39 : decode prog_2_method_9_code 39 = .ok (.invokevirtual 114, 3) := by decide +kernel
theorem d_Rd_takeTrack_42 : decode prog_2_method_9_code 42 = .ok (.istore_n 2, 1) := by decide +kernel
theorem d_Rd_takeTrack_43 : decode prog_2_method_9_code 43 = .ok (.aload_n 0, 1) := by decide +kernel
theorem d_Rd_takeTrack_44 : decode prog_2_method_9_code 44 = .ok (.bipush 44, 2) := by decide +kernel
theorem d_Rd_takeTrack_46 : decode prog_2_method_9_code 46 = .ok (.ldc 175, 2) := by decide +kernel
theorem d_Rd_takeTrack_48 : decode prog_2_method_9_code 48 = .ok (.invokevirtual 110, 3) := by decide +kernel
theorem d_Rd_takeTrack_51 : decode prog_2_method_9_code 51 = .ok (.aload_n 0, 1) := by decide +kernel
theorem d_Rd_takeTrack_52 : decode prog_2_method_9_code 52 = .ok (.iload_n 1, 1) := by decide +kernel
theorem d_Rd_takeTrack_53 : decode prog_2_method_9_code 53 = .ok (.iconst 2, 1) := by decide +kernel
theorem d_Rd_takeTrack_54 : decode prog_2_method_9_code 54 = .ok (.iadd, 1) := by decide +kernel
theorem d_Rd_takeTrack_55 : decode prog_2_method_9_code 55 = .ok (.iconst 0, 1) := by decide +kernel
theorem d_Rd_takeTrack_56 : decode prog_2_method_9_code 56 = .ok (.iconst 2, 1) := by decide +kernel
theorem d_Rd_takeTrack_57 : decode prog_2_method_9_code 57 = .ok (.invokevirtual 114, 3) := by decide +kernel
theorem d_Rd_takeTrack_60 : decode prog_2_method_9_code 60 = .ok (.pop, 1) := by decide +kernel
theorem d_Rd_takeTrack_61 : decode prog_2_method_9_code 61 = .ok (.aload_n 0, 1) := by decide +kernel
theorem d_Rd_takeTrack_62 : decode prog_2_method_9_code 62 = .ok (.bipush 44, 2) := by decide +kernel
theorem d_Rd_takeTrack_64 : decode prog_2_method_9_code 64 = .ok (.ldc 177, 2) := by decide +kernel
theorem d_Rd_takeTrack_66 : decode prog_2_method_9_code 66 = .ok (.invokevirtual 110, 3) := by decide +kernel
theorem d_Rd_takeTrack_69 : decode prog_2_method_9_code 69 = .ok (.aload_n 0, 1) := by decide +kernel
theorem d_Rd_takeTrack_70 : decode prog_2_method_9_code 70 = .ok (.iconst 2, 1) := by decide +kernel
theorem d_Rd_takeTrack_71 : decode prog_2_method_9_code 71 = .ok (.iconst 1, 1) := by decide +kernel
theorem d_Rd_takeTrack_72 : decode prog_2_method_9_code 72 = .ok (.bipush 32, 2) := by decide +kernel
theorem d_Rd_takeTrack_74 : decode prog_2_method_9_code 74 = .ok (.iload_n 1, 1) := by decide +kernel
theorem d_Rd_takeTrack_75 : decode prog_2_method_9_code 75 = .ok (.iconst 4, 1) := by decide +kernel
theorem d_Rd_takeTrack_76 : decode prog_2_method_9_code 76 = .ok (.iadd, 1) := by decide +kernel
theorem d_Rd_takeTrack_77 : decode prog_2_method_9_code 77 = .ok (.iconst 0, 1) := by decide +kernel
theorem d_Rd_takeTrack_78 : decode prog_2_method_9_code 78 = .ok (.ldc 179, 2) := by decide +kernel
theorem d_Rd_takeTrack_80 : decode prog_2_method_9_code 80 = .ok (.invokevirtual 127, 3) := by decide +kernel
theorem d_Rd_takeTrack_83 : decode prog_2_method_9_code 83 = .ok (.istore_n 3, 1) := by decide +kernel
theorem d_Rd_takeTrack_84 : decode prog_2_method_9_code 84 = .ok (.aload_n 0, 1) := by decide +kernel
theorem d_Rd_takeTrack_85 : decode prog_2_method_9_code 85 = .ok (.bipush 44, 2) := by decide +kernel
theorem d_Rd_takeTrack_87 : decode prog_2_method_9_code 87 = .ok (.ldc 180, 2) := by decide +kernel
theorem d_Rd_takeTrack_89 : decode prog_2_method_9_code 89 = .ok (.invokevirtual 110, 3) := by decide +kernel
theorem d_Rd_takeTrack_92 : decode prog_2_method_9_code 92 = .ok (.iload_n 2, 1) := by decide +kernel
theorem d_Rd_takeTrack_93 : decode prog_2_method_9_code 93 = .ok (.ifCond .ne 8, 3) := by decide +kernel
theorem d_Rd_takeTrack_96 : decode prog_2_method_9_code 96 = .ok (.ldc 166, 2) := by decide +kernel
theorem d_Rd_takeTrack_98 : decode prog_2_method_9_code 98 = .ok (.goto 15, 3) := by decide +kernel
theorem d_Rd_takeTrack_101 : decode prog_2_method_9_code 101 = .ok (.iload_n 2, 1) := by decide +kernel
theorem d_Rd_takeTrack_102 : decode prog_2_method_9_code 102 = .ok (.iconst 1, 1) := by decide +kernel
theorem d_Rd_takeTrack_103 : decode prog_2_method_9_code 103 = .ok (.if_icmp .ne 8, 3) := by decide +kernel
theorem d_Rd_takeTrack_106 : decode prog_2_method_9_code 106 = .ok (.ldc 145, 2) := by decide +kernel
theorem d_Rd_takeTrack_108 : decode prog_2_method_9_code 108 = .ok (.goto 5, 3) := by decide +kernel
theorem d_Rd_takeTrack_111 : decode prog_2_method_9_code 111 = .ok (.ldc 145, 2) := by decide +kernel
theorem d_Rd_takeTrack_113 : decode prog_2_method_9_code 113 = .ok (.istore 4, 2) := by decide +kernel
theorem d_Rd_takeTrack_115 : decode prog_2_method_9_code 115 = .ok (.aload_n 0, 1) := by decide +kernel
theorem d_Rd_takeTrack_116 : decode prog_2_method_9_code 116 = .ok (.iconst 0, 1) := by decide +kernel
theorem d_Rd_takeTrack_117 : decode prog_2_method_9_code 117 = .ok (.iconst 3, 1) := by decide +kernel
theorem d_Rd_takeTrack_118 : decode prog_2_method_9_code 118 = .ok (.iload_n 3, 1) := by decide +kernel
theorem d_Rd_takeTrack_119 : decode prog_2_method_9_code 119 = .ok (.imul, 1) := by decide +kernel
theorem d_Rd_takeTrack_120 : decode prog_2_method_9_code 120 = .ok (.iconst 3, 1) := by decide +kernel
theorem d_Rd_takeTrack_121 : decode prog_2_method_9_code 121 = .ok (.iload_n 3, 1) := by decide +kernel
theorem d_Rd_takeTrack_122 : decode prog_2_method_9_code 122 = .ok (.imul, 1) := by decide +kernel
theorem d_Rd_takeTrack_123 : decode prog_2_method_9_code 123 = .ok (.iload_n 1, 1) := by decide +kernel
theorem d_Rd_takeTrack_124 : decode prog_2_method_9_code 124 = .ok (.bipush 36, 2) := by decide +kernel
theorem d_Rd_takeTrack_126 : decode prog_2_method_9_code 126 = .ok (.iadd, 1) := by decide +kernel
theorem d_Rd_takeTrack_127 : decode prog_2_method_9_code 127 = .ok (.iload 4, 2) := by decide +kernel
theorem d_Rd_takeTrack_129 : decode prog_2_method_9_code 129 = .ok (.ineg, 1) := by decide +kernel
theorem d_Rd_takeTrack_130 : decode prog_2_method_9_code 130 = .ok (.iload 4, 2) := by decide +kernel
theorem d_Rd_takeTrack_132 : decode prog_2_method_9_code 132 = .ok (.invokevirtual 127, 3) := by decide +kernel
theorem d_Rd_takeTrack_135 : decode prog_2_method_9_code 135 = .ok (.pop, 1) := by decide +kernel
theorem d_Rd_takeTrack_136 : decode prog_2_method_9_code 136 = .ok (.aload_n 0, 1) := by decide +kernel
theorem d_Rd_takeTrack_137 : decode prog_2_method_9_code 137 = .ok (.getfield 21, 3) := by decide +kernel
theorem d_Rd_takeTrack_140 : decode prog_2_method_9_code 140 = .ok (.iload_n 1, 1) := by decide +kernel
theorem d_Rd_takeTrack_141 : decode prog_2_method_9_code 141 = .ok (.iconst 3, 1) := by decide +kernel
theorem d_Rd_takeTrack_142 : decode prog_2_method_9_code 142 = .ok (.iadd, 1) := by decide +kernel
theorem d_Rd_takeTrack_143 : decode prog_2_method_9_code 143 = .ok (.iload_n 3, 1) := by decide +kernel
theorem d_Rd_takeTrack_144 : decode prog_2_method_9_code 144 = .ok (.invokevirtual 156, 3) := by decide +kernel
theorem d_Rd_takeTrack_147 : decode prog_2_method_9_code 147 = .ok (.return_, 1) := by decide +kernel
theorem d_Tp_isDone_0 : decode prog_4_method_7_code 0 = .ok (.aload_n 0, 1) := by decide +kernel
theorem d_Tp_isDone_1 : decode prog_4_method_7_code 1 = .ok (.getfield 23, 3) := by decide +kernel
theorem d_Tp_isDone_4 : decode prog_4_method_7_code 4 = .ok (.aload_n 0, 1) := by decide +kernel
theorem d_Tp_isDone_5 : decode prog_4_method_7_code 5 = .ok (.getfield 20, 3) := by decide +kernel
theorem d_Tp_isDone_8 : decode prog_4_method_7_code 8 = .ok (.if_icmp .lt 7, 3) := by decide +kernel
theorem d_Tp_isDone_11 : decode prog_4_method_7_code 11 = .ok (.iconst 1, 1) := by decide +kernel
theorem d_Tp_isDone_12 : decode prog_4_method_7_code 12 = .ok (.goto 4, 3) := by decide +kernel
theorem d_Tp_isDone_15 : decode prog_4_method_7_code 15 = .ok (.iconst 0, 1) := by decide +kernel
theorem d_Tp_isDone_16 : decode prog_4_method_7_code 16 = .ok (.ireturn, 1) := by decide +kernel

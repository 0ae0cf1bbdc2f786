theorem d_m_init_0 : decode b_m_init 0 = .ok (.aload_n 0, 1) := by decide +kernel
theorem d_m_init_1 : decode b_m_init 1 = .ok (.invokespecial 1, 3) := by decide +kernel
theorem d_m_init_4 : decode b_m_init 4 = .ok (.aload_n 0, 1) := by decide +kernel
theorem d_m_init_5 : decode b_m_init 5 = .ok (.sipush 8192, 3) := by decide +kernel
theorem d_m_init_8 : decode b_m_init 8 = .ok (.newarray .byte, 2) := by decide +kernel
theorem d_m_init_10 : decode b_m_init 10 = .ok (.putfield 9, 3) := by decide +kernel
theorem d_m_init_13 : decode b_m_init 13 = .ok (.aload_n 0, 1) := by decide +kernel
theorem d_m_init_14 : decode b_m_init 14 = .ok (.sipush 160, 3) := by decide +kernel
theorem d_m_init_17 : decode b_m_init 17 = .ok (.newarray .long, 2) := by decide +kernel
theorem d_m_init_19 : decode b_m_init 19 = .ok (.putfield 13, 3) := by decide +kernel
theorem d_m_init_22 : decode b_m_init 22 = .ok (.aload_n 0, 1) := by decide +kernel
theorem d_m_init_23 : decode b_m_init 23 = .ok (.new 17, 3) := by decide +kernel
theorem d_m_init_26 : decode b_m_init 26 = .ok (.dup, 1) := by decide +kernel
theorem d_m_init_27 : decode b_m_init 27 = .ok (.invokespecial 19, 3) := by decide +kernel
theorem d_m_init_30 : decode b_m_init 30 = .ok (.putfield 20, 3) := by decide +kernel
theorem d_m_init_33 : decode b_m_init 33 = .ok (.aload_n 0, 1) := by decide +kernel
theorem d_m_init_34 : decode b_m_init 34 = .ok (.new 17, 3) := by decide +kernel
theorem d_m_init_37 : decode b_m_init 37 = .ok (.dup, 1) := by decide +kernel
theorem d_m_init_38 : decode b_m_init 38 = .ok (.invokespecial 19, 3) := by decide +kernel
theorem d_m_init_41 : decode b_m_init 41 = .ok (.putfield 24, 3) := by decide +kernel
theorem d_m_init_44 : decode b_m_init 44 = .ok (.aload_n 0, 1) := by decide +kernel
theorem d_m_init_45 : decode b_m_init 45 = .ok (.sipush 8192, 3) := by decide +kernel
theorem d_m_init_48 : decode b_m_init 48 = .ok (.newarray .byte, 2) := by decide +kernel
theorem d_m_init_50 : decode b_m_init 50 = .ok (.putfield 27, 3) := by decide +kernel
theorem d_m_init_53 : decode b_m_init 53 = .ok (.return_, 1) := by decide +kernel
theorem d_m_thrown_0 : decode b_m_thrown 0 = .ok (.aload_n 0, 1) := by decide +kernel
theorem d_m_thrown_1 : decode b_m_thrown 1 = .ok (.getfield 30, 3) := by decide +kernel
theorem d_m_thrown_4 : decode b_m_thrown 4 = .ok (.ireturn, 1) := by decide +kernel
theorem d_m_good_0 : decode b_m_good 0 = .ok (.aload_n 0, 1) := by decide +kernel
theorem d_m_good_1 : decode b_m_good 1 = .ok (.iload_n 1, 1) := by decide +kernel
theorem d_m_good_2 : decode b_m_good 2 = .ok (.ifCond .eq 7, 3) := by decide +kernel
theorem d_m_good_5 : decode b_m_good 5 = .ok (.iconst 0, 1) := by decide +kernel
theorem d_m_good_6 : decode b_m_good 6 = .ok (.goto 4, 3) := by decide +kernel
theorem d_m_good_9 : decode b_m_good 9 = .ok (.iload_n 2, 1) := by decide +kernel
theorem d_m_good_10 : decode b_m_good 10 = .ok (.putfield 30, 3) := by decide +kernel
theorem d_m_good_13 : decode b_m_good 13 = .ok (.iload_n 1, 1) := by decide +kernel
theorem d_m_good_14 : decode b_m_good 14 = .ok (.ireturn, 1) := by decide +kernel
theorem d_m_feed_0 : decode b_m_feed 0 = .ok (.aload_n 0, 1) := by decide +kernel
theorem d_m_feed_1 : decode b_m_feed 1 = .ok (.aload_n 0, 1) := by decide +kernel
theorem d_m_feed_2 : decode b_m_feed 2 = .ok (.getfield 34, 3) := by decide +kernel
theorem d_m_feed_5 : decode b_m_feed 5 = .ok (.bipush 20, 2) := by decide +kernel
theorem d_m_feed_7 : decode b_m_feed 7 = .ok (.iadd, 1) := by decide +kernel
theorem d_m_feed_8 : decode b_m_feed 8 = .ok (.sipush 8192, 3) := by decide +kernel
theorem d_m_feed_11 : decode b_m_feed 11 = .ok (.if_icmp .gt 7, 3) := by decide +kernel
theorem d_m_feed_14 : decode b_m_feed 14 = .ok (.iconst 1, 1) := by decide +kernel
theorem d_m_feed_15 : decode b_m_feed 15 = .ok (.goto 4, 3) := by decide +kernel
theorem d_m_feed_18 : decode b_m_feed 18 = .ok (.iconst 0, 1) := by decide +kernel
theorem d_m_feed_19 : decode b_m_feed 19 = .ok (.iconst 1, 1) := by decide +kernel
theorem d_m_feed_20 : decode b_m_feed 20 = .ok (.invokevirtual 37, 3) := by decide +kernel
theorem d_m_feed_23 : decode b_m_feed 23 = .ok (.ifCond .ne 5, 3) := by decide +kernel
theorem d_m_feed_26 : decode b_m_feed 26 = .ok (.iconst 0, 1) := by decide +kernel
theorem d_m_feed_27 : decode b_m_feed 27 = .ok (.ireturn, 1) := by decide +kernel
theorem d_m_feed_28 : decode b_m_feed 28 = .ok (.aload_n 0, 1) := by decide +kernel
theorem d_m_feed_29 : decode b_m_feed 29 = .ok (.iload_n 1, 1) := by decide +kernel
theorem d_m_feed_30 : decode b_m_feed 30 = .ok (.invokevirtual 41, 3) := by decide +kernel
theorem d_m_feed_33 : decode b_m_feed 33 = .ok (.aload_n 0, 1) := by decide +kernel
theorem d_m_feed_34 : decode b_m_feed 34 = .ok (.iload_n 2, 1) := by decide +kernel
theorem d_m_feed_35 : decode b_m_feed 35 = .ok (.invokevirtual 41, 3) := by decide +kernel
theorem d_m_feed_38 : decode b_m_feed 38 = .ok (.aload_n 0, 1) := by decide +kernel
theorem d_m_feed_39 : decode b_m_feed 39 = .ok (.iload_n 3, 1) := by decide +kernel
theorem d_m_feed_40 : decode b_m_feed 40 = .ok (.invokevirtual 41, 3) := by decide +kernel
theorem d_m_feed_43 : decode b_m_feed 43 = .ok (.aload_n 0, 1) := by decide +kernel
theorem d_m_feed_44 : decode b_m_feed 44 = .ok (.iload 4, 2) := by decide +kernel
theorem d_m_feed_46 : decode b_m_feed 46 = .ok (.invokevirtual 41, 3) := by decide +kernel
theorem d_m_feed_49 : decode b_m_feed 49 = .ok (.aload_n 0, 1) := by decide +kernel
theorem d_m_feed_50 : decode b_m_feed 50 = .ok (.iload 5, 2) := by decide +kernel
theorem d_m_feed_52 : decode b_m_feed 52 = .ok (.invokevirtual 41, 3) := by decide +kernel
theorem d_m_feed_55 : decode b_m_feed 55 = .ok (.aload_n 0, 1) := by decide +kernel
theorem d_m_feed_56 : decode b_m_feed 56 = .ok (.getfield 34, 3) := by decide +kernel
theorem d_m_feed_59 : decode b_m_feed 59 = .ok (.ireturn, 1) := by decide +kernel
theorem d_m_word4_0 : decode b_m_word4 0 = .ok (.bipush 24, 2) := by decide +kernel
theorem d_m_word4_2 : decode b_m_word4 2 = .ok (.istore_n 2, 1) := by decide +kernel
theorem d_m_word4_3 : decode b_m_word4 3 = .ok (.iload_n 2, 1) := by decide +kernel
theorem d_m_word4_4 : decode b_m_word4 4 = .ok (.ifCond .lt 32, 3) := by decide +kernel
theorem d_m_word4_7 : decode b_m_word4 7 = .ok (.aload_n 0, 1) := by decide +kernel
theorem d_m_word4_8 : decode b_m_word4 8 = .ok (.getfield 9, 3) := by decide +kernel
theorem d_m_word4_11 : decode b_m_word4 11 = .ok (.aload_n 0, 1) := by decide +kernel
theorem d_m_word4_12 : decode b_m_word4 12 = .ok (.getfield 34, 3) := by decide +kernel
theorem d_m_word4_15 : decode b_m_word4 15 = .ok (.iload_n 1, 1) := by decide +kernel
theorem d_m_word4_16 : decode b_m_word4 16 = .ok (.iload_n 2, 1) := by decide +kernel
theorem d_m_word4_17 : decode b_m_word4 17 = .ok (.ishr, 1) := by decide +kernel
theorem d_m_word4_18 : decode b_m_word4 18 = .ok (.i2b, 1) := by decide +kernel
theorem d_m_word4_19 : decode b_m_word4 19 = .ok (.bastore, 1) := by decide +kernel
theorem d_m_word4_20 : decode b_m_word4 20 = .ok (.aload_n 0, 1) := by decide +kernel
theorem d_m_word4_21 : decode b_m_word4 21 = .ok (.dup, 1) := by decide +kernel
theorem d_m_word4_22 : decode b_m_word4 22 = .ok (.getfield 34, 3) := by decide +kernel
theorem d_m_word4_25 : decode b_m_word4 25 = .ok (.iconst 1, 1) := by decide +kernel
theorem d_m_word4_26 : decode b_m_word4 26 = .ok (.iadd, 1) := by decide +kernel
theorem d_m_word4_27 : decode b_m_word4 27 = .ok (.putfield 34, 3) := by decide +kernel
theorem d_m_word4_30 : decode b_m_word4 30 = .ok (.iinc 2 (-8), 3) := by decide +kernel
theorem d_m_word4_33 : decode b_m_word4 33 = .ok (.goto (-30), 3) := by decide +kernel
theorem d_m_word4_36 : decode b_m_word4 36 = .ok (.return_, 1) := by decide +kernel
theorem d_m_end_0 : decode b_m_end 0 = .ok (.aload_n 0, 1) := by decide +kernel
theorem d_m_end_1 : decode b_m_end 1 = .ok (.iload_n 1, 1) := by decide +kernel
theorem d_m_end_2 : decode b_m_end 2 = .ok (.ifCond .lt 15, 3) := by decide +kernel
theorem d_m_end_5 : decode b_m_end 5 = .ok (.iload_n 1, 1) := by decide +kernel
theorem d_m_end_6 : decode b_m_end 6 = .ok (.aload_n 0, 1) := by decide +kernel
theorem d_m_end_7 : decode b_m_end 7 = .ok (.getfield 34, 3) := by decide +kernel
theorem d_m_end_10 : decode b_m_end 10 = .ok (.if_icmp .gt 7, 3) := by decide +kernel
theorem d_m_end_13 : decode b_m_end 13 = .ok (.iconst 1, 1) := by decide +kernel
theorem d_m_end_14 : decode b_m_end 14 = .ok (.goto 4, 3) := by decide +kernel
theorem d_m_end_17 : decode b_m_end 17 = .ok (.iconst 0, 1) := by decide +kernel
theorem d_m_end_18 : decode b_m_end 18 = .ok (.iconst 1, 1) := by decide +kernel
theorem d_m_end_19 : decode b_m_end 19 = .ok (.invokevirtual 37, 3) := by decide +kernel
theorem d_m_end_22 : decode b_m_end 22 = .ok (.ifCond .ne 5, 3) := by decide +kernel
theorem d_m_end_25 : decode b_m_end 25 = .ok (.iconst 0, 1) := by decide +kernel
theorem d_m_end_26 : decode b_m_end 26 = .ok (.ireturn, 1) := by decide +kernel
theorem d_m_end_27 : decode b_m_end 27 = .ok (.aload_n 0, 1) := by decide +kernel
theorem d_m_end_28 : decode b_m_end 28 = .ok (.iload_n 1, 1) := by decide +kernel
theorem d_m_end_29 : decode b_m_end 29 = .ok (.putfield 34, 3) := by decide +kernel
theorem d_m_end_32 : decode b_m_end 32 = .ok (.iload_n 1, 1) := by decide +kernel
theorem d_m_end_33 : decode b_m_end 33 = .ok (.ireturn, 1) := by decide +kernel
theorem d_m_kind_0 : decode b_m_kind 0 = .ok (.aload_n 0, 1) := by decide +kernel
theorem d_m_kind_1 : decode b_m_kind 1 = .ok (.iload_n 1, 1) := by decide +kernel
theorem d_m_kind_2 : decode b_m_kind 2 = .ok (.ifCond .eq 8, 3) := by decide +kernel
theorem d_m_kind_5 : decode b_m_kind 5 = .ok (.bipush 53, 2) := by decide +kernel
theorem d_m_kind_7 : decode b_m_kind 7 = .ok (.goto 5, 3) := by decide +kernel
theorem d_m_kind_10 : decode b_m_kind 10 = .ok (.bipush 24, 2) := by decide +kernel
theorem d_m_kind_12 : decode b_m_kind 12 = .ok (.putfield 45, 3) := by decide +kernel
theorem d_m_kind_15 : decode b_m_kind 15 = .ok (.aload_n 0, 1) := by decide +kernel
theorem d_m_kind_16 : decode b_m_kind 16 = .ok (.iload_n 1, 1) := by decide +kernel
theorem d_m_kind_17 : decode b_m_kind 17 = .ok (.ifCond .eq 9, 3) := by decide +kernel
theorem d_m_kind_20 : decode b_m_kind 20 = .ok (.sipush (-1074), 3) := by decide +kernel
theorem d_m_kind_23 : decode b_m_kind 23 = .ok (.goto 6, 3) := by decide +kernel
theorem d_m_kind_26 : decode b_m_kind 26 = .ok (.sipush (-149), 3) := by decide +kernel
theorem d_m_kind_29 : decode b_m_kind 29 = .ok (.putfield 48, 3) := by decide +kernel
theorem d_m_kind_32 : decode b_m_kind 32 = .ok (.return_, 1) := by decide +kernel
theorem d_m_infinity_0 : decode b_m_infinity 0 = .ok (.aload_n 0, 1) := by decide +kernel
theorem d_m_infinity_1 : decode b_m_infinity 1 = .ok (.getfield 45, 3) := by decide +kernel
theorem d_m_infinity_4 : decode b_m_infinity 4 = .ok (.bipush 53, 2) := by decide +kernel
theorem d_m_infinity_6 : decode b_m_infinity 6 = .ok (.if_icmp .ne 9, 3) := by decide +kernel
theorem d_m_infinity_9 : decode b_m_infinity 9 = .ok (.ldc2_w 51, 3) := by decide +kernel
theorem d_m_infinity_12 : decode b_m_infinity 12 = .ok (.goto 6, 3) := by decide +kernel
theorem d_m_infinity_15 : decode b_m_infinity 15 = .ok (.ldc2_w 53, 3) := by decide +kernel
theorem d_m_infinity_18 : decode b_m_infinity 18 = .ok (.lreturn, 1) := by decide +kernel
theorem d_m_fraction_0 : decode b_m_fraction 0 = .ok (.lconst 1, 1) := by decide +kernel
theorem d_m_fraction_1 : decode b_m_fraction 1 = .ok (.aload_n 0, 1) := by decide +kernel
theorem d_m_fraction_2 : decode b_m_fraction 2 = .ok (.getfield 45, 3) := by decide +kernel
theorem d_m_fraction_5 : decode b_m_fraction 5 = .ok (.iconst 1, 1) := by decide +kernel
theorem d_m_fraction_6 : decode b_m_fraction 6 = .ok (.isub, 1) := by decide +kernel
theorem d_m_fraction_7 : decode b_m_fraction 7 = .ok (.lshl, 1) := by decide +kernel
theorem d_m_fraction_8 : decode b_m_fraction 8 = .ok (.lconst 1, 1) := by decide +kernel
theorem d_m_fraction_9 : decode b_m_fraction 9 = .ok (.lsub, 1) := by decide +kernel
theorem d_m_fraction_10 : decode b_m_fraction 10 = .ok (.lreturn, 1) := by decide +kernel
theorem d_m_sign_0 : decode b_m_sign 0 = .ok (.aload_n 0, 1) := by decide +kernel
theorem d_m_sign_1 : decode b_m_sign 1 = .ok (.getfield 45, 3) := by decide +kernel
theorem d_m_sign_4 : decode b_m_sign 4 = .ok (.bipush 53, 2) := by decide +kernel
theorem d_m_sign_6 : decode b_m_sign 6 = .ok (.if_icmp .ne 9, 3) := by decide +kernel
theorem d_m_sign_9 : decode b_m_sign 9 = .ok (.ldc2_w 55, 3) := by decide +kernel
theorem d_m_sign_12 : decode b_m_sign 12 = .ok (.goto 6, 3) := by decide +kernel
theorem d_m_sign_15 : decode b_m_sign 15 = .ok (.ldc2_w 57, 3) := by decide +kernel
theorem d_m_sign_18 : decode b_m_sign 18 = .ok (.lreturn, 1) := by decide +kernel
theorem d_m_none_0 : decode b_m_none 0 = .ok (.aload_n 0, 1) := by decide +kernel
theorem d_m_none_1 : decode b_m_none 1 = .ok (.invokevirtual 59, 3) := by decide +kernel
theorem d_m_none_4 : decode b_m_none 4 = .ok (.lconst 1, 1) := by decide +kernel
theorem d_m_none_5 : decode b_m_none 5 = .ok (.aload_n 0, 1) := by decide +kernel
theorem d_m_none_6 : decode b_m_none 6 = .ok (.getfield 45, 3) := by decide +kernel
theorem d_m_none_9 : decode b_m_none 9 = .ok (.iconst 2, 1) := by decide +kernel
theorem d_m_none_10 : decode b_m_none 10 = .ok (.isub, 1) := by decide +kernel
theorem d_m_none_11 : decode b_m_none 11 = .ok (.lshl, 1) := by decide +kernel
theorem d_m_none_12 : decode b_m_none 12 = .ok (.lor, 1) := by decide +kernel
theorem d_m_none_13 : decode b_m_none 13 = .ok (.lreturn, 1) := by decide +kernel
theorem d_m_c_0 : decode b_m_c 0 = .ok (.lload_n 1, 1) := by decide +kernel
theorem d_m_c_1 : decode b_m_c 1 = .ok (.aload_n 0, 1) := by decide +kernel
theorem d_m_c_2 : decode b_m_c 2 = .ok (.invokevirtual 63, 3) := by decide +kernel
theorem d_m_c_5 : decode b_m_c 5 = .ok (.land, 1) := by decide +kernel
theorem d_m_c_6 : decode b_m_c 6 = .ok (.lstore_n 3, 1) := by decide +kernel
theorem d_m_c_7 : decode b_m_c 7 = .ok (.lload_n 1, 1) := by decide +kernel
theorem d_m_c_8 : decode b_m_c 8 = .ok (.aload_n 0, 1) := by decide +kernel
theorem d_m_c_9 : decode b_m_c 9 = .ok (.invokevirtual 63, 3) := by decide +kernel
theorem d_m_c_12 : decode b_m_c 12 = .ok (.lcmp, 1) := by decide +kernel
theorem d_m_c_13 : decode b_m_c 13 = .ok (.ifCond .le 14, 3) := by decide +kernel
theorem d_m_c_16 : decode b_m_c 16 = .ok (.lload_n 3, 1) := by decide +kernel
theorem d_m_c_17 : decode b_m_c 17 = .ok (.aload_n 0, 1) := by decide +kernel
theorem d_m_c_18 : decode b_m_c 18 = .ok (.invokevirtual 63, 3) := by decide +kernel
theorem d_m_c_21 : decode b_m_c 21 = .ok (.lconst 1, 1) := by decide +kernel
theorem d_m_c_22 : decode b_m_c 22 = .ok (.ladd, 1) := by decide +kernel
theorem d_m_c_23 : decode b_m_c 23 = .ok (.lor, 1) := by decide +kernel
theorem d_m_c_24 : decode b_m_c 24 = .ok (.goto 4, 3) := by decide +kernel
theorem d_m_c_27 : decode b_m_c 27 = .ok (.lload_n 3, 1) := by decide +kernel
theorem d_m_c_28 : decode b_m_c 28 = .ok (.lreturn, 1) := by decide +kernel
theorem d_m_q_0 : decode b_m_q 0 = .ok (.lload_n 1, 1) := by decide +kernel
theorem d_m_q_1 : decode b_m_q 1 = .ok (.aload_n 0, 1) := by decide +kernel
theorem d_m_q_2 : decode b_m_q 2 = .ok (.getfield 45, 3) := by decide +kernel
theorem d_m_q_5 : decode b_m_q 5 = .ok (.iconst 1, 1) := by decide +kernel
theorem d_m_q_6 : decode b_m_q 6 = .ok (.isub, 1) := by decide +kernel
theorem d_m_q_7 : decode b_m_q 7 = .ok (.lushr, 1) := by decide +kernel
theorem d_m_q_8 : decode b_m_q 8 = .ok (.lstore_n 3, 1) := by decide +kernel
theorem d_m_q_9 : decode b_m_q 9 = .ok (.lload_n 3, 1) := by decide +kernel
theorem d_m_q_10 : decode b_m_q 10 = .ok (.lconst 0, 1) := by decide +kernel
theorem d_m_q_11 : decode b_m_q 11 = .ok (.lcmp, 1) := by decide +kernel
theorem d_m_q_12 : decode b_m_q 12 = .ok (.ifCond .ne 10, 3) := by decide +kernel
theorem d_m_q_15 : decode b_m_q 15 = .ok (.aload_n 0, 1) := by decide +kernel
theorem d_m_q_16 : decode b_m_q 16 = .ok (.getfield 48, 3) := by decide +kernel
theorem d_m_q_19 : decode b_m_q 19 = .ok (.goto 12, 3) := by decide +kernel
theorem d_m_q_22 : decode b_m_q 22 = .ok (.aload_n 0, 1) := by decide +kernel
theorem d_m_q_23 : decode b_m_q 23 = .ok (.getfield 48, 3) := by decide +kernel
theorem d_m_q_26 : decode b_m_q 26 = .ok (.lload_n 3, 1) := by decide +kernel
theorem d_m_q_27 : decode b_m_q 27 = .ok (.l2i, 1) := by decide +kernel
theorem d_m_q_28 : decode b_m_q 28 = .ok (.iadd, 1) := by decide +kernel
theorem d_m_q_29 : decode b_m_q 29 = .ok (.iconst 1, 1) := by decide +kernel
theorem d_m_q_30 : decode b_m_q 30 = .ok (.isub, 1) := by decide +kernel
theorem d_m_q_31 : decode b_m_q 31 = .ok (.ireturn, 1) := by decide +kernel
theorem d_m_times_0 : decode b_m_times 0 = .ok (.lconst 0, 1) := by decide +kernel
theorem d_m_times_1 : decode b_m_times 1 = .ok (.lstore_n 3, 1) := by decide +kernel
theorem d_m_times_2 : decode b_m_times 2 = .ok (.iconst 0, 1) := by decide +kernel
theorem d_m_times_3 : decode b_m_times 3 = .ok (.istore 5, 2) := by decide +kernel
theorem d_m_times_5 : decode b_m_times 5 = .ok (.iload 5, 2) := by decide +kernel
theorem d_m_times_7 : decode b_m_times 7 = .ok (.aload_n 0, 1) := by decide +kernel
theorem d_m_times_8 : decode b_m_times 8 = .ok (.getfield 66, 3) := by decide +kernel
theorem d_m_times_11 : decode b_m_times 11 = .ok (.if_icmp .ge 39, 3) := by decide +kernel
theorem d_m_times_14 : decode b_m_times 14 = .ok (.lload_n 3, 1) := by decide +kernel
theorem d_m_times_15 : decode b_m_times 15 = .ok (.aload_n 0, 1) := by decide +kernel
theorem d_m_times_16 : decode b_m_times 16 = .ok (.getfield 13, 3) := by decide +kernel
theorem d_m_times_19 : decode b_m_times 19 = .ok (.iload 5, 2) := by decide +kernel
theorem d_m_times_21 : decode b_m_times 21 = .ok (.laload, 1) := by decide +kernel
theorem d_m_times_22 : decode b_m_times 22 = .ok (.lload_n 1, 1) := by decide +kernel
theorem d_m_times_23 : decode b_m_times 23 = .ok (.lmul, 1) := by decide +kernel
theorem d_m_times_24 : decode b_m_times 24 = .ok (.ladd, 1) := by decide +kernel
theorem d_m_times_25 : decode b_m_times 25 = .ok (.lstore_n 3, 1) := by decide +kernel
theorem d_m_times_26 : decode b_m_times 26 = .ok (.aload_n 0, 1) := by decide +kernel
theorem d_m_times_27 : decode b_m_times 27 = .ok (.getfield 13, 3) := by decide +kernel
theorem d_m_times_30 : decode b_m_times 30 = .ok (.iload 5, 2) := by decide +kernel
theorem d_m_times_32 : decode b_m_times 32 = .ok (.lload_n 3, 1) := by decide +kernel
theorem d_m_times_33 : decode b_m_times 33 = .ok (.ldc2_w 69, 3) := by decide +kernel
theorem d_m_times_36 : decode b_m_times 36 = .ok (.lrem, 1) := by decide +kernel
theorem d_m_times_37 : decode b_m_times 37 = .ok (.lastore, 1) := by decide +kernel
theorem d_m_times_38 : decode b_m_times 38 = .ok (.lload_n 3, 1) := by decide +kernel
theorem d_m_times_39 : decode b_m_times 39 = .ok (.ldc2_w 69, 3) := by decide +kernel
theorem d_m_times_42 : decode b_m_times 42 = .ok (.ldiv, 1) := by decide +kernel
theorem d_m_times_43 : decode b_m_times 43 = .ok (.lstore_n 3, 1) := by decide +kernel
theorem d_m_times_44 : decode b_m_times 44 = .ok (.iinc 5 1, 3) := by decide +kernel
theorem d_m_times_47 : decode b_m_times 47 = .ok (.goto (-42), 3) := by decide +kernel
theorem d_m_times_50 : decode b_m_times 50 = .ok (.lload_n 3, 1) := by decide +kernel
theorem d_m_times_51 : decode b_m_times 51 = .ok (.lconst 0, 1) := by decide +kernel
theorem d_m_times_52 : decode b_m_times 52 = .ok (.lcmp, 1) := by decide +kernel
theorem d_m_times_53 : decode b_m_times 53 = .ok (.ifCond .le 23, 3) := by decide +kernel
theorem d_m_times_56 : decode b_m_times 56 = .ok (.aload_n 0, 1) := by decide +kernel
theorem d_m_times_57 : decode b_m_times 57 = .ok (.getfield 13, 3) := by decide +kernel
theorem d_m_times_60 : decode b_m_times 60 = .ok (.aload_n 0, 1) := by decide +kernel
theorem d_m_times_61 : decode b_m_times 61 = .ok (.getfield 66, 3) := by decide +kernel
theorem d_m_times_64 : decode b_m_times 64 = .ok (.lload_n 3, 1) := by decide +kernel
theorem d_m_times_65 : decode b_m_times 65 = .ok (.lastore, 1) := by decide +kernel
theorem d_m_times_66 : decode b_m_times 66 = .ok (.aload_n 0, 1) := by decide +kernel
theorem d_m_times_67 : decode b_m_times 67 = .ok (.dup, 1) := by decide +kernel
theorem d_m_times_68 : decode b_m_times 68 = .ok (.getfield 66, 3) := by decide +kernel
theorem d_m_times_71 : decode b_m_times 71 = .ok (.iconst 1, 1) := by decide +kernel
theorem d_m_times_72 : decode b_m_times 72 = .ok (.iadd, 1) := by decide +kernel
theorem d_m_times_73 : decode b_m_times 73 = .ok (.putfield 66, 3) := by decide +kernel
theorem d_m_times_76 : decode b_m_times 76 = .ok (.return_, 1) := by decide +kernel
theorem d_m_row_0 : decode b_m_row 0 = .ok (.aload_n 0, 1) := by decide +kernel
theorem d_m_row_1 : decode b_m_row 1 = .ok (.iconst 0, 1) := by decide +kernel
theorem d_m_row_2 : decode b_m_row 2 = .ok (.putfield 66, 3) := by decide +kernel
theorem d_m_row_5 : decode b_m_row 5 = .ok (.lload_n 1, 1) := by decide +kernel
theorem d_m_row_6 : decode b_m_row 6 = .ok (.lstore 5, 2) := by decide +kernel
theorem d_m_row_8 : decode b_m_row 8 = .ok (.lload 5, 2) := by decide +kernel
theorem d_m_row_10 : decode b_m_row 10 = .ok (.lconst 0, 1) := by decide +kernel
theorem d_m_row_11 : decode b_m_row 11 = .ok (.lcmp, 1) := by decide +kernel
theorem d_m_row_12 : decode b_m_row 12 = .ok (.ifCond .le 39, 3) := by decide +kernel
theorem d_m_row_15 : decode b_m_row 15 = .ok (.aload_n 0, 1) := by decide +kernel
theorem d_m_row_16 : decode b_m_row 16 = .ok (.getfield 13, 3) := by decide +kernel
theorem d_m_row_19 : decode b_m_row 19 = .ok (.aload_n 0, 1) := by decide +kernel
theorem d_m_row_20 : decode b_m_row 20 = .ok (.getfield 66, 3) := by decide +kernel
theorem d_m_row_23 : decode b_m_row 23 = .ok (.lload 5, 2) := by decide +kernel
theorem d_m_row_25 : decode b_m_row 25 = .ok (.ldc2_w 69, 3) := by decide +kernel
theorem d_m_row_28 : decode b_m_row 28 = .ok (.lrem, 1) := by decide +kernel
theorem d_m_row_29 : decode b_m_row 29 = .ok (.lastore, 1) := by decide +kernel
theorem d_m_row_30 : decode b_m_row 30 = .ok (.aload_n 0, 1) := by decide +kernel
theorem d_m_row_31 : decode b_m_row 31 = .ok (.dup, 1) := by decide +kernel
theorem d_m_row_32 : decode b_m_row 32 = .ok (.getfield 66, 3) := by decide +kernel
theorem d_m_row_35 : decode b_m_row 35 = .ok (.iconst 1, 1) := by decide +kernel
theorem d_m_row_36 : decode b_m_row 36 = .ok (.iadd, 1) := by decide +kernel
theorem d_m_row_37 : decode b_m_row 37 = .ok (.putfield 66, 3) := by decide +kernel
theorem d_m_row_40 : decode b_m_row 40 = .ok (.lload 5, 2) := by decide +kernel
theorem d_m_row_42 : decode b_m_row 42 = .ok (.ldc2_w 69, 3) := by decide +kernel
theorem d_m_row_45 : decode b_m_row 45 = .ok (.ldiv, 1) := by decide +kernel
theorem d_m_row_46 : decode b_m_row 46 = .ok (.lstore 5, 2) := by decide +kernel
theorem d_m_row_48 : decode b_m_row 48 = .ok (.goto (-40), 3) := by decide +kernel
theorem d_m_row_51 : decode b_m_row 51 = .ok (.iconst 0, 1) := by decide +kernel
theorem d_m_row_52 : decode b_m_row 52 = .ok (.istore 5, 2) := by decide +kernel
theorem d_m_row_54 : decode b_m_row 54 = .ok (.iload 5, 2) := by decide +kernel
theorem d_m_row_56 : decode b_m_row 56 = .ok (.bipush 29, 2) := by decide +kernel
theorem d_m_row_58 : decode b_m_row 58 = .ok (.iadd, 1) := by decide +kernel
theorem d_m_row_59 : decode b_m_row 59 = .ok (.iload_n 3, 1) := by decide +kernel
theorem d_m_row_60 : decode b_m_row 60 = .ok (.if_icmp .gt 16, 3) := by decide +kernel
theorem d_m_row_63 : decode b_m_row 63 = .ok (.aload_n 0, 1) := by decide +kernel
theorem d_m_row_64 : decode b_m_row 64 = .ok (.ldc2_w 71, 3) := by decide +kernel
theorem d_m_row_67 : decode b_m_row 67 = .ok (.invokevirtual 73, 3) := by decide +kernel
theorem d_m_row_70 : decode b_m_row 70 = .ok (.iinc 5 29, 3) := by decide +kernel
theorem d_m_row_73 : decode b_m_row 73 = .ok (.goto (-19), 3) := by decide +kernel
theorem d_m_row_76 : decode b_m_row 76 = .ok (.iload_n 3, 1) := by decide +kernel
theorem d_m_row_77 : decode b_m_row 77 = .ok (.ifCond .le 13, 3) := by decide +kernel
theorem d_m_row_80 : decode b_m_row 80 = .ok (.aload_n 0, 1) := by decide +kernel
theorem d_m_row_81 : decode b_m_row 81 = .ok (.lconst 1, 1) := by decide +kernel
theorem d_m_row_82 : decode b_m_row 82 = .ok (.iload_n 3, 1) := by decide +kernel
theorem d_m_row_83 : decode b_m_row 83 = .ok (.bipush 29, 2) := by decide +kernel
theorem d_m_row_85 : decode b_m_row 85 = .ok (.irem, 1) := by decide +kernel
theorem d_m_row_86 : decode b_m_row 86 = .ok (.lshl, 1) := by decide +kernel
theorem d_m_row_87 : decode b_m_row 87 = .ok (.invokevirtual 73, 3) := by decide +kernel
theorem d_m_row_90 : decode b_m_row 90 = .ok (.iconst 0, 1) := by decide +kernel
theorem d_m_row_91 : decode b_m_row 91 = .ok (.istore 5, 2) := by decide +kernel
theorem d_m_row_93 : decode b_m_row 93 = .ok (.iload 5, 2) := by decide +kernel
theorem d_m_row_95 : decode b_m_row 95 = .ok (.bipush 12, 2) := by decide +kernel
theorem d_m_row_97 : decode b_m_row 97 = .ok (.iadd, 1) := by decide +kernel
theorem d_m_row_98 : decode b_m_row 98 = .ok (.iload_n 3, 1) := by decide +kernel
theorem d_m_row_99 : decode b_m_row 99 = .ok (.ineg, 1) := by decide +kernel
theorem d_m_row_100 : decode b_m_row 100 = .ok (.if_icmp .gt 16, 3) := by decide +kernel
theorem d_m_row_103 : decode b_m_row 103 = .ok (.aload_n 0, 1) := by decide +kernel
theorem d_m_row_104 : decode b_m_row 104 = .ok (.ldc2_w 77, 3) := by decide +kernel
theorem d_m_row_107 : decode b_m_row 107 = .ok (.invokevirtual 73, 3) := by decide +kernel
theorem d_m_row_110 : decode b_m_row 110 = .ok (.iinc 5 12, 3) := by decide +kernel
theorem d_m_row_113 : decode b_m_row 113 = .ok (.goto (-20), 3) := by decide +kernel
theorem d_m_row_116 : decode b_m_row 116 = .ok (.iconst 0, 1) := by decide +kernel
theorem d_m_row_117 : decode b_m_row 117 = .ok (.istore 5, 2) := by decide +kernel
theorem d_m_row_119 : decode b_m_row 119 = .ok (.iload 5, 2) := by decide +kernel
theorem d_m_row_121 : decode b_m_row 121 = .ok (.iload_n 3, 1) := by decide +kernel
theorem d_m_row_122 : decode b_m_row 122 = .ok (.ifCond .ge 11, 3) := by decide +kernel
theorem d_m_row_125 : decode b_m_row 125 = .ok (.iload_n 3, 1) := by decide +kernel
theorem d_m_row_126 : decode b_m_row 126 = .ok (.ineg, 1) := by decide +kernel
theorem d_m_row_127 : decode b_m_row 127 = .ok (.bipush 12, 2) := by decide +kernel
theorem d_m_row_129 : decode b_m_row 129 = .ok (.irem, 1) := by decide +kernel
theorem d_m_row_130 : decode b_m_row 130 = .ok (.goto 4, 3) := by decide +kernel
theorem d_m_row_133 : decode b_m_row 133 = .ok (.iconst 0, 1) := by decide +kernel
theorem d_m_row_134 : decode b_m_row 134 = .ok (.if_icmp .ge 16, 3) := by decide +kernel
theorem d_m_row_137 : decode b_m_row 137 = .ok (.aload_n 0, 1) := by decide +kernel
theorem d_m_row_138 : decode b_m_row 138 = .ok (.ldc2_w 79, 3) := by decide +kernel
theorem d_m_row_141 : decode b_m_row 141 = .ok (.invokevirtual 73, 3) := by decide +kernel
theorem d_m_row_144 : decode b_m_row 144 = .ok (.iinc 5 1, 3) := by decide +kernel
theorem d_m_row_147 : decode b_m_row 147 = .ok (.goto (-28), 3) := by decide +kernel
theorem d_m_row_150 : decode b_m_row 150 = .ok (.aload 4, 2) := by decide +kernel
theorem d_m_row_152 : decode b_m_row 152 = .ok (.iconst 0, 1) := by decide +kernel
theorem d_m_row_153 : decode b_m_row 153 = .ok (.putfield 81, 3) := by decide +kernel
theorem d_m_row_156 : decode b_m_row 156 = .ok (.aload_n 0, 1) := by decide +kernel
theorem d_m_row_157 : decode b_m_row 157 = .ok (.getfield 66, 3) := by decide +kernel
theorem d_m_row_160 : decode b_m_row 160 = .ok (.iconst 1, 1) := by decide +kernel
theorem d_m_row_161 : decode b_m_row 161 = .ok (.isub, 1) := by decide +kernel
theorem d_m_row_162 : decode b_m_row 162 = .ok (.istore 5, 2) := by decide +kernel
theorem d_m_row_164 : decode b_m_row 164 = .ok (.iload 5, 2) := by decide +kernel
theorem d_m_row_166 : decode b_m_row 166 = .ok (.ifCond .lt 90, 3) := by decide +kernel
theorem d_m_row_169 : decode b_m_row 169 = .ok (.ldc2_w 84, 3) := by decide +kernel
theorem d_m_row_172 : decode b_m_row 172 = .ok (.lstore 6, 2) := by decide +kernel
theorem d_m_row_174 : decode b_m_row 174 = .ok (.lload 6, 2) := by decide +kernel
theorem d_m_row_176 : decode b_m_row 176 = .ok (.lconst 0, 1) := by decide +kernel
theorem d_m_row_177 : decode b_m_row 177 = .ok (.lcmp, 1) := by decide +kernel
theorem d_m_row_178 : decode b_m_row 178 = .ok (.ifCond .le 72, 3) := by decide +kernel
theorem d_m_row_181 : decode b_m_row 181 = .ok (.aload_n 0, 1) := by decide +kernel
theorem d_m_row_182 : decode b_m_row 182 = .ok (.getfield 13, 3) := by decide +kernel
theorem d_m_row_185 : decode b_m_row 185 = .ok (.iload 5, 2) := by decide +kernel
theorem d_m_row_187 : decode b_m_row 187 = .ok (.laload, 1) := by decide +kernel
theorem d_m_row_188 : decode b_m_row 188 = .ok (.lload 6, 2) := by decide +kernel
theorem d_m_row_190 : decode b_m_row 190 = .ok (.ldiv, 1) := by decide +kernel
theorem d_m_row_191 : decode b_m_row 191 = .ok (.ldc2_w 86, 3) := by decide +kernel
theorem d_m_row_194 : decode b_m_row 194 = .ok (.lrem, 1) := by decide +kernel
theorem d_m_row_195 : decode b_m_row 195 = .ok (.l2i, 1) := by decide +kernel
theorem d_m_row_196 : decode b_m_row 196 = .ok (.i2b, 1) := by decide +kernel
theorem d_m_row_197 : decode b_m_row 197 = .ok (.istore 8, 2) := by decide +kernel
theorem d_m_row_199 : decode b_m_row 199 = .ok (.aload 4, 2) := by decide +kernel
theorem d_m_row_201 : decode b_m_row 201 = .ok (.getfield 81, 3) := by decide +kernel
theorem d_m_row_204 : decode b_m_row 204 = .ok (.ifCond .ne 11, 3) := by decide +kernel
theorem d_m_row_207 : decode b_m_row 207 = .ok (.iload 8, 2) := by decide +kernel
theorem d_m_row_209 : decode b_m_row 209 = .ok (.ifCond .ne 6, 3) := by decide +kernel
theorem d_m_row_212 : decode b_m_row 212 = .ok (.goto 27, 3) := by decide +kernel
theorem d_m_row_215 : decode b_m_row 215 = .ok (.aload 4, 2) := by decide +kernel
theorem d_m_row_217 : decode b_m_row 217 = .ok (.getfield 88, 3) := by decide +kernel
theorem d_m_row_220 : decode b_m_row 220 = .ok (.aload 4, 2) := by decide +kernel
theorem d_m_row_222 : decode b_m_row 222 = .ok (.getfield 81, 3) := by decide +kernel
theorem d_m_row_225 : decode b_m_row 225 = .ok (.iload 8, 2) := by decide +kernel
theorem d_m_row_227 : decode b_m_row 227 = .ok (.bastore, 1) := by decide +kernel
theorem d_m_row_228 : decode b_m_row 228 = .ok (.aload 4, 2) := by decide +kernel
theorem d_m_row_230 : decode b_m_row 230 = .ok (.dup, 1) := by decide +kernel
theorem d_m_row_231 : decode b_m_row 231 = .ok (.getfield 81, 3) := by decide +kernel
theorem d_m_row_234 : decode b_m_row 234 = .ok (.iconst 1, 1) := by decide +kernel
theorem d_m_row_235 : decode b_m_row 235 = .ok (.iadd, 1) := by decide +kernel
theorem d_m_row_236 : decode b_m_row 236 = .ok (.putfield 81, 3) := by decide +kernel
theorem d_m_row_239 : decode b_m_row 239 = .ok (.lload 6, 2) := by decide +kernel
theorem d_m_row_241 : decode b_m_row 241 = .ok (.ldc2_w 86, 3) := by decide +kernel
theorem d_m_row_244 : decode b_m_row 244 = .ok (.ldiv, 1) := by decide +kernel
theorem d_m_row_245 : decode b_m_row 245 = .ok (.lstore 6, 2) := by decide +kernel
theorem d_m_row_247 : decode b_m_row 247 = .ok (.goto (-73), 3) := by decide +kernel
theorem d_m_row_250 : decode b_m_row 250 = .ok (.iinc 5 (-1), 3) := by decide +kernel
theorem d_m_row_253 : decode b_m_row 253 = .ok (.goto (-89), 3) := by decide +kernel
theorem d_m_row_256 : decode b_m_row 256 = .ok (.aload 4, 2) := by decide +kernel
theorem d_m_row_258 : decode b_m_row 258 = .ok (.aload 4, 2) := by decide +kernel
theorem d_m_row_260 : decode b_m_row 260 = .ok (.getfield 81, 3) := by decide +kernel
theorem d_m_row_263 : decode b_m_row 263 = .ok (.iload_n 3, 1) := by decide +kernel
theorem d_m_row_264 : decode b_m_row 264 = .ok (.ifCond .ge 7, 3) := by decide +kernel
theorem d_m_row_267 : decode b_m_row 267 = .ok (.iload_n 3, 1) := by decide +kernel
theorem d_m_row_268 : decode b_m_row 268 = .ok (.goto 4, 3) := by decide +kernel
theorem d_m_row_271 : decode b_m_row 271 = .ok (.iconst 0, 1) := by decide +kernel
theorem d_m_row_272 : decode b_m_row 272 = .ok (.iadd, 1) := by decide +kernel
theorem d_m_row_273 : decode b_m_row 273 = .ok (.putfield 91, 3) := by decide +kernel
theorem d_m_row_276 : decode b_m_row 276 = .ok (.aload 4, 2) := by decide +kernel
theorem d_m_row_278 : decode b_m_row 278 = .ok (.getfield 81, 3) := by decide +kernel
theorem d_m_row_281 : decode b_m_row 281 = .ok (.ifCond .le 33, 3) := by decide +kernel
theorem d_m_row_284 : decode b_m_row 284 = .ok (.aload 4, 2) := by decide +kernel
theorem d_m_row_286 : decode b_m_row 286 = .ok (.getfield 88, 3) := by decide +kernel
theorem d_m_row_289 : decode b_m_row 289 = .ok (.aload 4, 2) := by decide +kernel
theorem d_m_row_291 : decode b_m_row 291 = .ok (.getfield 81, 3) := by decide +kernel
theorem d_m_row_294 : decode b_m_row 294 = .ok (.iconst 1, 1) := by decide +kernel
theorem d_m_row_295 : decode b_m_row 295 = .ok (.isub, 1) := by decide +kernel
theorem d_m_row_296 : decode b_m_row 296 = .ok (.baload, 1) := by decide +kernel
theorem d_m_row_297 : decode b_m_row 297 = .ok (.ifCond .ne 17, 3) := by decide +kernel
theorem d_m_row_300 : decode b_m_row 300 = .ok (.aload 4, 2) := by decide +kernel
theorem d_m_row_302 : decode b_m_row 302 = .ok (.dup, 1) := by decide +kernel
theorem d_m_row_303 : decode b_m_row 303 = .ok (.getfield 81, 3) := by decide +kernel
theorem d_m_row_306 : decode b_m_row 306 = .ok (.iconst 1, 1) := by decide +kernel
theorem d_m_row_307 : decode b_m_row 307 = .ok (.isub, 1) := by decide +kernel
theorem d_m_row_308 : decode b_m_row 308 = .ok (.putfield 81, 3) := by decide +kernel
theorem d_m_row_311 : decode b_m_row 311 = .ok (.goto (-35), 3) := by decide +kernel
theorem d_m_row_314 : decode b_m_row 314 = .ok (.return_, 1) := by decide +kernel
theorem d_m_compare_0 : decode b_m_compare 0 = .ok (.iload_n 1, 1) := by decide +kernel
theorem d_m_compare_1 : decode b_m_compare 1 = .ok (.ifCond .eq 11, 3) := by decide +kernel
theorem d_m_compare_4 : decode b_m_compare 4 = .ok (.aload 4, 2) := by decide +kernel
theorem d_m_compare_6 : decode b_m_compare 6 = .ok (.getfield 81, 3) := by decide +kernel
theorem d_m_compare_9 : decode b_m_compare 9 = .ok (.ifCond .ne 25, 3) := by decide +kernel
theorem d_m_compare_12 : decode b_m_compare 12 = .ok (.iload_n 1, 1) := by decide +kernel
theorem d_m_compare_13 : decode b_m_compare 13 = .ok (.ifCond .ne 19, 3) := by decide +kernel
theorem d_m_compare_16 : decode b_m_compare 16 = .ok (.aload 4, 2) := by decide +kernel
theorem d_m_compare_18 : decode b_m_compare 18 = .ok (.getfield 81, 3) := by decide +kernel
theorem d_m_compare_21 : decode b_m_compare 21 = .ok (.ifCond .ne 7, 3) := by decide +kernel
theorem d_m_compare_24 : decode b_m_compare 24 = .ok (.iconst 0, 1) := by decide +kernel
theorem d_m_compare_25 : decode b_m_compare 25 = .ok (.goto 8, 3) := by decide +kernel
theorem d_m_compare_28 : decode b_m_compare 28 = .ok (.iconst (-1), 1) := by decide +kernel
theorem d_m_compare_29 : decode b_m_compare 29 = .ok (.goto 4, 3) := by decide +kernel
theorem d_m_compare_32 : decode b_m_compare 32 = .ok (.iconst 1, 1) := by decide +kernel
theorem d_m_compare_33 : decode b_m_compare 33 = .ok (.ireturn, 1) := by decide +kernel
theorem d_m_compare_34 : decode b_m_compare 34 = .ok (.lload_n 2, 1) := by decide +kernel
theorem d_m_compare_35 : decode b_m_compare 35 = .ok (.aload 4, 2) := by decide +kernel
theorem d_m_compare_37 : decode b_m_compare 37 = .ok (.getfield 91, 3) := by decide +kernel
theorem d_m_compare_40 : decode b_m_compare 40 = .ok (.i2l, 1) := by decide +kernel
theorem d_m_compare_41 : decode b_m_compare 41 = .ok (.lcmp, 1) := by decide +kernel
theorem d_m_compare_42 : decode b_m_compare 42 = .ok (.ifCond .eq 20, 3) := by decide +kernel
theorem d_m_compare_45 : decode b_m_compare 45 = .ok (.lload_n 2, 1) := by decide +kernel
theorem d_m_compare_46 : decode b_m_compare 46 = .ok (.aload 4, 2) := by decide +kernel
theorem d_m_compare_48 : decode b_m_compare 48 = .ok (.getfield 91, 3) := by decide +kernel
theorem d_m_compare_51 : decode b_m_compare 51 = .ok (.i2l, 1) := by decide +kernel
theorem d_m_compare_52 : decode b_m_compare 52 = .ok (.lcmp, 1) := by decide +kernel
theorem d_m_compare_53 : decode b_m_compare 53 = .ok (.ifCond .ge 7, 3) := by decide +kernel
theorem d_m_compare_56 : decode b_m_compare 56 = .ok (.iconst (-1), 1) := by decide +kernel
theorem d_m_compare_57 : decode b_m_compare 57 = .ok (.goto 4, 3) := by decide +kernel
theorem d_m_compare_60 : decode b_m_compare 60 = .ok (.iconst 1, 1) := by decide +kernel
theorem d_m_compare_61 : decode b_m_compare 61 = .ok (.ireturn, 1) := by decide +kernel
theorem d_m_compare_62 : decode b_m_compare 62 = .ok (.iconst 0, 1) := by decide +kernel
theorem d_m_compare_63 : decode b_m_compare 63 = .ok (.istore 5, 2) := by decide +kernel
theorem d_m_compare_65 : decode b_m_compare 65 = .ok (.iload 5, 2) := by decide +kernel
theorem d_m_compare_67 : decode b_m_compare 67 = .ok (.iload_n 1, 1) := by decide +kernel
theorem d_m_compare_68 : decode b_m_compare 68 = .ok (.if_icmp .lt 13, 3) := by decide +kernel
theorem d_m_compare_71 : decode b_m_compare 71 = .ok (.iload 5, 2) := by decide +kernel
theorem d_m_compare_73 : decode b_m_compare 73 = .ok (.aload 4, 2) := by decide +kernel
theorem d_m_compare_75 : decode b_m_compare 75 = .ok (.getfield 81, 3) := by decide +kernel
theorem d_m_compare_78 : decode b_m_compare 78 = .ok (.if_icmp .ge 69, 3) := by decide +kernel
theorem d_m_compare_81 : decode b_m_compare 81 = .ok (.iload 5, 2) := by decide +kernel
theorem d_m_compare_83 : decode b_m_compare 83 = .ok (.iload_n 1, 1) := by decide +kernel
theorem d_m_compare_84 : decode b_m_compare 84 = .ok (.if_icmp .ge 10, 3) := by decide +kernel
theorem d_m_compare_87 : decode b_m_compare 87 = .ok (.aload_n 0, 1) := by decide +kernel
theorem d_m_compare_88 : decode b_m_compare 88 = .ok (.iload 5, 2) := by decide +kernel
theorem d_m_compare_90 : decode b_m_compare 90 = .ok (.baload, 1) := by decide +kernel
theorem d_m_compare_91 : decode b_m_compare 91 = .ok (.goto 4, 3) := by decide +kernel
theorem d_m_compare_94 : decode b_m_compare 94 = .ok (.iconst 0, 1) := by decide +kernel
theorem d_m_compare_95 : decode b_m_compare 95 = .ok (.istore 6, 2) := by decide +kernel
theorem d_m_compare_97 : decode b_m_compare 97 = .ok (.iload 5, 2) := by decide +kernel
theorem d_m_compare_99 : decode b_m_compare 99 = .ok (.aload 4, 2) := by decide +kernel
theorem d_m_compare_101 : decode b_m_compare 101 = .ok (.getfield 81, 3) := by decide +kernel
theorem d_m_compare_104 : decode b_m_compare 104 = .ok (.if_icmp .ge 14, 3) := by decide +kernel
theorem d_m_compare_107 : decode b_m_compare 107 = .ok (.aload 4, 2) := by decide +kernel
theorem d_m_compare_109 : decode b_m_compare 109 = .ok (.getfield 88, 3) := by decide +kernel
theorem d_m_compare_112 : decode b_m_compare 112 = .ok (.iload 5, 2) := by decide +kernel
theorem d_m_compare_114 : decode b_m_compare 114 = .ok (.baload, 1) := by decide +kernel
theorem d_m_compare_115 : decode b_m_compare 115 = .ok (.goto 4, 3) := by decide +kernel
theorem d_m_compare_118 : decode b_m_compare 118 = .ok (.iconst 0, 1) := by decide +kernel
theorem d_m_compare_119 : decode b_m_compare 119 = .ok (.istore 7, 2) := by decide +kernel
theorem d_m_compare_121 : decode b_m_compare 121 = .ok (.iload 6, 2) := by decide +kernel
theorem d_m_compare_123 : decode b_m_compare 123 = .ok (.iload 7, 2) := by decide +kernel
theorem d_m_compare_125 : decode b_m_compare 125 = .ok (.if_icmp .eq 16, 3) := by decide +kernel
theorem d_m_compare_128 : decode b_m_compare 128 = .ok (.iload 6, 2) := by decide +kernel
theorem d_m_compare_130 : decode b_m_compare 130 = .ok (.iload 7, 2) := by decide +kernel
theorem d_m_compare_132 : decode b_m_compare 132 = .ok (.if_icmp .ge 7, 3) := by decide +kernel
theorem d_m_compare_135 : decode b_m_compare 135 = .ok (.iconst (-1), 1) := by decide +kernel
theorem d_m_compare_136 : decode b_m_compare 136 = .ok (.goto 4, 3) := by decide +kernel
theorem d_m_compare_139 : decode b_m_compare 139 = .ok (.iconst 1, 1) := by decide +kernel
theorem d_m_compare_140 : decode b_m_compare 140 = .ok (.ireturn, 1) := by decide +kernel
theorem d_m_compare_141 : decode b_m_compare 141 = .ok (.iinc 5 1, 3) := by decide +kernel
theorem d_m_compare_144 : decode b_m_compare 144 = .ok (.goto (-79), 3) := by decide +kernel
theorem d_m_compare_147 : decode b_m_compare 147 = .ok (.iconst 0, 1) := by decide +kernel
theorem d_m_compare_148 : decode b_m_compare 148 = .ok (.ireturn, 1) := by decide +kernel
theorem d_m_is_0 : decode b_m_is 0 = .ok (.aload_n 0, 1) := by decide +kernel
theorem d_m_is_1 : decode b_m_is 1 = .ok (.getfield 94, 3) := by decide +kernel
theorem d_m_is_4 : decode b_m_is 4 = .ok (.aload_n 0, 1) := by decide +kernel
theorem d_m_is_5 : decode b_m_is 5 = .ok (.getfield 97, 3) := by decide +kernel
theorem d_m_is_8 : decode b_m_is 8 = .ok (.if_icmp .ge 20, 3) := by decide +kernel
theorem d_m_is_11 : decode b_m_is 11 = .ok (.aload_n 0, 1) := by decide +kernel
theorem d_m_is_12 : decode b_m_is 12 = .ok (.getfield 9, 3) := by decide +kernel
theorem d_m_is_15 : decode b_m_is 15 = .ok (.aload_n 0, 1) := by decide +kernel
theorem d_m_is_16 : decode b_m_is 16 = .ok (.getfield 94, 3) := by decide +kernel
theorem d_m_is_19 : decode b_m_is 19 = .ok (.baload, 1) := by decide +kernel
theorem d_m_is_20 : decode b_m_is 20 = .ok (.iload_n 1, 1) := by decide +kernel
theorem d_m_is_21 : decode b_m_is 21 = .ok (.if_icmp .ne 7, 3) := by decide +kernel
theorem d_m_is_24 : decode b_m_is 24 = .ok (.iconst 1, 1) := by decide +kernel
theorem d_m_is_25 : decode b_m_is 25 = .ok (.goto 4, 3) := by decide +kernel
theorem d_m_is_28 : decode b_m_is 28 = .ok (.iconst 0, 1) := by decide +kernel
theorem d_m_is_29 : decode b_m_is 29 = .ok (.ireturn, 1) := by decide +kernel
theorem d_m_isDigit_0 : decode b_m_isDigit 0 = .ok (.aload_n 0, 1) := by decide +kernel
theorem d_m_isDigit_1 : decode b_m_isDigit 1 = .ok (.getfield 94, 3) := by decide +kernel
theorem d_m_isDigit_4 : decode b_m_isDigit 4 = .ok (.aload_n 0, 1) := by decide +kernel
theorem d_m_isDigit_5 : decode b_m_isDigit 5 = .ok (.getfield 97, 3) := by decide +kernel
theorem d_m_isDigit_8 : decode b_m_isDigit 8 = .ok (.if_icmp .ge 35, 3) := by decide +kernel
theorem d_m_isDigit_11 : decode b_m_isDigit 11 = .ok (.aload_n 0, 1) := by decide +kernel
theorem d_m_isDigit_12 : decode b_m_isDigit 12 = .ok (.getfield 9, 3) := by decide +kernel
theorem d_m_isDigit_15 : decode b_m_isDigit 15 = .ok (.aload_n 0, 1) := by decide +kernel
theorem d_m_isDigit_16 : decode b_m_isDigit 16 = .ok (.getfield 94, 3) := by decide +kernel
theorem d_m_isDigit_19 : decode b_m_isDigit 19 = .ok (.baload, 1) := by decide +kernel
theorem d_m_isDigit_20 : decode b_m_isDigit 20 = .ok (.bipush 48, 2) := by decide +kernel
theorem d_m_isDigit_22 : decode b_m_isDigit 22 = .ok (.if_icmp .lt 21, 3) := by decide +kernel
theorem d_m_isDigit_25 : decode b_m_isDigit 25 = .ok (.aload_n 0, 1) := by decide +kernel
theorem d_m_isDigit_26 : decode b_m_isDigit 26 = .ok (.getfield 9, 3) := by decide +kernel
theorem d_m_isDigit_29 : decode b_m_isDigit 29 = .ok (.aload_n 0, 1) := by decide +kernel
theorem d_m_isDigit_30 : decode b_m_isDigit 30 = .ok (.getfield 94, 3) := by decide +kernel
theorem d_m_isDigit_33 : decode b_m_isDigit 33 = .ok (.baload, 1) := by decide +kernel
theorem d_m_isDigit_34 : decode b_m_isDigit 34 = .ok (.bipush 57, 2) := by decide +kernel
theorem d_m_isDigit_36 : decode b_m_isDigit 36 = .ok (.if_icmp .gt 7, 3) := by decide +kernel
theorem d_m_isDigit_39 : decode b_m_isDigit 39 = .ok (.iconst 1, 1) := by decide +kernel
theorem d_m_isDigit_40 : decode b_m_isDigit 40 = .ok (.goto 4, 3) := by decide +kernel
theorem d_m_isDigit_43 : decode b_m_isDigit 43 = .ok (.iconst 0, 1) := by decide +kernel
theorem d_m_isDigit_44 : decode b_m_isDigit 44 = .ok (.ireturn, 1) := by decide +kernel
theorem d_m_hexDigit_0 : decode b_m_hexDigit 0 = .ok (.aload_n 0, 1) := by decide +kernel
theorem d_m_hexDigit_1 : decode b_m_hexDigit 1 = .ok (.getfield 94, 3) := by decide +kernel
theorem d_m_hexDigit_4 : decode b_m_hexDigit 4 = .ok (.aload_n 0, 1) := by decide +kernel
theorem d_m_hexDigit_5 : decode b_m_hexDigit 5 = .ok (.getfield 97, 3) := by decide +kernel
theorem d_m_hexDigit_8 : decode b_m_hexDigit 8 = .ok (.if_icmp .lt 5, 3) := by decide +kernel
theorem d_m_hexDigit_11 : decode b_m_hexDigit 11 = .ok (.iconst (-1), 1) := by decide +kernel
theorem d_m_hexDigit_12 : decode b_m_hexDigit 12 = .ok (.ireturn, 1) := by decide +kernel
theorem d_m_hexDigit_13 : decode b_m_hexDigit 13 = .ok (.aload_n 0, 1) := by decide +kernel
theorem d_m_hexDigit_14 : decode b_m_hexDigit 14 = .ok (.getfield 9, 3) := by decide +kernel
theorem d_m_hexDigit_17 : decode b_m_hexDigit 17 = .ok (.aload_n 0, 1) := by decide +kernel
theorem d_m_hexDigit_18 : decode b_m_hexDigit 18 = .ok (.getfield 94, 3) := by decide +kernel
theorem d_m_hexDigit_21 : decode b_m_hexDigit 21 = .ok (.baload, 1) := by decide +kernel
theorem d_m_hexDigit_22 : decode b_m_hexDigit 22 = .ok (.istore_n 1, 1) := by decide +kernel
theorem d_m_hexDigit_23 : decode b_m_hexDigit 23 = .ok (.iload_n 1, 1) := by decide +kernel
theorem d_m_hexDigit_24 : decode b_m_hexDigit 24 = .ok (.bipush 48, 2) := by decide +kernel
theorem d_m_hexDigit_26 : decode b_m_hexDigit 26 = .ok (.if_icmp .lt 16, 3) := by decide +kernel
theorem d_m_hexDigit_29 : decode b_m_hexDigit 29 = .ok (.iload_n 1, 1) := by decide +kernel
theorem d_m_hexDigit_30 : decode b_m_hexDigit 30 = .ok (.bipush 57, 2) := by decide +kernel
theorem d_m_hexDigit_32 : decode b_m_hexDigit 32 = .ok (.if_icmp .gt 10, 3) := by decide +kernel
theorem d_m_hexDigit_35 : decode b_m_hexDigit 35 = .ok (.iload_n 1, 1) := by decide +kernel
theorem d_m_hexDigit_36 : decode b_m_hexDigit 36 = .ok (.bipush 48, 2) := by decide +kernel
theorem d_m_hexDigit_38 : decode b_m_hexDigit 38 = .ok (.isub, 1) := by decide +kernel
theorem d_m_hexDigit_39 : decode b_m_hexDigit 39 = .ok (.goto 48, 3) := by decide +kernel
theorem d_m_hexDigit_42 : decode b_m_hexDigit 42 = .ok (.iload_n 1, 1) := by decide +kernel
theorem d_m_hexDigit_43 : decode b_m_hexDigit 43 = .ok (.bipush 97, 2) := by decide +kernel
theorem d_m_hexDigit_45 : decode b_m_hexDigit 45 = .ok (.if_icmp .lt 19, 3) := by decide +kernel
theorem d_m_hexDigit_48 : decode b_m_hexDigit 48 = .ok (.iload_n 1, 1) := by decide +kernel
theorem d_m_hexDigit_49 : decode b_m_hexDigit 49 = .ok (.bipush 102, 2) := by decide +kernel
theorem d_m_hexDigit_51 : decode b_m_hexDigit 51 = .ok (.if_icmp .gt 13, 3) := by decide +kernel
theorem d_m_hexDigit_54 : decode b_m_hexDigit 54 = .ok (.iload_n 1, 1) := by decide +kernel
theorem d_m_hexDigit_55 : decode b_m_hexDigit 55 = .ok (.bipush 97, 2) := by decide +kernel
theorem d_m_hexDigit_57 : decode b_m_hexDigit 57 = .ok (.isub, 1) := by decide +kernel
theorem d_m_hexDigit_58 : decode b_m_hexDigit 58 = .ok (.bipush 10, 2) := by decide +kernel
theorem d_m_hexDigit_60 : decode b_m_hexDigit 60 = .ok (.iadd, 1) := by decide +kernel
theorem d_m_hexDigit_61 : decode b_m_hexDigit 61 = .ok (.goto 26, 3) := by decide +kernel
theorem d_m_hexDigit_64 : decode b_m_hexDigit 64 = .ok (.iload_n 1, 1) := by decide +kernel
theorem d_m_hexDigit_65 : decode b_m_hexDigit 65 = .ok (.bipush 65, 2) := by decide +kernel
theorem d_m_hexDigit_67 : decode b_m_hexDigit 67 = .ok (.if_icmp .lt 19, 3) := by decide +kernel
theorem d_m_hexDigit_70 : decode b_m_hexDigit 70 = .ok (.iload_n 1, 1) := by decide +kernel
theorem d_m_hexDigit_71 : decode b_m_hexDigit 71 = .ok (.bipush 70, 2) := by decide +kernel
theorem d_m_hexDigit_73 : decode b_m_hexDigit 73 = .ok (.if_icmp .gt 13, 3) := by decide +kernel
theorem d_m_hexDigit_76 : decode b_m_hexDigit 76 = .ok (.iload_n 1, 1) := by decide +kernel
theorem d_m_hexDigit_77 : decode b_m_hexDigit 77 = .ok (.bipush 65, 2) := by decide +kernel
theorem d_m_hexDigit_79 : decode b_m_hexDigit 79 = .ok (.isub, 1) := by decide +kernel
theorem d_m_hexDigit_80 : decode b_m_hexDigit 80 = .ok (.bipush 10, 2) := by decide +kernel
theorem d_m_hexDigit_82 : decode b_m_hexDigit 82 = .ok (.iadd, 1) := by decide +kernel
theorem d_m_hexDigit_83 : decode b_m_hexDigit 83 = .ok (.goto 4, 3) := by decide +kernel
theorem d_m_hexDigit_86 : decode b_m_hexDigit 86 = .ok (.iconst (-1), 1) := by decide +kernel
theorem d_m_hexDigit_87 : decode b_m_hexDigit 87 = .ok (.ireturn, 1) := by decide +kernel
theorem d_m_word_0 : decode b_m_word 0 = .ok (.aload_n 0, 1) := by decide +kernel
theorem d_m_word_1 : decode b_m_word 1 = .ok (.getfield 97, 3) := by decide +kernel
theorem d_m_word_4 : decode b_m_word 4 = .ok (.aload_n 0, 1) := by decide +kernel
theorem d_m_word_5 : decode b_m_word 5 = .ok (.getfield 94, 3) := by decide +kernel
theorem d_m_word_8 : decode b_m_word 8 = .ok (.isub, 1) := by decide +kernel
theorem d_m_word_9 : decode b_m_word 9 = .ok (.aload_n 1, 1) := by decide +kernel
theorem d_m_word_10 : decode b_m_word 10 = .ok (.invokevirtual 100, 3) := by decide +kernel
theorem d_m_word_13 : decode b_m_word 13 = .ok (.if_icmp .eq 5, 3) := by decide +kernel
theorem d_m_word_16 : decode b_m_word 16 = .ok (.iconst 0, 1) := by decide +kernel
theorem d_m_word_17 : decode b_m_word 17 = .ok (.ireturn, 1) := by decide +kernel
theorem d_m_word_18 : decode b_m_word 18 = .ok (.iconst 0, 1) := by decide +kernel
theorem d_m_word_19 : decode b_m_word 19 = .ok (.istore_n 2, 1) := by decide +kernel
theorem d_m_word_20 : decode b_m_word 20 = .ok (.iload_n 2, 1) := by decide +kernel
theorem d_m_word_21 : decode b_m_word 21 = .ok (.aload_n 1, 1) := by decide +kernel
theorem d_m_word_22 : decode b_m_word 22 = .ok (.invokevirtual 100, 3) := by decide +kernel
theorem d_m_word_25 : decode b_m_word 25 = .ok (.if_icmp .ge 31, 3) := by decide +kernel
theorem d_m_word_28 : decode b_m_word 28 = .ok (.aload_n 0, 1) := by decide +kernel
theorem d_m_word_29 : decode b_m_word 29 = .ok (.getfield 9, 3) := by decide +kernel
theorem d_m_word_32 : decode b_m_word 32 = .ok (.aload_n 0, 1) := by decide +kernel
theorem d_m_word_33 : decode b_m_word 33 = .ok (.getfield 94, 3) := by decide +kernel
theorem d_m_word_36 : decode b_m_word 36 = .ok (.iload_n 2, 1) := by decide +kernel
theorem d_m_word_37 : decode b_m_word 37 = .ok (.iadd, 1) := by decide +kernel
theorem d_m_word_38 : decode b_m_word 38 = .ok (.baload, 1) := by decide +kernel
theorem d_m_word_39 : decode b_m_word 39 = .ok (.aload_n 1, 1) := by decide +kernel
theorem d_m_word_40 : decode b_m_word 40 = .ok (.iload_n 2, 1) := by decide +kernel
theorem d_m_word_41 : decode b_m_word 41 = .ok (.invokevirtual 106, 3) := by decide +kernel
theorem d_m_word_44 : decode b_m_word 44 = .ok (.i2b, 1) := by decide +kernel
theorem d_m_word_45 : decode b_m_word 45 = .ok (.if_icmp .eq 5, 3) := by decide +kernel
theorem d_m_word_48 : decode b_m_word 48 = .ok (.iconst 0, 1) := by decide +kernel
theorem d_m_word_49 : decode b_m_word 49 = .ok (.ireturn, 1) := by decide +kernel
theorem d_m_word_50 : decode b_m_word 50 = .ok (.iinc 2 1, 3) := by decide +kernel
theorem d_m_word_53 : decode b_m_word 53 = .ok (.goto (-33), 3) := by decide +kernel
theorem d_m_word_56 : decode b_m_word 56 = .ok (.iconst 1, 1) := by decide +kernel
theorem d_m_word_57 : decode b_m_word 57 = .ok (.ireturn, 1) := by decide +kernel
theorem d_m_value_0 : decode b_m_value 0 = .ok (.aload_n 0, 1) := by decide +kernel
theorem d_m_value_1 : decode b_m_value 1 = .ok (.iconst 0, 1) := by decide +kernel
theorem d_m_value_2 : decode b_m_value 2 = .ok (.putfield 94, 3) := by decide +kernel
theorem d_m_value_5 : decode b_m_value 5 = .ok (.aload_n 0, 1) := by decide +kernel
theorem d_m_value_6 : decode b_m_value 6 = .ok (.aload_n 0, 1) := by decide +kernel
theorem d_m_value_7 : decode b_m_value 7 = .ok (.getfield 34, 3) := by decide +kernel
theorem d_m_value_10 : decode b_m_value 10 = .ok (.putfield 97, 3) := by decide +kernel
theorem d_m_value_13 : decode b_m_value 13 = .ok (.aload_n 0, 1) := by decide +kernel
theorem d_m_value_14 : decode b_m_value 14 = .ok (.iconst 0, 1) := by decide +kernel
theorem d_m_value_15 : decode b_m_value 15 = .ok (.putfield 34, 3) := by decide +kernel
theorem d_m_value_18 : decode b_m_value 18 = .ok (.aload_n 0, 1) := by decide +kernel
theorem d_m_value_19 : decode b_m_value 19 = .ok (.getfield 94, 3) := by decide +kernel
theorem d_m_value_22 : decode b_m_value 22 = .ok (.aload_n 0, 1) := by decide +kernel
theorem d_m_value_23 : decode b_m_value 23 = .ok (.getfield 97, 3) := by decide +kernel
theorem d_m_value_26 : decode b_m_value 26 = .ok (.if_icmp .ge 42, 3) := by decide +kernel
theorem d_m_value_29 : decode b_m_value 29 = .ok (.aload_n 0, 1) := by decide +kernel
theorem d_m_value_30 : decode b_m_value 30 = .ok (.getfield 9, 3) := by decide +kernel
theorem d_m_value_33 : decode b_m_value 33 = .ok (.aload_n 0, 1) := by decide +kernel
theorem d_m_value_34 : decode b_m_value 34 = .ok (.getfield 94, 3) := by decide +kernel
theorem d_m_value_37 : decode b_m_value 37 = .ok (.baload, 1) := by decide +kernel
theorem d_m_value_38 : decode b_m_value 38 = .ok (.ifCond .lt 30, 3) := by decide +kernel
theorem d_m_value_41 : decode b_m_value 41 = .ok (.aload_n 0, 1) := by decide +kernel
theorem d_m_value_42 : decode b_m_value 42 = .ok (.getfield 9, 3) := by decide +kernel
theorem d_m_value_45 : decode b_m_value 45 = .ok (.aload_n 0, 1) := by decide +kernel
theorem d_m_value_46 : decode b_m_value 46 = .ok (.getfield 94, 3) := by decide +kernel
theorem d_m_value_49 : decode b_m_value 49 = .ok (.baload, 1) := by decide +kernel
theorem d_m_value_50 : decode b_m_value 50 = .ok (.bipush 32, 2) := by decide +kernel
theorem d_m_value_52 : decode b_m_value 52 = .ok (.if_icmp .gt 16, 3) := by decide +kernel
theorem d_m_value_55 : decode b_m_value 55 = .ok (.aload_n 0, 1) := by decide +kernel
theorem d_m_value_56 : decode b_m_value 56 = .ok (.dup, 1) := by decide +kernel
theorem d_m_value_57 : decode b_m_value 57 = .ok (.getfield 94, 3) := by decide +kernel
theorem d_m_value_60 : decode b_m_value 60 = .ok (.iconst 1, 1) := by decide +kernel
theorem d_m_value_61 : decode b_m_value 61 = .ok (.iadd, 1) := by decide +kernel
theorem d_m_value_62 : decode b_m_value 62 = .ok (.putfield 94, 3) := by decide +kernel
theorem d_m_value_65 : decode b_m_value 65 = .ok (.goto (-47), 3) := by decide +kernel
theorem d_m_value_68 : decode b_m_value 68 = .ok (.aload_n 0, 1) := by decide +kernel
theorem d_m_value_69 : decode b_m_value 69 = .ok (.getfield 97, 3) := by decide +kernel
theorem d_m_value_72 : decode b_m_value 72 = .ok (.aload_n 0, 1) := by decide +kernel
theorem d_m_value_73 : decode b_m_value 73 = .ok (.getfield 94, 3) := by decide +kernel
theorem d_m_value_76 : decode b_m_value 76 = .ok (.if_icmp .le 46, 3) := by decide +kernel
theorem d_m_value_79 : decode b_m_value 79 = .ok (.aload_n 0, 1) := by decide +kernel
theorem d_m_value_80 : decode b_m_value 80 = .ok (.getfield 9, 3) := by decide +kernel
theorem d_m_value_83 : decode b_m_value 83 = .ok (.aload_n 0, 1) := by decide +kernel
theorem d_m_value_84 : decode b_m_value 84 = .ok (.getfield 97, 3) := by decide +kernel
theorem d_m_value_87 : decode b_m_value 87 = .ok (.iconst 1, 1) := by decide +kernel
theorem d_m_value_88 : decode b_m_value 88 = .ok (.isub, 1) := by decide +kernel
theorem d_m_value_89 : decode b_m_value 89 = .ok (.baload, 1) := by decide +kernel
theorem d_m_value_90 : decode b_m_value 90 = .ok (.ifCond .lt 32, 3) := by decide +kernel
theorem d_m_value_93 : decode b_m_value 93 = .ok (.aload_n 0, 1) := by decide +kernel
theorem d_m_value_94 : decode b_m_value 94 = .ok (.getfield 9, 3) := by decide +kernel
theorem d_m_value_97 : decode b_m_value 97 = .ok (.aload_n 0, 1) := by decide +kernel
theorem d_m_value_98 : decode b_m_value 98 = .ok (.getfield 97, 3) := by decide +kernel
theorem d_m_value_101 : decode b_m_value 101 = .ok (.iconst 1, 1) := by decide +kernel
theorem d_m_value_102 : decode b_m_value 102 = .ok (.isub, 1) := by decide +kernel
theorem d_m_value_103 : decode b_m_value 103 = .ok (.baload, 1) := by decide +kernel
theorem d_m_value_104 : decode b_m_value 104 = .ok (.bipush 32, 2) := by decide +kernel
theorem d_m_value_106 : decode b_m_value 106 = .ok (.if_icmp .gt 16, 3) := by decide +kernel
theorem d_m_value_109 : decode b_m_value 109 = .ok (.aload_n 0, 1) := by decide +kernel
theorem d_m_value_110 : decode b_m_value 110 = .ok (.dup, 1) := by decide +kernel
theorem d_m_value_111 : decode b_m_value 111 = .ok (.getfield 97, 3) := by decide +kernel
theorem d_m_value_114 : decode b_m_value 114 = .ok (.iconst 1, 1) := by decide +kernel
theorem d_m_value_115 : decode b_m_value 115 = .ok (.isub, 1) := by decide +kernel
theorem d_m_value_116 : decode b_m_value 116 = .ok (.putfield 97, 3) := by decide +kernel
theorem d_m_value_119 : decode b_m_value 119 = .ok (.goto (-51), 3) := by decide +kernel
theorem d_m_value_122 : decode b_m_value 122 = .ok (.aload_n 0, 1) := by decide +kernel
theorem d_m_value_123 : decode b_m_value 123 = .ok (.bipush 45, 2) := by decide +kernel
theorem d_m_value_125 : decode b_m_value 125 = .ok (.invokevirtual 110, 3) := by decide +kernel
theorem d_m_value_128 : decode b_m_value 128 = .ok (.istore_n 1, 1) := by decide +kernel
theorem d_m_value_129 : decode b_m_value 129 = .ok (.iload_n 1, 1) := by decide +kernel
theorem d_m_value_130 : decode b_m_value 130 = .ok (.ifCond .ne 12, 3) := by decide +kernel
theorem d_m_value_133 : decode b_m_value 133 = .ok (.aload_n 0, 1) := by decide +kernel
theorem d_m_value_134 : decode b_m_value 134 = .ok (.bipush 43, 2) := by decide +kernel
theorem d_m_value_136 : decode b_m_value 136 = .ok (.invokevirtual 110, 3) := by decide +kernel
theorem d_m_value_139 : decode b_m_value 139 = .ok (.ifCond .eq 13, 3) := by decide +kernel
theorem d_m_value_142 : decode b_m_value 142 = .ok (.aload_n 0, 1) := by decide +kernel
theorem d_m_value_143 : decode b_m_value 143 = .ok (.dup, 1) := by decide +kernel
theorem d_m_value_144 : decode b_m_value 144 = .ok (.getfield 94, 3) := by decide +kernel
theorem d_m_value_147 : decode b_m_value 147 = .ok (.iconst 1, 1) := by decide +kernel
theorem d_m_value_148 : decode b_m_value 148 = .ok (.iadd, 1) := by decide +kernel
theorem d_m_value_149 : decode b_m_value 149 = .ok (.putfield 94, 3) := by decide +kernel
theorem d_m_value_152 : decode b_m_value 152 = .ok (.iload_n 1, 1) := by decide +kernel
theorem d_m_value_153 : decode b_m_value 153 = .ok (.ifCond .eq 10, 3) := by decide +kernel
theorem d_m_value_156 : decode b_m_value 156 = .ok (.aload_n 0, 1) := by decide +kernel
theorem d_m_value_157 : decode b_m_value 157 = .ok (.invokevirtual 114, 3) := by decide +kernel
theorem d_m_value_160 : decode b_m_value 160 = .ok (.goto 4, 3) := by decide +kernel
theorem d_m_value_163 : decode b_m_value 163 = .ok (.lconst 0, 1) := by decide +kernel
theorem d_m_value_164 : decode b_m_value 164 = .ok (.lstore_n 2, 1) := by decide +kernel
theorem d_m_value_165 : decode b_m_value 165 = .ok (.aload_n 0, 1) := by decide +kernel
theorem d_m_value_166 : decode b_m_value 166 = .ok (.iconst 0, 1) := by decide +kernel
theorem d_m_value_167 : decode b_m_value 167 = .ok (.putfield 30, 3) := by decide +kernel
theorem d_m_value_170 : decode b_m_value 170 = .ok (.aload_n 0, 1) := by decide +kernel
theorem d_m_value_171 : decode b_m_value 171 = .ok (.ldc 117, 2) := by decide +kernel
theorem d_m_value_173 : decode b_m_value 173 = .ok (.invokevirtual 119, 3) := by decide +kernel
theorem d_m_value_176 : decode b_m_value 176 = .ok (.ifCond .eq 8, 3) := by decide +kernel
theorem d_m_value_179 : decode b_m_value 179 = .ok (.aload_n 0, 1) := by decide +kernel
theorem d_m_value_180 : decode b_m_value 180 = .ok (.invokevirtual 123, 3) := by decide +kernel
theorem d_m_value_183 : decode b_m_value 183 = .ok (.lreturn, 1) := by decide +kernel
theorem d_m_value_184 : decode b_m_value 184 = .ok (.aload_n 0, 1) := by decide +kernel
theorem d_m_value_185 : decode b_m_value 185 = .ok (.ldc 126, 2) := by decide +kernel
theorem d_m_value_187 : decode b_m_value 187 = .ok (.invokevirtual 119, 3) := by decide +kernel
theorem d_m_value_190 : decode b_m_value 190 = .ok (.ifCond .eq 10, 3) := by decide +kernel
theorem d_m_value_193 : decode b_m_value 193 = .ok (.lload_n 2, 1) := by decide +kernel
theorem d_m_value_194 : decode b_m_value 194 = .ok (.aload_n 0, 1) := by decide +kernel
theorem d_m_value_195 : decode b_m_value 195 = .ok (.invokevirtual 59, 3) := by decide +kernel
theorem d_m_value_198 : decode b_m_value 198 = .ok (.lor, 1) := by decide +kernel
theorem d_m_value_199 : decode b_m_value 199 = .ok (.lreturn, 1) := by decide +kernel
theorem d_m_value_200 : decode b_m_value 200 = .ok (.aload_n 0, 1) := by decide +kernel
theorem d_m_value_201 : decode b_m_value 201 = .ok (.getfield 94, 3) := by decide +kernel
theorem d_m_value_204 : decode b_m_value 204 = .ok (.iconst 1, 1) := by decide +kernel
theorem d_m_value_205 : decode b_m_value 205 = .ok (.iadd, 1) := by decide +kernel
theorem d_m_value_206 : decode b_m_value 206 = .ok (.aload_n 0, 1) := by decide +kernel
theorem d_m_value_207 : decode b_m_value 207 = .ok (.getfield 97, 3) := by decide +kernel
theorem d_m_value_210 : decode b_m_value 210 = .ok (.if_icmp .ge 53, 3) := by decide +kernel
theorem d_m_value_213 : decode b_m_value 213 = .ok (.aload_n 0, 1) := by decide +kernel
theorem d_m_value_214 : decode b_m_value 214 = .ok (.getfield 9, 3) := by decide +kernel
theorem d_m_value_217 : decode b_m_value 217 = .ok (.aload_n 0, 1) := by decide +kernel
theorem d_m_value_218 : decode b_m_value 218 = .ok (.getfield 94, 3) := by decide +kernel
theorem d_m_value_221 : decode b_m_value 221 = .ok (.baload, 1) := by decide +kernel
theorem d_m_value_222 : decode b_m_value 222 = .ok (.bipush 48, 2) := by decide +kernel
theorem d_m_value_224 : decode b_m_value 224 = .ok (.if_icmp .ne 39, 3) := by decide +kernel
theorem d_m_value_227 : decode b_m_value 227 = .ok (.aload_n 0, 1) := by decide +kernel
theorem d_m_value_228 : decode b_m_value 228 = .ok (.getfield 9, 3) := by decide +kernel
theorem d_m_value_231 : decode b_m_value 231 = .ok (.aload_n 0, 1) := by decide +kernel
theorem d_m_value_232 : decode b_m_value 232 = .ok (.getfield 94, 3) := by decide +kernel
theorem d_m_value_235 : decode b_m_value 235 = .ok (.iconst 1, 1) := by decide +kernel
theorem d_m_value_236 : decode b_m_value 236 = .ok (.iadd, 1) := by decide +kernel
theorem d_m_value_237 : decode b_m_value 237 = .ok (.baload, 1) := by decide +kernel
theorem d_m_value_238 : decode b_m_value 238 = .ok (.bipush 120, 2) := by decide +kernel
theorem d_m_value_240 : decode b_m_value 240 = .ok (.if_icmp .eq 19, 3) := by decide +kernel
theorem d_m_value_243 : decode b_m_value 243 = .ok (.aload_n 0, 1) := by decide +kernel
theorem d_m_value_244 : decode b_m_value 244 = .ok (.getfield 9, 3) := by decide +kernel
theorem d_m_value_247 : decode b_m_value 247 = .ok (.aload_n 0, 1) := by decide +kernel
theorem d_m_value_248 : decode b_m_value 248 = .ok (.getfield 94, 3) := by decide +kernel
theorem d_m_value_251 : decode b_m_value 251 = .ok (.iconst 1, 1) := by decide +kernel
theorem d_m_value_252 : decode b_m_value 252 = .ok (.iadd, 1) := by decide +kernel
theorem d_m_value_253 : decode b_m_value 253 = .ok (.baload, 1) := by decide +kernel
theorem d_m_value_254 : decode b_m_value 254 = .ok (.bipush 88, 2) := by decide +kernel
theorem d_m_value_256 : decode b_m_value 256 = .ok (.if_icmp .ne 7, 3) := by decide +kernel
theorem d_m_value_259 : decode b_m_value 259 = .ok (.iconst 1, 1) := by decide +kernel
theorem d_m_value_260 : decode b_m_value 260 = .ok (.goto 4, 3) := by decide +kernel
theorem d_m_value_263 : decode b_m_value 263 = .ok (.iconst 0, 1) := by decide +kernel
theorem d_m_value_264 : decode b_m_value 264 = .ok (.istore 4, 2) := by decide +kernel
theorem d_m_value_266 : decode b_m_value 266 = .ok (.iload 4, 2) := by decide +kernel
theorem d_m_value_268 : decode b_m_value 268 = .ok (.ifCond .eq 10, 3) := by decide +kernel
theorem d_m_value_271 : decode b_m_value 271 = .ok (.aload_n 0, 1) := by decide +kernel
theorem d_m_value_272 : decode b_m_value 272 = .ok (.invokevirtual 128, 3) := by decide +kernel
theorem d_m_value_275 : decode b_m_value 275 = .ok (.goto 7, 3) := by decide +kernel
theorem d_m_value_278 : decode b_m_value 278 = .ok (.aload_n 0, 1) := by decide +kernel
theorem d_m_value_279 : decode b_m_value 279 = .ok (.invokevirtual 131, 3) := by decide +kernel
theorem d_m_value_282 : decode b_m_value 282 = .ok (.lstore 5, 2) := by decide +kernel
theorem d_m_value_284 : decode b_m_value 284 = .ok (.aload_n 0, 1) := by decide +kernel
theorem d_m_value_285 : decode b_m_value 285 = .ok (.getfield 94, 3) := by decide +kernel
theorem d_m_value_288 : decode b_m_value 288 = .ok (.aload_n 0, 1) := by decide +kernel
theorem d_m_value_289 : decode b_m_value 289 = .ok (.getfield 97, 3) := by decide +kernel
theorem d_m_value_292 : decode b_m_value 292 = .ok (.if_icmp .ge 69, 3) := by decide +kernel
theorem d_m_value_295 : decode b_m_value 295 = .ok (.aload_n 0, 1) := by decide +kernel
theorem d_m_value_296 : decode b_m_value 296 = .ok (.getfield 9, 3) := by decide +kernel
theorem d_m_value_299 : decode b_m_value 299 = .ok (.aload_n 0, 1) := by decide +kernel
theorem d_m_value_300 : decode b_m_value 300 = .ok (.getfield 94, 3) := by decide +kernel
theorem d_m_value_303 : decode b_m_value 303 = .ok (.baload, 1) := by decide +kernel
theorem d_m_value_304 : decode b_m_value 304 = .ok (.bipush 102, 2) := by decide +kernel
theorem d_m_value_306 : decode b_m_value 306 = .ok (.if_icmp .eq 45, 3) := by decide +kernel
theorem d_m_value_309 : decode b_m_value 309 = .ok (.aload_n 0, 1) := by decide +kernel
theorem d_m_value_310 : decode b_m_value 310 = .ok (.getfield 9, 3) := by decide +kernel
theorem d_m_value_313 : decode b_m_value 313 = .ok (.aload_n 0, 1) := by decide +kernel
theorem d_m_value_314 : decode b_m_value 314 = .ok (.getfield 94, 3) := by decide +kernel
theorem d_m_value_317 : decode b_m_value 317 = .ok (.baload, 1) := by decide +kernel
theorem d_m_value_318 : decode b_m_value 318 = .ok (.bipush 70, 2) := by decide +kernel
theorem d_m_value_320 : decode b_m_value 320 = .ok (.if_icmp .eq 31, 3) := by decide +kernel
theorem d_m_value_323 : decode b_m_value 323 = .ok (.aload_n 0, 1) := by decide +kernel
theorem d_m_value_324 : decode b_m_value 324 = .ok (.getfield 9, 3) := by decide +kernel
theorem d_m_value_327 : decode b_m_value 327 = .ok (.aload_n 0, 1) := by decide +kernel
theorem d_m_value_328 : decode b_m_value 328 = .ok (.getfield 94, 3) := by decide +kernel
theorem d_m_value_331 : decode b_m_value 331 = .ok (.baload, 1) := by decide +kernel
theorem d_m_value_332 : decode b_m_value 332 = .ok (.bipush 100, 2) := by decide +kernel
theorem d_m_value_334 : decode b_m_value 334 = .ok (.if_icmp .eq 17, 3) := by decide +kernel
theorem d_m_value_337 : decode b_m_value 337 = .ok (.aload_n 0, 1) := by decide +kernel
theorem d_m_value_338 : decode b_m_value 338 = .ok (.getfield 9, 3) := by decide +kernel
theorem d_m_value_341 : decode b_m_value 341 = .ok (.aload_n 0, 1) := by decide +kernel
theorem d_m_value_342 : decode b_m_value 342 = .ok (.getfield 94, 3) := by decide +kernel
theorem d_m_value_345 : decode b_m_value 345 = .ok (.baload, 1) := by decide +kernel
theorem d_m_value_346 : decode b_m_value 346 = .ok (.bipush 68, 2) := by decide +kernel
theorem d_m_value_348 : decode b_m_value 348 = .ok (.if_icmp .ne 13, 3) := by decide +kernel
theorem d_m_value_351 : decode b_m_value 351 = .ok (.aload_n 0, 1) := by decide +kernel
theorem d_m_value_352 : decode b_m_value 352 = .ok (.dup, 1) := by decide +kernel
theorem d_m_value_353 : decode b_m_value 353 = .ok (.getfield 94, 3) := by decide +kernel
theorem d_m_value_356 : decode b_m_value 356 = .ok (.iconst 1, 1) := by decide +kernel
theorem d_m_value_357 : decode b_m_value 357 = .ok (.iadd, 1) := by decide +kernel
theorem d_m_value_358 : decode b_m_value 358 = .ok (.putfield 94, 3) := by decide +kernel
theorem d_m_value_361 : decode b_m_value 361 = .ok (.lload 5, 2) := by decide +kernel
theorem d_m_value_363 : decode b_m_value 363 = .ok (.lconst 0, 1) := by decide +kernel
theorem d_m_value_364 : decode b_m_value 364 = .ok (.lcmp, 1) := by decide +kernel
theorem d_m_value_365 : decode b_m_value 365 = .ok (.ifCond .lt 14, 3) := by decide +kernel
theorem d_m_value_368 : decode b_m_value 368 = .ok (.aload_n 0, 1) := by decide +kernel
theorem d_m_value_369 : decode b_m_value 369 = .ok (.getfield 94, 3) := by decide +kernel
theorem d_m_value_372 : decode b_m_value 372 = .ok (.aload_n 0, 1) := by decide +kernel
theorem d_m_value_373 : decode b_m_value 373 = .ok (.getfield 97, 3) := by decide +kernel
theorem d_m_value_376 : decode b_m_value 376 = .ok (.if_icmp .ge 10, 3) := by decide +kernel
theorem d_m_value_379 : decode b_m_value 379 = .ok (.aload_n 0, 1) := by decide +kernel
theorem d_m_value_380 : decode b_m_value 380 = .ok (.iconst 1, 1) := by decide +kernel
theorem d_m_value_381 : decode b_m_value 381 = .ok (.putfield 30, 3) := by decide +kernel
theorem d_m_value_384 : decode b_m_value 384 = .ok (.lconst 0, 1) := by decide +kernel
theorem d_m_value_385 : decode b_m_value 385 = .ok (.lreturn, 1) := by decide +kernel
theorem d_m_value_386 : decode b_m_value 386 = .ok (.lload_n 2, 1) := by decide +kernel
theorem d_m_value_387 : decode b_m_value 387 = .ok (.lload 5, 2) := by decide +kernel
theorem d_m_value_389 : decode b_m_value 389 = .ok (.lor, 1) := by decide +kernel
theorem d_m_value_390 : decode b_m_value 390 = .ok (.lreturn, 1) := by decide +kernel
theorem d_m_exponent_0 : decode b_m_exponent 0 = .ok (.aload_n 0, 1) := by decide +kernel
theorem d_m_exponent_1 : decode b_m_exponent 1 = .ok (.bipush 45, 2) := by decide +kernel
theorem d_m_exponent_3 : decode b_m_exponent 3 = .ok (.invokevirtual 110, 3) := by decide +kernel
theorem d_m_exponent_6 : decode b_m_exponent 6 = .ok (.istore_n 1, 1) := by decide +kernel
theorem d_m_exponent_7 : decode b_m_exponent 7 = .ok (.iload_n 1, 1) := by decide +kernel
theorem d_m_exponent_8 : decode b_m_exponent 8 = .ok (.ifCond .ne 12, 3) := by decide +kernel
theorem d_m_exponent_11 : decode b_m_exponent 11 = .ok (.aload_n 0, 1) := by decide +kernel
theorem d_m_exponent_12 : decode b_m_exponent 12 = .ok (.bipush 43, 2) := by decide +kernel
theorem d_m_exponent_14 : decode b_m_exponent 14 = .ok (.invokevirtual 110, 3) := by decide +kernel
theorem d_m_exponent_17 : decode b_m_exponent 17 = .ok (.ifCond .eq 13, 3) := by decide +kernel
theorem d_m_exponent_20 : decode b_m_exponent 20 = .ok (.aload_n 0, 1) := by decide +kernel
theorem d_m_exponent_21 : decode b_m_exponent 21 = .ok (.dup, 1) := by decide +kernel
theorem d_m_exponent_22 : decode b_m_exponent 22 = .ok (.getfield 94, 3) := by decide +kernel
theorem d_m_exponent_25 : decode b_m_exponent 25 = .ok (.iconst 1, 1) := by decide +kernel
theorem d_m_exponent_26 : decode b_m_exponent 26 = .ok (.iadd, 1) := by decide +kernel
theorem d_m_exponent_27 : decode b_m_exponent 27 = .ok (.putfield 94, 3) := by decide +kernel
theorem d_m_exponent_30 : decode b_m_exponent 30 = .ok (.aload_n 0, 1) := by decide +kernel
theorem d_m_exponent_31 : decode b_m_exponent 31 = .ok (.invokevirtual 134, 3) := by decide +kernel
theorem d_m_exponent_34 : decode b_m_exponent 34 = .ok (.ifCond .ne 7, 3) := by decide +kernel
theorem d_m_exponent_37 : decode b_m_exponent 37 = .ok (.ldc2_w 55, 3) := by decide +kernel
theorem d_m_exponent_40 : decode b_m_exponent 40 = .ok (.lreturn, 1) := by decide +kernel
theorem d_m_exponent_41 : decode b_m_exponent 41 = .ok (.lconst 0, 1) := by decide +kernel
theorem d_m_exponent_42 : decode b_m_exponent 42 = .ok (.lstore_n 2, 1) := by decide +kernel
theorem d_m_exponent_43 : decode b_m_exponent 43 = .ok (.aload_n 0, 1) := by decide +kernel
theorem d_m_exponent_44 : decode b_m_exponent 44 = .ok (.invokevirtual 134, 3) := by decide +kernel
theorem d_m_exponent_47 : decode b_m_exponent 47 = .ok (.ifCond .eq 45, 3) := by decide +kernel
theorem d_m_exponent_50 : decode b_m_exponent 50 = .ok (.lload_n 2, 1) := by decide +kernel
theorem d_m_exponent_51 : decode b_m_exponent 51 = .ok (.ldc2_w 140, 3) := by decide +kernel
theorem d_m_exponent_54 : decode b_m_exponent 54 = .ok (.lcmp, 1) := by decide +kernel
theorem d_m_exponent_55 : decode b_m_exponent 55 = .ok (.ifCond .ge 24, 3) := by decide +kernel
theorem d_m_exponent_58 : decode b_m_exponent 58 = .ok (.ldc2_w 86, 3) := by decide +kernel
theorem d_m_exponent_61 : decode b_m_exponent 61 = .ok (.lload_n 2, 1) := by decide +kernel
theorem d_m_exponent_62 : decode b_m_exponent 62 = .ok (.lmul, 1) := by decide +kernel
theorem d_m_exponent_63 : decode b_m_exponent 63 = .ok (.aload_n 0, 1) := by decide +kernel
theorem d_m_exponent_64 : decode b_m_exponent 64 = .ok (.getfield 9, 3) := by decide +kernel
theorem d_m_exponent_67 : decode b_m_exponent 67 = .ok (.aload_n 0, 1) := by decide +kernel
theorem d_m_exponent_68 : decode b_m_exponent 68 = .ok (.getfield 94, 3) := by decide +kernel
theorem d_m_exponent_71 : decode b_m_exponent 71 = .ok (.baload, 1) := by decide +kernel
theorem d_m_exponent_72 : decode b_m_exponent 72 = .ok (.i2l, 1) := by decide +kernel
theorem d_m_exponent_73 : decode b_m_exponent 73 = .ok (.ladd, 1) := by decide +kernel
theorem d_m_exponent_74 : decode b_m_exponent 74 = .ok (.ldc2_w 142, 3) := by decide +kernel
theorem d_m_exponent_77 : decode b_m_exponent 77 = .ok (.lsub, 1) := by decide +kernel
theorem d_m_exponent_78 : decode b_m_exponent 78 = .ok (.lstore_n 2, 1) := by decide +kernel
theorem d_m_exponent_79 : decode b_m_exponent 79 = .ok (.aload_n 0, 1) := by decide +kernel
theorem d_m_exponent_80 : decode b_m_exponent 80 = .ok (.dup, 1) := by decide +kernel
theorem d_m_exponent_81 : decode b_m_exponent 81 = .ok (.getfield 94, 3) := by decide +kernel
theorem d_m_exponent_84 : decode b_m_exponent 84 = .ok (.iconst 1, 1) := by decide +kernel
theorem d_m_exponent_85 : decode b_m_exponent 85 = .ok (.iadd, 1) := by decide +kernel
theorem d_m_exponent_86 : decode b_m_exponent 86 = .ok (.putfield 94, 3) := by decide +kernel
theorem d_m_exponent_89 : decode b_m_exponent 89 = .ok (.goto (-46), 3) := by decide +kernel
theorem d_m_exponent_92 : decode b_m_exponent 92 = .ok (.iload_n 1, 1) := by decide +kernel
theorem d_m_exponent_93 : decode b_m_exponent 93 = .ok (.ifCond .eq 8, 3) := by decide +kernel
theorem d_m_exponent_96 : decode b_m_exponent 96 = .ok (.lload_n 2, 1) := by decide +kernel
theorem d_m_exponent_97 : decode b_m_exponent 97 = .ok (.lneg, 1) := by decide +kernel
theorem d_m_exponent_98 : decode b_m_exponent 98 = .ok (.goto 4, 3) := by decide +kernel
theorem d_m_exponent_101 : decode b_m_exponent 101 = .ok (.lload_n 2, 1) := by decide +kernel
theorem d_m_exponent_102 : decode b_m_exponent 102 = .ok (.lreturn, 1) := by decide +kernel
theorem d_m_decimal_0 : decode b_m_decimal 0 = .ok (.aload_n 0, 1) := by decide +kernel
theorem d_m_decimal_1 : decode b_m_decimal 1 = .ok (.iconst 0, 1) := by decide +kernel
theorem d_m_decimal_2 : decode b_m_decimal 2 = .ok (.putfield 144, 3) := by decide +kernel
theorem d_m_decimal_5 : decode b_m_decimal 5 = .ok (.aload_n 0, 1) := by decide +kernel
theorem d_m_decimal_6 : decode b_m_decimal 6 = .ok (.lconst 0, 1) := by decide +kernel
theorem d_m_decimal_7 : decode b_m_decimal 7 = .ok (.putfield 147, 3) := by decide +kernel
theorem d_m_decimal_10 : decode b_m_decimal 10 = .ok (.iconst 0, 1) := by decide +kernel
theorem d_m_decimal_11 : decode b_m_decimal 11 = .ok (.istore_n 1, 1) := by decide +kernel
theorem d_m_decimal_12 : decode b_m_decimal 12 = .ok (.iconst 0, 1) := by decide +kernel
theorem d_m_decimal_13 : decode b_m_decimal 13 = .ok (.istore_n 2, 1) := by decide +kernel
theorem d_m_decimal_14 : decode b_m_decimal 14 = .ok (.aload_n 0, 1) := by decide +kernel
theorem d_m_decimal_15 : decode b_m_decimal 15 = .ok (.invokevirtual 134, 3) := by decide +kernel
theorem d_m_decimal_18 : decode b_m_decimal 18 = .ok (.ifCond .ne 16, 3) := by decide +kernel
theorem d_m_decimal_21 : decode b_m_decimal 21 = .ok (.aload_n 0, 1) := by decide +kernel
theorem d_m_decimal_22 : decode b_m_decimal 22 = .ok (.bipush 46, 2) := by decide +kernel
theorem d_m_decimal_24 : decode b_m_decimal 24 = .ok (.invokevirtual 110, 3) := by decide +kernel
theorem d_m_decimal_27 : decode b_m_decimal 27 = .ok (.ifCond .eq 121, 3) := by decide +kernel
theorem d_m_decimal_30 : decode b_m_decimal 30 = .ok (.iload_n 2, 1) := by decide +kernel
theorem d_m_decimal_31 : decode b_m_decimal 31 = .ok (.ifCond .ne 117, 3) := by decide +kernel
theorem d_m_decimal_34 : decode b_m_decimal 34 = .ok (.aload_n 0, 1) := by decide +kernel
theorem d_m_decimal_35 : decode b_m_decimal 35 = .ok (.bipush 46, 2) := by decide +kernel
theorem d_m_decimal_37 : decode b_m_decimal 37 = .ok (.invokevirtual 110, 3) := by decide +kernel
theorem d_m_decimal_40 : decode b_m_decimal 40 = .ok (.ifCond .eq 8, 3) := by decide +kernel
theorem d_m_decimal_43 : decode b_m_decimal 43 = .ok (.iconst 1, 1) := by decide +kernel
theorem d_m_decimal_44 : decode b_m_decimal 44 = .ok (.istore_n 2, 1) := by decide +kernel
theorem d_m_decimal_45 : decode b_m_decimal 45 = .ok (.goto 90, 3) := by decide +kernel
theorem d_m_decimal_48 : decode b_m_decimal 48 = .ok (.iinc 1 1, 3) := by decide +kernel
theorem d_m_decimal_51 : decode b_m_decimal 51 = .ok (.aload_n 0, 1) := by decide +kernel
theorem d_m_decimal_52 : decode b_m_decimal 52 = .ok (.getfield 144, 3) := by decide +kernel
theorem d_m_decimal_55 : decode b_m_decimal 55 = .ok (.ifCond .gt 17, 3) := by decide +kernel
theorem d_m_decimal_58 : decode b_m_decimal 58 = .ok (.aload_n 0, 1) := by decide +kernel
theorem d_m_decimal_59 : decode b_m_decimal 59 = .ok (.getfield 9, 3) := by decide +kernel
theorem d_m_decimal_62 : decode b_m_decimal 62 = .ok (.aload_n 0, 1) := by decide +kernel
theorem d_m_decimal_63 : decode b_m_decimal 63 = .ok (.getfield 94, 3) := by decide +kernel
theorem d_m_decimal_66 : decode b_m_decimal 66 = .ok (.baload, 1) := by decide +kernel
theorem d_m_decimal_67 : decode b_m_decimal 67 = .ok (.bipush 48, 2) := by decide +kernel
theorem d_m_decimal_69 : decode b_m_decimal 69 = .ok (.if_icmp .eq 52, 3) := by decide +kernel
theorem d_m_decimal_72 : decode b_m_decimal 72 = .ok (.aload_n 0, 1) := by decide +kernel
theorem d_m_decimal_73 : decode b_m_decimal 73 = .ok (.getfield 27, 3) := by decide +kernel
theorem d_m_decimal_76 : decode b_m_decimal 76 = .ok (.aload_n 0, 1) := by decide +kernel
theorem d_m_decimal_77 : decode b_m_decimal 77 = .ok (.getfield 144, 3) := by decide +kernel
theorem d_m_decimal_80 : decode b_m_decimal 80 = .ok (.aload_n 0, 1) := by decide +kernel
theorem d_m_decimal_81 : decode b_m_decimal 81 = .ok (.getfield 9, 3) := by decide +kernel
theorem d_m_decimal_84 : decode b_m_decimal 84 = .ok (.aload_n 0, 1) := by decide +kernel
theorem d_m_decimal_85 : decode b_m_decimal 85 = .ok (.getfield 94, 3) := by decide +kernel
theorem d_m_decimal_88 : decode b_m_decimal 88 = .ok (.baload, 1) := by decide +kernel
theorem d_m_decimal_89 : decode b_m_decimal 89 = .ok (.bipush 48, 2) := by decide +kernel
theorem d_m_decimal_91 : decode b_m_decimal 91 = .ok (.isub, 1) := by decide +kernel
theorem d_m_decimal_92 : decode b_m_decimal 92 = .ok (.i2b, 1) := by decide +kernel
theorem d_m_decimal_93 : decode b_m_decimal 93 = .ok (.bastore, 1) := by decide +kernel
theorem d_m_decimal_94 : decode b_m_decimal 94 = .ok (.aload_n 0, 1) := by decide +kernel
theorem d_m_decimal_95 : decode b_m_decimal 95 = .ok (.dup, 1) := by decide +kernel
theorem d_m_decimal_96 : decode b_m_decimal 96 = .ok (.getfield 144, 3) := by decide +kernel
theorem d_m_decimal_99 : decode b_m_decimal 99 = .ok (.iconst 1, 1) := by decide +kernel
theorem d_m_decimal_100 : decode b_m_decimal 100 = .ok (.iadd, 1) := by decide +kernel
theorem d_m_decimal_101 : decode b_m_decimal 101 = .ok (.putfield 144, 3) := by decide +kernel
theorem d_m_decimal_104 : decode b_m_decimal 104 = .ok (.iload_n 2, 1) := by decide +kernel
theorem d_m_decimal_105 : decode b_m_decimal 105 = .ok (.ifCond .ne 30, 3) := by decide +kernel
theorem d_m_decimal_108 : decode b_m_decimal 108 = .ok (.aload_n 0, 1) := by decide +kernel
theorem d_m_decimal_109 : decode b_m_decimal 109 = .ok (.dup, 1) := by decide +kernel
theorem d_m_decimal_110 : decode b_m_decimal 110 = .ok (.getfield 147, 3) := by decide +kernel
theorem d_m_decimal_113 : decode b_m_decimal 113 = .ok (.lconst 1, 1) := by decide +kernel
theorem d_m_decimal_114 : decode b_m_decimal 114 = .ok (.ladd, 1) := by decide +kernel
theorem d_m_decimal_115 : decode b_m_decimal 115 = .ok (.putfield 147, 3) := by decide +kernel
theorem d_m_decimal_118 : decode b_m_decimal 118 = .ok (.goto 17, 3) := by decide +kernel
theorem d_m_decimal_121 : decode b_m_decimal 121 = .ok (.iload_n 2, 1) := by decide +kernel
theorem d_m_decimal_122 : decode b_m_decimal 122 = .ok (.ifCond .eq 13, 3) := by decide +kernel
theorem d_m_decimal_125 : decode b_m_decimal 125 = .ok (.aload_n 0, 1) := by decide +kernel
theorem d_m_decimal_126 : decode b_m_decimal 126 = .ok (.dup, 1) := by decide +kernel
theorem d_m_decimal_127 : decode b_m_decimal 127 = .ok (.getfield 147, 3) := by decide +kernel
theorem d_m_decimal_130 : decode b_m_decimal 130 = .ok (.lconst 1, 1) := by decide +kernel
theorem d_m_decimal_131 : decode b_m_decimal 131 = .ok (.lsub, 1) := by decide +kernel
theorem d_m_decimal_132 : decode b_m_decimal 132 = .ok (.putfield 147, 3) := by decide +kernel
theorem d_m_decimal_135 : decode b_m_decimal 135 = .ok (.aload_n 0, 1) := by decide +kernel
theorem d_m_decimal_136 : decode b_m_decimal 136 = .ok (.dup, 1) := by decide +kernel
theorem d_m_decimal_137 : decode b_m_decimal 137 = .ok (.getfield 94, 3) := by decide +kernel
theorem d_m_decimal_140 : decode b_m_decimal 140 = .ok (.iconst 1, 1) := by decide +kernel
theorem d_m_decimal_141 : decode b_m_decimal 141 = .ok (.iadd, 1) := by decide +kernel
theorem d_m_decimal_142 : decode b_m_decimal 142 = .ok (.putfield 94, 3) := by decide +kernel
theorem d_m_decimal_145 : decode b_m_decimal 145 = .ok (.goto (-131), 3) := by decide +kernel
theorem d_m_decimal_148 : decode b_m_decimal 148 = .ok (.iload_n 1, 1) := by decide +kernel
theorem d_m_decimal_149 : decode b_m_decimal 149 = .ok (.ifCond .ne 7, 3) := by decide +kernel
theorem d_m_decimal_152 : decode b_m_decimal 152 = .ok (.ldc2_w 151, 3) := by decide +kernel
theorem d_m_decimal_155 : decode b_m_decimal 155 = .ok (.lreturn, 1) := by decide +kernel
theorem d_m_decimal_156 : decode b_m_decimal 156 = .ok (.aload_n 0, 1) := by decide +kernel
theorem d_m_decimal_157 : decode b_m_decimal 157 = .ok (.bipush 101, 2) := by decide +kernel
theorem d_m_decimal_159 : decode b_m_decimal 159 = .ok (.invokevirtual 110, 3) := by decide +kernel
theorem d_m_decimal_162 : decode b_m_decimal 162 = .ok (.ifCond .ne 12, 3) := by decide +kernel
theorem d_m_decimal_165 : decode b_m_decimal 165 = .ok (.aload_n 0, 1) := by decide +kernel
theorem d_m_decimal_166 : decode b_m_decimal 166 = .ok (.bipush 69, 2) := by decide +kernel
theorem d_m_decimal_168 : decode b_m_decimal 168 = .ok (.invokevirtual 110, 3) := by decide +kernel
theorem d_m_decimal_171 : decode b_m_decimal 171 = .ok (.ifCond .eq 40, 3) := by decide +kernel
theorem d_m_decimal_174 : decode b_m_decimal 174 = .ok (.aload_n 0, 1) := by decide +kernel
theorem d_m_decimal_175 : decode b_m_decimal 175 = .ok (.dup, 1) := by decide +kernel
theorem d_m_decimal_176 : decode b_m_decimal 176 = .ok (.getfield 94, 3) := by decide +kernel
theorem d_m_decimal_179 : decode b_m_decimal 179 = .ok (.iconst 1, 1) := by decide +kernel
theorem d_m_decimal_180 : decode b_m_decimal 180 = .ok (.iadd, 1) := by decide +kernel
theorem d_m_decimal_181 : decode b_m_decimal 181 = .ok (.putfield 94, 3) := by decide +kernel
theorem d_m_decimal_184 : decode b_m_decimal 184 = .ok (.aload_n 0, 1) := by decide +kernel
theorem d_m_decimal_185 : decode b_m_decimal 185 = .ok (.invokevirtual 153, 3) := by decide +kernel
theorem d_m_decimal_188 : decode b_m_decimal 188 = .ok (.lstore_n 3, 1) := by decide +kernel
theorem d_m_decimal_189 : decode b_m_decimal 189 = .ok (.lload_n 3, 1) := by decide +kernel
theorem d_m_decimal_190 : decode b_m_decimal 190 = .ok (.ldc2_w 55, 3) := by decide +kernel
theorem d_m_decimal_193 : decode b_m_decimal 193 = .ok (.lcmp, 1) := by decide +kernel
theorem d_m_decimal_194 : decode b_m_decimal 194 = .ok (.ifCond .ne 7, 3) := by decide +kernel
theorem d_m_decimal_197 : decode b_m_decimal 197 = .ok (.ldc2_w 151, 3) := by decide +kernel
theorem d_m_decimal_200 : decode b_m_decimal 200 = .ok (.lreturn, 1) := by decide +kernel
theorem d_m_decimal_201 : decode b_m_decimal 201 = .ok (.aload_n 0, 1) := by decide +kernel
theorem d_m_decimal_202 : decode b_m_decimal 202 = .ok (.dup, 1) := by decide +kernel
theorem d_m_decimal_203 : decode b_m_decimal 203 = .ok (.getfield 147, 3) := by decide +kernel
theorem d_m_decimal_206 : decode b_m_decimal 206 = .ok (.lload_n 3, 1) := by decide +kernel
theorem d_m_decimal_207 : decode b_m_decimal 207 = .ok (.ladd, 1) := by decide +kernel
theorem d_m_decimal_208 : decode b_m_decimal 208 = .ok (.putfield 147, 3) := by decide +kernel
theorem d_m_decimal_211 : decode b_m_decimal 211 = .ok (.aload_n 0, 1) := by decide +kernel
theorem d_m_decimal_212 : decode b_m_decimal 212 = .ok (.getfield 144, 3) := by decide +kernel
theorem d_m_decimal_215 : decode b_m_decimal 215 = .ok (.ifCond .le 30, 3) := by decide +kernel
theorem d_m_decimal_218 : decode b_m_decimal 218 = .ok (.aload_n 0, 1) := by decide +kernel
theorem d_m_decimal_219 : decode b_m_decimal 219 = .ok (.getfield 27, 3) := by decide +kernel
theorem d_m_decimal_222 : decode b_m_decimal 222 = .ok (.aload_n 0, 1) := by decide +kernel
theorem d_m_decimal_223 : decode b_m_decimal 223 = .ok (.getfield 144, 3) := by decide +kernel
theorem d_m_decimal_226 : decode b_m_decimal 226 = .ok (.iconst 1, 1) := by decide +kernel
theorem d_m_decimal_227 : decode b_m_decimal 227 = .ok (.isub, 1) := by decide +kernel
theorem d_m_decimal_228 : decode b_m_decimal 228 = .ok (.baload, 1) := by decide +kernel
theorem d_m_decimal_229 : decode b_m_decimal 229 = .ok (.ifCond .ne 16, 3) := by decide +kernel
theorem d_m_decimal_232 : decode b_m_decimal 232 = .ok (.aload_n 0, 1) := by decide +kernel
theorem d_m_decimal_233 : decode b_m_decimal 233 = .ok (.dup, 1) := by decide +kernel
theorem d_m_decimal_234 : decode b_m_decimal 234 = .ok (.getfield 144, 3) := by decide +kernel
theorem d_m_decimal_237 : decode b_m_decimal 237 = .ok (.iconst 1, 1) := by decide +kernel
theorem d_m_decimal_238 : decode b_m_decimal 238 = .ok (.isub, 1) := by decide +kernel
theorem d_m_decimal_239 : decode b_m_decimal 239 = .ok (.putfield 144, 3) := by decide +kernel
theorem d_m_decimal_242 : decode b_m_decimal 242 = .ok (.goto (-31), 3) := by decide +kernel
theorem d_m_decimal_245 : decode b_m_decimal 245 = .ok (.aload_n 0, 1) := by decide +kernel
theorem d_m_decimal_246 : decode b_m_decimal 246 = .ok (.getfield 144, 3) := by decide +kernel
theorem d_m_decimal_249 : decode b_m_decimal 249 = .ok (.ifCond .ne 7, 3) := by decide +kernel
theorem d_m_decimal_252 : decode b_m_decimal 252 = .ok (.lconst 0, 1) := by decide +kernel
theorem d_m_decimal_253 : decode b_m_decimal 253 = .ok (.goto 7, 3) := by decide +kernel
theorem d_m_decimal_256 : decode b_m_decimal 256 = .ok (.aload_n 0, 1) := by decide +kernel
theorem d_m_decimal_257 : decode b_m_decimal 257 = .ok (.invokevirtual 156, 3) := by decide +kernel
theorem d_m_decimal_260 : decode b_m_decimal 260 = .ok (.lreturn, 1) := by decide +kernel
theorem d_m_nearest_0 : decode b_m_nearest 0 = .ok (.aload_n 0, 1) := by decide +kernel
theorem d_m_nearest_1 : decode b_m_nearest 1 = .ok (.getfield 147, 3) := by decide +kernel
theorem d_m_nearest_4 : decode b_m_nearest 4 = .ok (.ldc2_w 159, 3) := by decide +kernel
theorem d_m_nearest_7 : decode b_m_nearest 7 = .ok (.lcmp, 1) := by decide +kernel
theorem d_m_nearest_8 : decode b_m_nearest 8 = .ok (.ifCond .le 8, 3) := by decide +kernel
theorem d_m_nearest_11 : decode b_m_nearest 11 = .ok (.aload_n 0, 1) := by decide +kernel
theorem d_m_nearest_12 : decode b_m_nearest 12 = .ok (.invokevirtual 59, 3) := by decide +kernel
theorem d_m_nearest_15 : decode b_m_nearest 15 = .ok (.lreturn, 1) := by decide +kernel
theorem d_m_nearest_16 : decode b_m_nearest 16 = .ok (.aload_n 0, 1) := by decide +kernel
theorem d_m_nearest_17 : decode b_m_nearest 17 = .ok (.getfield 147, 3) := by decide +kernel
theorem d_m_nearest_20 : decode b_m_nearest 20 = .ok (.ldc2_w 161, 3) := by decide +kernel
theorem d_m_nearest_23 : decode b_m_nearest 23 = .ok (.lcmp, 1) := by decide +kernel
theorem d_m_nearest_24 : decode b_m_nearest 24 = .ok (.ifCond .ge 5, 3) := by decide +kernel
theorem d_m_nearest_27 : decode b_m_nearest 27 = .ok (.lconst 0, 1) := by decide +kernel
theorem d_m_nearest_28 : decode b_m_nearest 28 = .ok (.lreturn, 1) := by decide +kernel
theorem d_m_nearest_29 : decode b_m_nearest 29 = .ok (.lconst 0, 1) := by decide +kernel
theorem d_m_nearest_30 : decode b_m_nearest 30 = .ok (.lstore_n 1, 1) := by decide +kernel
theorem d_m_nearest_31 : decode b_m_nearest 31 = .ok (.aload_n 0, 1) := by decide +kernel
theorem d_m_nearest_32 : decode b_m_nearest 32 = .ok (.invokevirtual 59, 3) := by decide +kernel
theorem d_m_nearest_35 : decode b_m_nearest 35 = .ok (.lconst 1, 1) := by decide +kernel
theorem d_m_nearest_36 : decode b_m_nearest 36 = .ok (.lsub, 1) := by decide +kernel
theorem d_m_nearest_37 : decode b_m_nearest 37 = .ok (.lstore_n 3, 1) := by decide +kernel
theorem d_m_nearest_38 : decode b_m_nearest 38 = .ok (.lload_n 1, 1) := by decide +kernel
theorem d_m_nearest_39 : decode b_m_nearest 39 = .ok (.lload_n 3, 1) := by decide +kernel
theorem d_m_nearest_40 : decode b_m_nearest 40 = .ok (.lcmp, 1) := by decide +kernel
theorem d_m_nearest_41 : decode b_m_nearest 41 = .ok (.ifCond .ge 72, 3) := by decide +kernel
theorem d_m_nearest_44 : decode b_m_nearest 44 = .ok (.lload_n 1, 1) := by decide +kernel
theorem d_m_nearest_45 : decode b_m_nearest 45 = .ok (.lload_n 3, 1) := by decide +kernel
theorem d_m_nearest_46 : decode b_m_nearest 46 = .ok (.lload_n 1, 1) := by decide +kernel
theorem d_m_nearest_47 : decode b_m_nearest 47 = .ok (.lsub, 1) := by decide +kernel
theorem d_m_nearest_48 : decode b_m_nearest 48 = .ok (.lconst 1, 1) := by decide +kernel
theorem d_m_nearest_49 : decode b_m_nearest 49 = .ok (.ladd, 1) := by decide +kernel
theorem d_m_nearest_50 : decode b_m_nearest 50 = .ok (.ldc2_w 163, 3) := by decide +kernel
theorem d_m_nearest_53 : decode b_m_nearest 53 = .ok (.ldiv, 1) := by decide +kernel
theorem d_m_nearest_54 : decode b_m_nearest 54 = .ok (.ladd, 1) := by decide +kernel
theorem d_m_nearest_55 : decode b_m_nearest 55 = .ok (.lstore 5, 2) := by decide +kernel
theorem d_m_nearest_57 : decode b_m_nearest 57 = .ok (.aload_n 0, 1) := by decide +kernel
theorem d_m_nearest_58 : decode b_m_nearest 58 = .ok (.aload_n 0, 1) := by decide +kernel
theorem d_m_nearest_59 : decode b_m_nearest 59 = .ok (.lload 5, 2) := by decide +kernel
theorem d_m_nearest_61 : decode b_m_nearest 61 = .ok (.invokevirtual 165, 3) := by decide +kernel
theorem d_m_nearest_64 : decode b_m_nearest 64 = .ok (.aload_n 0, 1) := by decide +kernel
theorem d_m_nearest_65 : decode b_m_nearest 65 = .ok (.lload 5, 2) := by decide +kernel
theorem d_m_nearest_67 : decode b_m_nearest 67 = .ok (.invokevirtual 169, 3) := by decide +kernel
theorem d_m_nearest_70 : decode b_m_nearest 70 = .ok (.aload_n 0, 1) := by decide +kernel
theorem d_m_nearest_71 : decode b_m_nearest 71 = .ok (.getfield 20, 3) := by decide +kernel
theorem d_m_nearest_74 : decode b_m_nearest 74 = .ok (.invokevirtual 173, 3) := by decide +kernel
theorem d_m_nearest_77 : decode b_m_nearest 77 = .ok (.aload_n 0, 1) := by decide +kernel
theorem d_m_nearest_78 : decode b_m_nearest 78 = .ok (.getfield 27, 3) := by decide +kernel
theorem d_m_nearest_81 : decode b_m_nearest 81 = .ok (.aload_n 0, 1) := by decide +kernel
theorem d_m_nearest_82 : decode b_m_nearest 82 = .ok (.getfield 144, 3) := by decide +kernel
theorem d_m_nearest_85 : decode b_m_nearest 85 = .ok (.aload_n 0, 1) := by decide +kernel
theorem d_m_nearest_86 : decode b_m_nearest 86 = .ok (.getfield 147, 3) := by decide +kernel
theorem d_m_nearest_89 : decode b_m_nearest 89 = .ok (.aload_n 0, 1) := by decide +kernel
theorem d_m_nearest_90 : decode b_m_nearest 90 = .ok (.getfield 20, 3) := by decide +kernel
theorem d_m_nearest_93 : decode b_m_nearest 93 = .ok (.invokestatic 177, 3) := by decide +kernel
theorem d_m_nearest_96 : decode b_m_nearest 96 = .ok (.ifCond .lt 9, 3) := by decide +kernel
theorem d_m_nearest_99 : decode b_m_nearest 99 = .ok (.lload 5, 2) := by decide +kernel
theorem d_m_nearest_101 : decode b_m_nearest 101 = .ok (.lstore_n 1, 1) := by decide +kernel
theorem d_m_nearest_102 : decode b_m_nearest 102 = .ok (.goto 8, 3) := by decide +kernel
theorem d_m_nearest_105 : decode b_m_nearest 105 = .ok (.lload 5, 2) := by decide +kernel
theorem d_m_nearest_107 : decode b_m_nearest 107 = .ok (.lconst 1, 1) := by decide +kernel
theorem d_m_nearest_108 : decode b_m_nearest 108 = .ok (.lsub, 1) := by decide +kernel
theorem d_m_nearest_109 : decode b_m_nearest 109 = .ok (.lstore_n 3, 1) := by decide +kernel
theorem d_m_nearest_110 : decode b_m_nearest 110 = .ok (.goto (-72), 3) := by decide +kernel
theorem d_m_nearest_113 : decode b_m_nearest 113 = .ok (.aload_n 0, 1) := by decide +kernel
theorem d_m_nearest_114 : decode b_m_nearest 114 = .ok (.ldc2_w 163, 3) := by decide +kernel
theorem d_m_nearest_117 : decode b_m_nearest 117 = .ok (.aload_n 0, 1) := by decide +kernel
theorem d_m_nearest_118 : decode b_m_nearest 118 = .ok (.lload_n 1, 1) := by decide +kernel
theorem d_m_nearest_119 : decode b_m_nearest 119 = .ok (.invokevirtual 165, 3) := by decide +kernel
theorem d_m_nearest_122 : decode b_m_nearest 122 = .ok (.lmul, 1) := by decide +kernel
theorem d_m_nearest_123 : decode b_m_nearest 123 = .ok (.lconst 1, 1) := by decide +kernel
theorem d_m_nearest_124 : decode b_m_nearest 124 = .ok (.ladd, 1) := by decide +kernel
theorem d_m_nearest_125 : decode b_m_nearest 125 = .ok (.aload_n 0, 1) := by decide +kernel
theorem d_m_nearest_126 : decode b_m_nearest 126 = .ok (.lload_n 1, 1) := by decide +kernel
theorem d_m_nearest_127 : decode b_m_nearest 127 = .ok (.invokevirtual 169, 3) := by decide +kernel
theorem d_m_nearest_130 : decode b_m_nearest 130 = .ok (.iconst 1, 1) := by decide +kernel
theorem d_m_nearest_131 : decode b_m_nearest 131 = .ok (.isub, 1) := by decide +kernel
theorem d_m_nearest_132 : decode b_m_nearest 132 = .ok (.aload_n 0, 1) := by decide +kernel
theorem d_m_nearest_133 : decode b_m_nearest 133 = .ok (.getfield 24, 3) := by decide +kernel
theorem d_m_nearest_136 : decode b_m_nearest 136 = .ok (.invokevirtual 173, 3) := by decide +kernel
theorem d_m_nearest_139 : decode b_m_nearest 139 = .ok (.aload_n 0, 1) := by decide +kernel
theorem d_m_nearest_140 : decode b_m_nearest 140 = .ok (.getfield 27, 3) := by decide +kernel
theorem d_m_nearest_143 : decode b_m_nearest 143 = .ok (.aload_n 0, 1) := by decide +kernel
theorem d_m_nearest_144 : decode b_m_nearest 144 = .ok (.getfield 144, 3) := by decide +kernel
theorem d_m_nearest_147 : decode b_m_nearest 147 = .ok (.aload_n 0, 1) := by decide +kernel
theorem d_m_nearest_148 : decode b_m_nearest 148 = .ok (.getfield 147, 3) := by decide +kernel
theorem d_m_nearest_151 : decode b_m_nearest 151 = .ok (.aload_n 0, 1) := by decide +kernel
theorem d_m_nearest_152 : decode b_m_nearest 152 = .ok (.getfield 24, 3) := by decide +kernel
theorem d_m_nearest_155 : decode b_m_nearest 155 = .ok (.invokestatic 177, 3) := by decide +kernel
theorem d_m_nearest_158 : decode b_m_nearest 158 = .ok (.istore 5, 2) := by decide +kernel
theorem d_m_nearest_160 : decode b_m_nearest 160 = .ok (.iload 5, 2) := by decide +kernel
theorem d_m_nearest_162 : decode b_m_nearest 162 = .ok (.ifCond .lt 16, 3) := by decide +kernel
theorem d_m_nearest_165 : decode b_m_nearest 165 = .ok (.iload 5, 2) := by decide +kernel
theorem d_m_nearest_167 : decode b_m_nearest 167 = .ok (.ifCond .ne 15, 3) := by decide +kernel
theorem d_m_nearest_170 : decode b_m_nearest 170 = .ok (.lload_n 1, 1) := by decide +kernel
theorem d_m_nearest_171 : decode b_m_nearest 171 = .ok (.lconst 1, 1) := by decide +kernel
theorem d_m_nearest_172 : decode b_m_nearest 172 = .ok (.land, 1) := by decide +kernel
theorem d_m_nearest_173 : decode b_m_nearest 173 = .ok (.lconst 0, 1) := by decide +kernel
theorem d_m_nearest_174 : decode b_m_nearest 174 = .ok (.lcmp, 1) := by decide +kernel
theorem d_m_nearest_175 : decode b_m_nearest 175 = .ok (.ifCond .ne 7, 3) := by decide +kernel
theorem d_m_nearest_178 : decode b_m_nearest 178 = .ok (.lload_n 1, 1) := by decide +kernel
theorem d_m_nearest_179 : decode b_m_nearest 179 = .ok (.goto 6, 3) := by decide +kernel
theorem d_m_nearest_182 : decode b_m_nearest 182 = .ok (.lload_n 1, 1) := by decide +kernel
theorem d_m_nearest_183 : decode b_m_nearest 183 = .ok (.lconst 1, 1) := by decide +kernel
theorem d_m_nearest_184 : decode b_m_nearest 184 = .ok (.ladd, 1) := by decide +kernel
theorem d_m_nearest_185 : decode b_m_nearest 185 = .ok (.lreturn, 1) := by decide +kernel
theorem d_m_hexadecimal_0 : decode b_m_hexadecimal 0 = .ok (.aload_n 0, 1) := by decide +kernel
theorem d_m_hexadecimal_1 : decode b_m_hexadecimal 1 = .ok (.dup, 1) := by decide +kernel
theorem d_m_hexadecimal_2 : decode b_m_hexadecimal 2 = .ok (.getfield 94, 3) := by decide +kernel
theorem d_m_hexadecimal_5 : decode b_m_hexadecimal 5 = .ok (.iconst 2, 1) := by decide +kernel
theorem d_m_hexadecimal_6 : decode b_m_hexadecimal 6 = .ok (.iadd, 1) := by decide +kernel
theorem d_m_hexadecimal_7 : decode b_m_hexadecimal 7 = .ok (.putfield 94, 3) := by decide +kernel
theorem d_m_hexadecimal_10 : decode b_m_hexadecimal 10 = .ok (.lconst 0, 1) := by decide +kernel
theorem d_m_hexadecimal_11 : decode b_m_hexadecimal 11 = .ok (.lstore_n 1, 1) := by decide +kernel
theorem d_m_hexadecimal_12 : decode b_m_hexadecimal 12 = .ok (.lconst 0, 1) := by decide +kernel
theorem d_m_hexadecimal_13 : decode b_m_hexadecimal 13 = .ok (.lstore_n 3, 1) := by decide +kernel
theorem d_m_hexadecimal_14 : decode b_m_hexadecimal 14 = .ok (.iconst 0, 1) := by decide +kernel
theorem d_m_hexadecimal_15 : decode b_m_hexadecimal 15 = .ok (.istore 5, 2) := by decide +kernel
theorem d_m_hexadecimal_17 : decode b_m_hexadecimal 17 = .ok (.iconst 0, 1) := by decide +kernel
theorem d_m_hexadecimal_18 : decode b_m_hexadecimal 18 = .ok (.istore 6, 2) := by decide +kernel
theorem d_m_hexadecimal_20 : decode b_m_hexadecimal 20 = .ok (.iconst 0, 1) := by decide +kernel
theorem d_m_hexadecimal_21 : decode b_m_hexadecimal 21 = .ok (.istore 7, 2) := by decide +kernel
theorem d_m_hexadecimal_23 : decode b_m_hexadecimal 23 = .ok (.aload_n 0, 1) := by decide +kernel
theorem d_m_hexadecimal_24 : decode b_m_hexadecimal 24 = .ok (.invokevirtual 181, 3) := by decide +kernel
theorem d_m_hexadecimal_27 : decode b_m_hexadecimal 27 = .ok (.ifCond .ge 17, 3) := by decide +kernel
theorem d_m_hexadecimal_30 : decode b_m_hexadecimal 30 = .ok (.aload_n 0, 1) := by decide +kernel
theorem d_m_hexadecimal_31 : decode b_m_hexadecimal 31 = .ok (.bipush 46, 2) := by decide +kernel
theorem d_m_hexadecimal_33 : decode b_m_hexadecimal 33 = .ok (.invokevirtual 110, 3) := by decide +kernel
theorem d_m_hexadecimal_36 : decode b_m_hexadecimal 36 = .ok (.ifCond .eq 105, 3) := by decide +kernel
theorem d_m_hexadecimal_39 : decode b_m_hexadecimal 39 = .ok (.iload 6, 2) := by decide +kernel
theorem d_m_hexadecimal_41 : decode b_m_hexadecimal 41 = .ok (.ifCond .ne 100, 3) := by decide +kernel
theorem d_m_hexadecimal_44 : decode b_m_hexadecimal 44 = .ok (.aload_n 0, 1) := by decide +kernel
theorem d_m_hexadecimal_45 : decode b_m_hexadecimal 45 = .ok (.bipush 46, 2) := by decide +kernel
theorem d_m_hexadecimal_47 : decode b_m_hexadecimal 47 = .ok (.invokevirtual 110, 3) := by decide +kernel
theorem d_m_hexadecimal_50 : decode b_m_hexadecimal 50 = .ok (.ifCond .eq 19, 3) := by decide +kernel
theorem d_m_hexadecimal_53 : decode b_m_hexadecimal 53 = .ok (.iconst 1, 1) := by decide +kernel
theorem d_m_hexadecimal_54 : decode b_m_hexadecimal 54 = .ok (.istore 6, 2) := by decide +kernel
theorem d_m_hexadecimal_56 : decode b_m_hexadecimal 56 = .ok (.aload_n 0, 1) := by decide +kernel
theorem d_m_hexadecimal_57 : decode b_m_hexadecimal 57 = .ok (.dup, 1) := by decide +kernel
theorem d_m_hexadecimal_58 : decode b_m_hexadecimal 58 = .ok (.getfield 94, 3) := by decide +kernel
theorem d_m_hexadecimal_61 : decode b_m_hexadecimal 61 = .ok (.iconst 1, 1) := by decide +kernel
theorem d_m_hexadecimal_62 : decode b_m_hexadecimal 62 = .ok (.iadd, 1) := by decide +kernel
theorem d_m_hexadecimal_63 : decode b_m_hexadecimal 63 = .ok (.putfield 94, 3) := by decide +kernel
theorem d_m_hexadecimal_66 : decode b_m_hexadecimal 66 = .ok (.goto (-43), 3) := by decide +kernel
theorem d_m_hexadecimal_69 : decode b_m_hexadecimal 69 = .ok (.aload_n 0, 1) := by decide +kernel
theorem d_m_hexadecimal_70 : decode b_m_hexadecimal 70 = .ok (.invokevirtual 181, 3) := by decide +kernel
theorem d_m_hexadecimal_73 : decode b_m_hexadecimal 73 = .ok (.istore 8, 2) := by decide +kernel
theorem d_m_hexadecimal_75 : decode b_m_hexadecimal 75 = .ok (.iinc 7 1, 3) := by decide +kernel
theorem d_m_hexadecimal_78 : decode b_m_hexadecimal 78 = .ok (.aload_n 0, 1) := by decide +kernel
theorem d_m_hexadecimal_79 : decode b_m_hexadecimal 79 = .ok (.dup, 1) := by decide +kernel
theorem d_m_hexadecimal_80 : decode b_m_hexadecimal 80 = .ok (.getfield 94, 3) := by decide +kernel
theorem d_m_hexadecimal_83 : decode b_m_hexadecimal 83 = .ok (.iconst 1, 1) := by decide +kernel
theorem d_m_hexadecimal_84 : decode b_m_hexadecimal 84 = .ok (.iadd, 1) := by decide +kernel
theorem d_m_hexadecimal_85 : decode b_m_hexadecimal 85 = .ok (.putfield 94, 3) := by decide +kernel
theorem d_m_hexadecimal_88 : decode b_m_hexadecimal 88 = .ok (.lload_n 1, 1) := by decide +kernel
theorem d_m_hexadecimal_89 : decode b_m_hexadecimal 89 = .ok (.bipush 58, 2) := by decide +kernel
theorem d_m_hexadecimal_91 : decode b_m_hexadecimal 91 = .ok (.lushr, 1) := by decide +kernel
theorem d_m_hexadecimal_92 : decode b_m_hexadecimal 92 = .ok (.lconst 0, 1) := by decide +kernel
theorem d_m_hexadecimal_93 : decode b_m_hexadecimal 93 = .ok (.lcmp, 1) := by decide +kernel
theorem d_m_hexadecimal_94 : decode b_m_hexadecimal 94 = .ok (.ifCond .ne 25, 3) := by decide +kernel
theorem d_m_hexadecimal_97 : decode b_m_hexadecimal 97 = .ok (.lload_n 1, 1) := by decide +kernel
theorem d_m_hexadecimal_98 : decode b_m_hexadecimal 98 = .ok (.iconst 4, 1) := by decide +kernel
theorem d_m_hexadecimal_99 : decode b_m_hexadecimal 99 = .ok (.lshl, 1) := by decide +kernel
theorem d_m_hexadecimal_100 : decode b_m_hexadecimal 100 = .ok (.iload 8, 2) := by decide +kernel
theorem d_m_hexadecimal_102 : decode b_m_hexadecimal 102 = .ok (.i2l, 1) := by decide +kernel
theorem d_m_hexadecimal_103 : decode b_m_hexadecimal 103 = .ok (.lor, 1) := by decide +kernel
theorem d_m_hexadecimal_104 : decode b_m_hexadecimal 104 = .ok (.lstore_n 1, 1) := by decide +kernel
theorem d_m_hexadecimal_105 : decode b_m_hexadecimal 105 = .ok (.iload 6, 2) := by decide +kernel
theorem d_m_hexadecimal_107 : decode b_m_hexadecimal 107 = .ok (.ifCond .eq 31, 3) := by decide +kernel
theorem d_m_hexadecimal_110 : decode b_m_hexadecimal 110 = .ok (.lload_n 3, 1) := by decide +kernel
theorem d_m_hexadecimal_111 : decode b_m_hexadecimal 111 = .ok (.ldc2_w 184, 3) := by decide +kernel
theorem d_m_hexadecimal_114 : decode b_m_hexadecimal 114 = .ok (.lsub, 1) := by decide +kernel
theorem d_m_hexadecimal_115 : decode b_m_hexadecimal 115 = .ok (.lstore_n 3, 1) := by decide +kernel
theorem d_m_hexadecimal_116 : decode b_m_hexadecimal 116 = .ok (.goto 22, 3) := by decide +kernel
theorem d_m_hexadecimal_119 : decode b_m_hexadecimal 119 = .ok (.iload 8, 2) := by decide +kernel
theorem d_m_hexadecimal_121 : decode b_m_hexadecimal 121 = .ok (.ifCond .eq 6, 3) := by decide +kernel
theorem d_m_hexadecimal_124 : decode b_m_hexadecimal 124 = .ok (.iconst 1, 1) := by decide +kernel
theorem d_m_hexadecimal_125 : decode b_m_hexadecimal 125 = .ok (.istore 5, 2) := by decide +kernel
theorem d_m_hexadecimal_127 : decode b_m_hexadecimal 127 = .ok (.iload 6, 2) := by decide +kernel
theorem d_m_hexadecimal_129 : decode b_m_hexadecimal 129 = .ok (.ifCond .ne 9, 3) := by decide +kernel
theorem d_m_hexadecimal_132 : decode b_m_hexadecimal 132 = .ok (.lload_n 3, 1) := by decide +kernel
theorem d_m_hexadecimal_133 : decode b_m_hexadecimal 133 = .ok (.ldc2_w 184, 3) := by decide +kernel
theorem d_m_hexadecimal_136 : decode b_m_hexadecimal 136 = .ok (.ladd, 1) := by decide +kernel
theorem d_m_hexadecimal_137 : decode b_m_hexadecimal 137 = .ok (.lstore_n 3, 1) := by decide +kernel
theorem d_m_hexadecimal_138 : decode b_m_hexadecimal 138 = .ok (.goto (-115), 3) := by decide +kernel
theorem d_m_hexadecimal_141 : decode b_m_hexadecimal 141 = .ok (.iload 7, 2) := by decide +kernel
theorem d_m_hexadecimal_143 : decode b_m_hexadecimal 143 = .ok (.ifCond .eq 21, 3) := by decide +kernel
theorem d_m_hexadecimal_146 : decode b_m_hexadecimal 146 = .ok (.aload_n 0, 1) := by decide +kernel
theorem d_m_hexadecimal_147 : decode b_m_hexadecimal 147 = .ok (.bipush 112, 2) := by decide +kernel
theorem d_m_hexadecimal_149 : decode b_m_hexadecimal 149 = .ok (.invokevirtual 110, 3) := by decide +kernel
theorem d_m_hexadecimal_152 : decode b_m_hexadecimal 152 = .ok (.ifCond .ne 16, 3) := by decide +kernel
theorem d_m_hexadecimal_155 : decode b_m_hexadecimal 155 = .ok (.aload_n 0, 1) := by decide +kernel
theorem d_m_hexadecimal_156 : decode b_m_hexadecimal 156 = .ok (.bipush 80, 2) := by decide +kernel
theorem d_m_hexadecimal_158 : decode b_m_hexadecimal 158 = .ok (.invokevirtual 110, 3) := by decide +kernel
theorem d_m_hexadecimal_161 : decode b_m_hexadecimal 161 = .ok (.ifCond .ne 7, 3) := by decide +kernel
theorem d_m_hexadecimal_164 : decode b_m_hexadecimal 164 = .ok (.ldc2_w 151, 3) := by decide +kernel
theorem d_m_hexadecimal_167 : decode b_m_hexadecimal 167 = .ok (.lreturn, 1) := by decide +kernel
theorem d_m_hexadecimal_168 : decode b_m_hexadecimal 168 = .ok (.aload_n 0, 1) := by decide +kernel
theorem d_m_hexadecimal_169 : decode b_m_hexadecimal 169 = .ok (.dup, 1) := by decide +kernel
theorem d_m_hexadecimal_170 : decode b_m_hexadecimal 170 = .ok (.getfield 94, 3) := by decide +kernel
theorem d_m_hexadecimal_173 : decode b_m_hexadecimal 173 = .ok (.iconst 1, 1) := by decide +kernel
theorem d_m_hexadecimal_174 : decode b_m_hexadecimal 174 = .ok (.iadd, 1) := by decide +kernel
theorem d_m_hexadecimal_175 : decode b_m_hexadecimal 175 = .ok (.putfield 94, 3) := by decide +kernel
theorem d_m_hexadecimal_178 : decode b_m_hexadecimal 178 = .ok (.aload_n 0, 1) := by decide +kernel
theorem d_m_hexadecimal_179 : decode b_m_hexadecimal 179 = .ok (.invokevirtual 153, 3) := by decide +kernel
theorem d_m_hexadecimal_182 : decode b_m_hexadecimal 182 = .ok (.lstore 8, 2) := by decide +kernel
theorem d_m_hexadecimal_184 : decode b_m_hexadecimal 184 = .ok (.lload 8, 2) := by decide +kernel
theorem d_m_hexadecimal_186 : decode b_m_hexadecimal 186 = .ok (.ldc2_w 55, 3) := by decide +kernel
theorem d_m_hexadecimal_189 : decode b_m_hexadecimal 189 = .ok (.lcmp, 1) := by decide +kernel
theorem d_m_hexadecimal_190 : decode b_m_hexadecimal 190 = .ok (.ifCond .ne 7, 3) := by decide +kernel
theorem d_m_hexadecimal_193 : decode b_m_hexadecimal 193 = .ok (.ldc2_w 151, 3) := by decide +kernel
theorem d_m_hexadecimal_196 : decode b_m_hexadecimal 196 = .ok (.lreturn, 1) := by decide +kernel
theorem d_m_hexadecimal_197 : decode b_m_hexadecimal 197 = .ok (.aload_n 0, 1) := by decide +kernel
theorem d_m_hexadecimal_198 : decode b_m_hexadecimal 198 = .ok (.lload_n 1, 1) := by decide +kernel
theorem d_m_hexadecimal_199 : decode b_m_hexadecimal 199 = .ok (.lload_n 3, 1) := by decide +kernel
theorem d_m_hexadecimal_200 : decode b_m_hexadecimal 200 = .ok (.lload 8, 2) := by decide +kernel
theorem d_m_hexadecimal_202 : decode b_m_hexadecimal 202 = .ok (.ladd, 1) := by decide +kernel
theorem d_m_hexadecimal_203 : decode b_m_hexadecimal 203 = .ok (.iload 5, 2) := by decide +kernel
theorem d_m_hexadecimal_205 : decode b_m_hexadecimal 205 = .ok (.invokevirtual 186, 3) := by decide +kernel
theorem d_m_hexadecimal_208 : decode b_m_hexadecimal 208 = .ok (.lreturn, 1) := by decide +kernel
theorem d_m_rounded_0 : decode b_m_rounded 0 = .ok (.lload_n 1, 1) := by decide +kernel
theorem d_m_rounded_1 : decode b_m_rounded 1 = .ok (.lconst 0, 1) := by decide +kernel
theorem d_m_rounded_2 : decode b_m_rounded 2 = .ok (.lcmp, 1) := by decide +kernel
theorem d_m_rounded_3 : decode b_m_rounded 3 = .ok (.ifCond .ne 5, 3) := by decide +kernel
theorem d_m_rounded_6 : decode b_m_rounded 6 = .ok (.lconst 0, 1) := by decide +kernel
theorem d_m_rounded_7 : decode b_m_rounded 7 = .ok (.lreturn, 1) := by decide +kernel
theorem d_m_rounded_8 : decode b_m_rounded 8 = .ok (.bipush 64, 2) := by decide +kernel
theorem d_m_rounded_10 : decode b_m_rounded 10 = .ok (.lload_n 1, 1) := by decide +kernel
theorem d_m_rounded_11 : decode b_m_rounded 11 = .ok (.invokestatic 190, 3) := by decide +kernel
theorem d_m_rounded_14 : decode b_m_rounded 14 = .ok (.isub, 1) := by decide +kernel
theorem d_m_rounded_15 : decode b_m_rounded 15 = .ok (.istore 6, 2) := by decide +kernel
theorem d_m_rounded_17 : decode b_m_rounded 17 = .ok (.lload_n 3, 1) := by decide +kernel
theorem d_m_rounded_18 : decode b_m_rounded 18 = .ok (.iload 6, 2) := by decide +kernel
theorem d_m_rounded_20 : decode b_m_rounded 20 = .ok (.i2l, 1) := by decide +kernel
theorem d_m_rounded_21 : decode b_m_rounded 21 = .ok (.ladd, 1) := by decide +kernel
theorem d_m_rounded_22 : decode b_m_rounded 22 = .ok (.lstore 7, 2) := by decide +kernel
theorem d_m_rounded_24 : decode b_m_rounded 24 = .ok (.lload 7, 2) := by decide +kernel
theorem d_m_rounded_26 : decode b_m_rounded 26 = .ok (.ldc2_w 193, 3) := by decide +kernel
theorem d_m_rounded_29 : decode b_m_rounded 29 = .ok (.lcmp, 1) := by decide +kernel
theorem d_m_rounded_30 : decode b_m_rounded 30 = .ok (.ifCond .le 8, 3) := by decide +kernel
theorem d_m_rounded_33 : decode b_m_rounded 33 = .ok (.aload_n 0, 1) := by decide +kernel
theorem d_m_rounded_34 : decode b_m_rounded 34 = .ok (.invokevirtual 59, 3) := by decide +kernel
theorem d_m_rounded_37 : decode b_m_rounded 37 = .ok (.lreturn, 1) := by decide +kernel
theorem d_m_rounded_38 : decode b_m_rounded 38 = .ok (.lload 7, 2) := by decide +kernel
theorem d_m_rounded_40 : decode b_m_rounded 40 = .ok (.ldc2_w 195, 3) := by decide +kernel
theorem d_m_rounded_43 : decode b_m_rounded 43 = .ok (.lcmp, 1) := by decide +kernel
theorem d_m_rounded_44 : decode b_m_rounded 44 = .ok (.ifCond .ge 5, 3) := by decide +kernel
theorem d_m_rounded_47 : decode b_m_rounded 47 = .ok (.lconst 0, 1) := by decide +kernel
theorem d_m_rounded_48 : decode b_m_rounded 48 = .ok (.lreturn, 1) := by decide +kernel
theorem d_m_rounded_49 : decode b_m_rounded 49 = .ok (.lload 7, 2) := by decide +kernel
theorem d_m_rounded_51 : decode b_m_rounded 51 = .ok (.l2i, 1) := by decide +kernel
theorem d_m_rounded_52 : decode b_m_rounded 52 = .ok (.aload_n 0, 1) := by decide +kernel
theorem d_m_rounded_53 : decode b_m_rounded 53 = .ok (.getfield 45, 3) := by decide +kernel
theorem d_m_rounded_56 : decode b_m_rounded 56 = .ok (.isub, 1) := by decide +kernel
theorem d_m_rounded_57 : decode b_m_rounded 57 = .ok (.aload_n 0, 1) := by decide +kernel
theorem d_m_rounded_58 : decode b_m_rounded 58 = .ok (.getfield 48, 3) := by decide +kernel
theorem d_m_rounded_61 : decode b_m_rounded 61 = .ok (.if_icmp .le 14, 3) := by decide +kernel
theorem d_m_rounded_64 : decode b_m_rounded 64 = .ok (.lload 7, 2) := by decide +kernel
theorem d_m_rounded_66 : decode b_m_rounded 66 = .ok (.l2i, 1) := by decide +kernel
theorem d_m_rounded_67 : decode b_m_rounded 67 = .ok (.aload_n 0, 1) := by decide +kernel
theorem d_m_rounded_68 : decode b_m_rounded 68 = .ok (.getfield 45, 3) := by decide +kernel
theorem d_m_rounded_71 : decode b_m_rounded 71 = .ok (.isub, 1) := by decide +kernel
theorem d_m_rounded_72 : decode b_m_rounded 72 = .ok (.goto 7, 3) := by decide +kernel
theorem d_m_rounded_75 : decode b_m_rounded 75 = .ok (.aload_n 0, 1) := by decide +kernel
theorem d_m_rounded_76 : decode b_m_rounded 76 = .ok (.getfield 48, 3) := by decide +kernel
theorem d_m_rounded_79 : decode b_m_rounded 79 = .ok (.istore 9, 2) := by decide +kernel
theorem d_m_rounded_81 : decode b_m_rounded 81 = .ok (.iload 9, 2) := by decide +kernel
theorem d_m_rounded_83 : decode b_m_rounded 83 = .ok (.lload_n 3, 1) := by decide +kernel
theorem d_m_rounded_84 : decode b_m_rounded 84 = .ok (.l2i, 1) := by decide +kernel
theorem d_m_rounded_85 : decode b_m_rounded 85 = .ok (.isub, 1) := by decide +kernel
theorem d_m_rounded_86 : decode b_m_rounded 86 = .ok (.istore 10, 2) := by decide +kernel
theorem d_m_rounded_88 : decode b_m_rounded 88 = .ok (.iload 10, 2) := by decide +kernel
theorem d_m_rounded_90 : decode b_m_rounded 90 = .ok (.ifCond .gt 13, 3) := by decide +kernel
theorem d_m_rounded_93 : decode b_m_rounded 93 = .ok (.lload_n 1, 1) := by decide +kernel
theorem d_m_rounded_94 : decode b_m_rounded 94 = .ok (.iload 10, 2) := by decide +kernel
theorem d_m_rounded_96 : decode b_m_rounded 96 = .ok (.ineg, 1) := by decide +kernel
theorem d_m_rounded_97 : decode b_m_rounded 97 = .ok (.lshl, 1) := by decide +kernel
theorem d_m_rounded_98 : decode b_m_rounded 98 = .ok (.lstore 11, 2) := by decide +kernel
theorem d_m_rounded_100 : decode b_m_rounded 100 = .ok (.goto 97, 3) := by decide +kernel
theorem d_m_rounded_103 : decode b_m_rounded 103 = .ok (.iload 10, 2) := by decide +kernel
theorem d_m_rounded_105 : decode b_m_rounded 105 = .ok (.iload 6, 2) := by decide +kernel
theorem d_m_rounded_107 : decode b_m_rounded 107 = .ok (.if_icmp .le 9, 3) := by decide +kernel
theorem d_m_rounded_110 : decode b_m_rounded 110 = .ok (.lconst 0, 1) := by decide +kernel
theorem d_m_rounded_111 : decode b_m_rounded 111 = .ok (.lstore 11, 2) := by decide +kernel
theorem d_m_rounded_113 : decode b_m_rounded 113 = .ok (.goto 84, 3) := by decide +kernel
theorem d_m_rounded_116 : decode b_m_rounded 116 = .ok (.iload 10, 2) := by decide +kernel
theorem d_m_rounded_118 : decode b_m_rounded 118 = .ok (.bipush 63, 2) := by decide +kernel
theorem d_m_rounded_120 : decode b_m_rounded 120 = .ok (.if_icmp .le 7, 3) := by decide +kernel
theorem d_m_rounded_123 : decode b_m_rounded 123 = .ok (.lconst 0, 1) := by decide +kernel
theorem d_m_rounded_124 : decode b_m_rounded 124 = .ok (.goto 7, 3) := by decide +kernel
theorem d_m_rounded_127 : decode b_m_rounded 127 = .ok (.lload_n 1, 1) := by decide +kernel
theorem d_m_rounded_128 : decode b_m_rounded 128 = .ok (.iload 10, 2) := by decide +kernel
theorem d_m_rounded_130 : decode b_m_rounded 130 = .ok (.lushr, 1) := by decide +kernel
theorem d_m_rounded_131 : decode b_m_rounded 131 = .ok (.lstore 11, 2) := by decide +kernel
theorem d_m_rounded_133 : decode b_m_rounded 133 = .ok (.lload_n 1, 1) := by decide +kernel
theorem d_m_rounded_134 : decode b_m_rounded 134 = .ok (.iload 10, 2) := by decide +kernel
theorem d_m_rounded_136 : decode b_m_rounded 136 = .ok (.bipush 63, 2) := by decide +kernel
theorem d_m_rounded_138 : decode b_m_rounded 138 = .ok (.if_icmp .le 7, 3) := by decide +kernel
theorem d_m_rounded_141 : decode b_m_rounded 141 = .ok (.lconst 0, 1) := by decide +kernel
theorem d_m_rounded_142 : decode b_m_rounded 142 = .ok (.goto 8, 3) := by decide +kernel
theorem d_m_rounded_145 : decode b_m_rounded 145 = .ok (.lload 11, 2) := by decide +kernel
theorem d_m_rounded_147 : decode b_m_rounded 147 = .ok (.iload 10, 2) := by decide +kernel
theorem d_m_rounded_149 : decode b_m_rounded 149 = .ok (.lshl, 1) := by decide +kernel
theorem d_m_rounded_150 : decode b_m_rounded 150 = .ok (.lsub, 1) := by decide +kernel
theorem d_m_rounded_151 : decode b_m_rounded 151 = .ok (.lstore 13, 2) := by decide +kernel
theorem d_m_rounded_153 : decode b_m_rounded 153 = .ok (.lconst 1, 1) := by decide +kernel
theorem d_m_rounded_154 : decode b_m_rounded 154 = .ok (.iload 10, 2) := by decide +kernel
theorem d_m_rounded_156 : decode b_m_rounded 156 = .ok (.iconst 1, 1) := by decide +kernel
theorem d_m_rounded_157 : decode b_m_rounded 157 = .ok (.isub, 1) := by decide +kernel
theorem d_m_rounded_158 : decode b_m_rounded 158 = .ok (.lshl, 1) := by decide +kernel
theorem d_m_rounded_159 : decode b_m_rounded 159 = .ok (.lstore 15, 2) := by decide +kernel
theorem d_m_rounded_161 : decode b_m_rounded 161 = .ok (.lload 13, 2) := by decide +kernel
theorem d_m_rounded_163 : decode b_m_rounded 163 = .ok (.lload 15, 2) := by decide +kernel
theorem d_m_rounded_165 : decode b_m_rounded 165 = .ok (.lcmp, 1) := by decide +kernel
theorem d_m_rounded_166 : decode b_m_rounded 166 = .ok (.ifCond .gt 25, 3) := by decide +kernel
theorem d_m_rounded_169 : decode b_m_rounded 169 = .ok (.lload 13, 2) := by decide +kernel
theorem d_m_rounded_171 : decode b_m_rounded 171 = .ok (.lload 15, 2) := by decide +kernel
theorem d_m_rounded_173 : decode b_m_rounded 173 = .ok (.lcmp, 1) := by decide +kernel
theorem d_m_rounded_174 : decode b_m_rounded 174 = .ok (.ifCond .ne 23, 3) := by decide +kernel
theorem d_m_rounded_177 : decode b_m_rounded 177 = .ok (.iload 5, 2) := by decide +kernel
theorem d_m_rounded_179 : decode b_m_rounded 179 = .ok (.ifCond .ne 12, 3) := by decide +kernel
theorem d_m_rounded_182 : decode b_m_rounded 182 = .ok (.lload 11, 2) := by decide +kernel
theorem d_m_rounded_184 : decode b_m_rounded 184 = .ok (.lconst 1, 1) := by decide +kernel
theorem d_m_rounded_185 : decode b_m_rounded 185 = .ok (.land, 1) := by decide +kernel
theorem d_m_rounded_186 : decode b_m_rounded 186 = .ok (.lconst 1, 1) := by decide +kernel
theorem d_m_rounded_187 : decode b_m_rounded 187 = .ok (.lcmp, 1) := by decide +kernel
theorem d_m_rounded_188 : decode b_m_rounded 188 = .ok (.ifCond .ne 9, 3) := by decide +kernel
theorem d_m_rounded_191 : decode b_m_rounded 191 = .ok (.lload 11, 2) := by decide +kernel
theorem d_m_rounded_193 : decode b_m_rounded 193 = .ok (.lconst 1, 1) := by decide +kernel
theorem d_m_rounded_194 : decode b_m_rounded 194 = .ok (.ladd, 1) := by decide +kernel
theorem d_m_rounded_195 : decode b_m_rounded 195 = .ok (.lstore 11, 2) := by decide +kernel
theorem d_m_rounded_197 : decode b_m_rounded 197 = .ok (.lload 11, 2) := by decide +kernel
theorem d_m_rounded_199 : decode b_m_rounded 199 = .ok (.ldc2_w 163, 3) := by decide +kernel
theorem d_m_rounded_202 : decode b_m_rounded 202 = .ok (.aload_n 0, 1) := by decide +kernel
theorem d_m_rounded_203 : decode b_m_rounded 203 = .ok (.invokevirtual 63, 3) := by decide +kernel
theorem d_m_rounded_206 : decode b_m_rounded 206 = .ok (.lmul, 1) := by decide +kernel
theorem d_m_rounded_207 : decode b_m_rounded 207 = .ok (.lconst 1, 1) := by decide +kernel
theorem d_m_rounded_208 : decode b_m_rounded 208 = .ok (.ladd, 1) := by decide +kernel
theorem d_m_rounded_209 : decode b_m_rounded 209 = .ok (.lcmp, 1) := by decide +kernel
theorem d_m_rounded_210 : decode b_m_rounded 210 = .ok (.ifCond .le 12, 3) := by decide +kernel
theorem d_m_rounded_213 : decode b_m_rounded 213 = .ok (.lload 11, 2) := by decide +kernel
theorem d_m_rounded_215 : decode b_m_rounded 215 = .ok (.iconst 1, 1) := by decide +kernel
theorem d_m_rounded_216 : decode b_m_rounded 216 = .ok (.lshr, 1) := by decide +kernel
theorem d_m_rounded_217 : decode b_m_rounded 217 = .ok (.lstore 11, 2) := by decide +kernel
theorem d_m_rounded_219 : decode b_m_rounded 219 = .ok (.iinc 9 1, 3) := by decide +kernel
theorem d_m_rounded_222 : decode b_m_rounded 222 = .ok (.lload 11, 2) := by decide +kernel
theorem d_m_rounded_224 : decode b_m_rounded 224 = .ok (.aload_n 0, 1) := by decide +kernel
theorem d_m_rounded_225 : decode b_m_rounded 225 = .ok (.invokevirtual 63, 3) := by decide +kernel
theorem d_m_rounded_228 : decode b_m_rounded 228 = .ok (.lcmp, 1) := by decide +kernel
theorem d_m_rounded_229 : decode b_m_rounded 229 = .ok (.ifCond .gt 6, 3) := by decide +kernel
theorem d_m_rounded_232 : decode b_m_rounded 232 = .ok (.lload 11, 2) := by decide +kernel
theorem d_m_rounded_234 : decode b_m_rounded 234 = .ok (.lreturn, 1) := by decide +kernel
theorem d_m_rounded_235 : decode b_m_rounded 235 = .ok (.iload 9, 2) := by decide +kernel
theorem d_m_rounded_237 : decode b_m_rounded 237 = .ok (.aload_n 0, 1) := by decide +kernel
theorem d_m_rounded_238 : decode b_m_rounded 238 = .ok (.getfield 48, 3) := by decide +kernel
theorem d_m_rounded_241 : decode b_m_rounded 241 = .ok (.isub, 1) := by decide +kernel
theorem d_m_rounded_242 : decode b_m_rounded 242 = .ok (.iconst 1, 1) := by decide +kernel
theorem d_m_rounded_243 : decode b_m_rounded 243 = .ok (.iadd, 1) := by decide +kernel
theorem d_m_rounded_244 : decode b_m_rounded 244 = .ok (.i2l, 1) := by decide +kernel
theorem d_m_rounded_245 : decode b_m_rounded 245 = .ok (.lstore 13, 2) := by decide +kernel
theorem d_m_rounded_247 : decode b_m_rounded 247 = .ok (.lload 13, 2) := by decide +kernel
theorem d_m_rounded_249 : decode b_m_rounded 249 = .ok (.aload_n 0, 1) := by decide +kernel
theorem d_m_rounded_250 : decode b_m_rounded 250 = .ok (.invokevirtual 59, 3) := by decide +kernel
theorem d_m_rounded_253 : decode b_m_rounded 253 = .ok (.aload_n 0, 1) := by decide +kernel
theorem d_m_rounded_254 : decode b_m_rounded 254 = .ok (.getfield 45, 3) := by decide +kernel
theorem d_m_rounded_257 : decode b_m_rounded 257 = .ok (.iconst 1, 1) := by decide +kernel
theorem d_m_rounded_258 : decode b_m_rounded 258 = .ok (.isub, 1) := by decide +kernel
theorem d_m_rounded_259 : decode b_m_rounded 259 = .ok (.lushr, 1) := by decide +kernel
theorem d_m_rounded_260 : decode b_m_rounded 260 = .ok (.lcmp, 1) := by decide +kernel
theorem d_m_rounded_261 : decode b_m_rounded 261 = .ok (.ifCond .lt 10, 3) := by decide +kernel
theorem d_m_rounded_264 : decode b_m_rounded 264 = .ok (.aload_n 0, 1) := by decide +kernel
theorem d_m_rounded_265 : decode b_m_rounded 265 = .ok (.invokevirtual 59, 3) := by decide +kernel
theorem d_m_rounded_268 : decode b_m_rounded 268 = .ok (.goto 20, 3) := by decide +kernel
theorem d_m_rounded_271 : decode b_m_rounded 271 = .ok (.lload 13, 2) := by decide +kernel
theorem d_m_rounded_273 : decode b_m_rounded 273 = .ok (.aload_n 0, 1) := by decide +kernel
theorem d_m_rounded_274 : decode b_m_rounded 274 = .ok (.getfield 45, 3) := by decide +kernel
theorem d_m_rounded_277 : decode b_m_rounded 277 = .ok (.iconst 1, 1) := by decide +kernel
theorem d_m_rounded_278 : decode b_m_rounded 278 = .ok (.isub, 1) := by decide +kernel
theorem d_m_rounded_279 : decode b_m_rounded 279 = .ok (.lshl, 1) := by decide +kernel
theorem d_m_rounded_280 : decode b_m_rounded 280 = .ok (.lload 11, 2) := by decide +kernel
theorem d_m_rounded_282 : decode b_m_rounded 282 = .ok (.aload_n 0, 1) := by decide +kernel
theorem d_m_rounded_283 : decode b_m_rounded 283 = .ok (.invokevirtual 63, 3) := by decide +kernel
theorem d_m_rounded_286 : decode b_m_rounded 286 = .ok (.land, 1) := by decide +kernel
theorem d_m_rounded_287 : decode b_m_rounded 287 = .ok (.lor, 1) := by decide +kernel
theorem d_m_rounded_288 : decode b_m_rounded 288 = .ok (.lreturn, 1) := by decide +kernel
theorem d_m_parse_0 : decode b_m_parse 0 = .ok (.aload_n 0, 1) := by decide +kernel
theorem d_m_parse_1 : decode b_m_parse 1 = .ok (.iconst 1, 1) := by decide +kernel
theorem d_m_parse_2 : decode b_m_parse 2 = .ok (.invokevirtual 197, 3) := by decide +kernel
theorem d_m_parse_5 : decode b_m_parse 5 = .ok (.aload_n 0, 1) := by decide +kernel
theorem d_m_parse_6 : decode b_m_parse 6 = .ok (.invokevirtual 201, 3) := by decide +kernel
theorem d_m_parse_9 : decode b_m_parse 9 = .ok (.lreturn, 1) := by decide +kernel
theorem d_m_parseFloat_0 : decode b_m_parseFloat 0 = .ok (.aload_n 0, 1) := by decide +kernel
theorem d_m_parseFloat_1 : decode b_m_parseFloat 1 = .ok (.iconst 0, 1) := by decide +kernel
theorem d_m_parseFloat_2 : decode b_m_parseFloat 2 = .ok (.invokevirtual 197, 3) := by decide +kernel
theorem d_m_parseFloat_5 : decode b_m_parseFloat 5 = .ok (.aload_n 0, 1) := by decide +kernel
theorem d_m_parseFloat_6 : decode b_m_parseFloat 6 = .ok (.invokevirtual 201, 3) := by decide +kernel
theorem d_m_parseFloat_9 : decode b_m_parseFloat 9 = .ok (.l2i, 1) := by decide +kernel
theorem d_m_parseFloat_10 : decode b_m_parseFloat 10 = .ok (.ireturn, 1) := by decide +kernel
theorem d_r_init_0 : decode b_r_init 0 = .ok (.aload_n 0, 1) := by decide +kernel
theorem d_r_init_1 : decode b_r_init 1 = .ok (.invokespecial 1, 3) := by decide +kernel
theorem d_r_init_4 : decode b_r_init 4 = .ok (.aload_n 0, 1) := by decide +kernel
theorem d_r_init_5 : decode b_r_init 5 = .ok (.sipush 1300, 3) := by decide +kernel
theorem d_r_init_8 : decode b_r_init 8 = .ok (.newarray .byte, 2) := by decide +kernel
theorem d_r_init_10 : decode b_r_init 10 = .ok (.putfield 7, 3) := by decide +kernel
theorem d_r_init_13 : decode b_r_init 13 = .ok (.return_, 1) := by decide +kernel

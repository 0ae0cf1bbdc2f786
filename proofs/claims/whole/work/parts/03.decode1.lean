theorem d_init_0 : decode b_init 0 = .ok (.aload_n 0, 1) := by decide +kernel
theorem d_init_1 : decode b_init 1 = .ok (.invokespecial 1, 3) := by decide +kernel
theorem d_init_4 : decode b_init 4 = .ok (.aload_n 0, 1) := by decide +kernel
theorem d_init_5 : decode b_init 5 = .ok (.new 7, 3) := by decide +kernel
theorem d_init_8 : decode b_init 8 = .ok (.dup, 1) := by decide +kernel
theorem d_init_9 : decode b_init 9 = .ok (.bipush 53, 2) := by decide +kernel
theorem d_init_11 : decode b_init 11 = .ok (.sipush (-1074), 3) := by decide +kernel
theorem d_init_14 : decode b_init 14 = .ok (.sipush 971, 3) := by decide +kernel
theorem d_init_17 : decode b_init 17 = .ok (.invokespecial 9, 3) := by decide +kernel
theorem d_init_20 : decode b_init 20 = .ok (.putfield 12, 3) := by decide +kernel
theorem d_init_23 : decode b_init 23 = .ok (.aload_n 0, 1) := by decide +kernel
theorem d_init_24 : decode b_init 24 = .ok (.new 7, 3) := by decide +kernel
theorem d_init_27 : decode b_init 27 = .ok (.dup, 1) := by decide +kernel
theorem d_init_28 : decode b_init 28 = .ok (.bipush 24, 2) := by decide +kernel
theorem d_init_30 : decode b_init 30 = .ok (.sipush (-149), 3) := by decide +kernel
theorem d_init_33 : decode b_init 33 = .ok (.bipush 104, 2) := by decide +kernel
theorem d_init_35 : decode b_init 35 = .ok (.invokespecial 9, 3) := by decide +kernel
theorem d_init_38 : decode b_init 38 = .ok (.putfield 18, 3) := by decide +kernel
theorem d_init_41 : decode b_init 41 = .ok (.aload_n 0, 1) := by decide +kernel
theorem d_init_42 : decode b_init 42 = .ok (.new 21, 3) := by decide +kernel
theorem d_init_45 : decode b_init 45 = .ok (.dup, 1) := by decide +kernel
theorem d_init_46 : decode b_init 46 = .ok (.invokespecial 23, 3) := by decide +kernel
theorem d_init_49 : decode b_init 49 = .ok (.putfield 24, 3) := by decide +kernel
theorem d_init_52 : decode b_init 52 = .ok (.aload_n 0, 1) := by decide +kernel
theorem d_init_53 : decode b_init 53 = .ok (.sipush 8192, 3) := by decide +kernel
theorem d_init_56 : decode b_init 56 = .ok (.newarray .byte, 2) := by decide +kernel
theorem d_init_58 : decode b_init 58 = .ok (.putfield 28, 3) := by decide +kernel
theorem d_init_61 : decode b_init 61 = .ok (.aload_n 0, 1) := by decide +kernel
theorem d_init_62 : decode b_init 62 = .ok (.iconst 0, 1) := by decide +kernel
theorem d_init_63 : decode b_init 63 = .ok (.putfield 32, 3) := by decide +kernel
theorem d_init_66 : decode b_init 66 = .ok (.return_, 1) := by decide +kernel
theorem d_feed_0 : decode b_feed 0 = .ok (.aload_n 0, 1) := by decide +kernel
theorem d_feed_1 : decode b_feed 1 = .ok (.getfield 32, 3) := by decide +kernel
theorem d_feed_4 : decode b_feed 4 = .ok (.sipush 8172, 3) := by decide +kernel
theorem d_feed_7 : decode b_feed 7 = .ok (.if_icmp .le 13, 3) := by decide +kernel
theorem d_feed_10 : decode b_feed 10 = .ok (.new 36, 3) := by decide +kernel
theorem d_feed_13 : decode b_feed 13 = .ok (.dup, 1) := by decide +kernel
theorem d_feed_14 : decode b_feed 14 = .ok (.ldc 38, 2) := by decide +kernel
theorem d_feed_16 : decode b_feed 16 = .ok (.invokespecial 40, 3) := by decide +kernel
theorem d_feed_19 : decode b_feed 19 = .ok (.athrow, 1) := by decide +kernel
theorem d_feed_20 : decode b_feed 20 = .ok (.aload_n 0, 1) := by decide +kernel
theorem d_feed_21 : decode b_feed 21 = .ok (.iload_n 1, 1) := by decide +kernel
theorem d_feed_22 : decode b_feed 22 = .ok (.invokevirtual 43, 3) := by decide +kernel
theorem d_feed_25 : decode b_feed 25 = .ok (.aload_n 0, 1) := by decide +kernel
theorem d_feed_26 : decode b_feed 26 = .ok (.iload_n 2, 1) := by decide +kernel
theorem d_feed_27 : decode b_feed 27 = .ok (.invokevirtual 43, 3) := by decide +kernel
theorem d_feed_30 : decode b_feed 30 = .ok (.aload_n 0, 1) := by decide +kernel
theorem d_feed_31 : decode b_feed 31 = .ok (.iload_n 3, 1) := by decide +kernel
theorem d_feed_32 : decode b_feed 32 = .ok (.invokevirtual 43, 3) := by decide +kernel
theorem d_feed_35 : decode b_feed 35 = .ok (.aload_n 0, 1) := by decide +kernel
theorem d_feed_36 : decode b_feed 36 = .ok (.iload 4, 2) := by decide +kernel
theorem d_feed_38 : decode b_feed 38 = .ok (.invokevirtual 43, 3) := by decide +kernel
theorem d_feed_41 : decode b_feed 41 = .ok (.aload_n 0, 1) := by decide +kernel
theorem d_feed_42 : decode b_feed 42 = .ok (.iload 5, 2) := by decide +kernel
theorem d_feed_44 : decode b_feed 44 = .ok (.invokevirtual 43, 3) := by decide +kernel
theorem d_feed_47 : decode b_feed 47 = .ok (.aload_n 0, 1) := by decide +kernel
theorem d_feed_48 : decode b_feed 48 = .ok (.getfield 32, 3) := by decide +kernel
theorem d_feed_51 : decode b_feed 51 = .ok (.ireturn, 1) := by decide +kernel
theorem d_end_0 : decode b_end 0 = .ok (.iload_n 1, 1) := by decide +kernel
theorem d_end_1 : decode b_end 1 = .ok (.ifCond .lt 11, 3) := by decide +kernel
theorem d_end_4 : decode b_end 4 = .ok (.iload_n 1, 1) := by decide +kernel
theorem d_end_5 : decode b_end 5 = .ok (.aload_n 0, 1) := by decide +kernel
theorem d_end_6 : decode b_end 6 = .ok (.getfield 32, 3) := by decide +kernel
theorem d_end_9 : decode b_end 9 = .ok (.if_icmp .le 13, 3) := by decide +kernel
theorem d_end_12 : decode b_end 12 = .ok (.new 47, 3) := by decide +kernel
theorem d_end_15 : decode b_end 15 = .ok (.dup, 1) := by decide +kernel
theorem d_end_16 : decode b_end 16 = .ok (.ldc 49, 2) := by decide +kernel
theorem d_end_18 : decode b_end 18 = .ok (.invokespecial 51, 3) := by decide +kernel
theorem d_end_21 : decode b_end 21 = .ok (.athrow, 1) := by decide +kernel
theorem d_end_22 : decode b_end 22 = .ok (.aload_n 0, 1) := by decide +kernel
theorem d_end_23 : decode b_end 23 = .ok (.iload_n 1, 1) := by decide +kernel
theorem d_end_24 : decode b_end 24 = .ok (.putfield 32, 3) := by decide +kernel
theorem d_end_27 : decode b_end 27 = .ok (.iload_n 1, 1) := by decide +kernel
theorem d_end_28 : decode b_end 28 = .ok (.ireturn, 1) := by decide +kernel
theorem d_parse_0 : decode b_parse 0 = .ok (.aload_n 0, 1) := by decide +kernel
theorem d_parse_1 : decode b_parse 1 = .ok (.invokevirtual 52, 3) := by decide +kernel
theorem d_parse_4 : decode b_parse 4 = .ok (.ifCond .ne 13, 3) := by decide +kernel
theorem d_parse_7 : decode b_parse 7 = .ok (.new 56, 3) := by decide +kernel
theorem d_parse_10 : decode b_parse 10 = .ok (.dup, 1) := by decide +kernel
theorem d_parse_11 : decode b_parse 11 = .ok (.ldc 58, 2) := by decide +kernel
theorem d_parse_13 : decode b_parse 13 = .ok (.invokespecial 60, 3) := by decide +kernel
theorem d_parse_16 : decode b_parse 16 = .ok (.athrow, 1) := by decide +kernel
theorem d_parse_17 : decode b_parse 17 = .ok (.aload_n 0, 1) := by decide +kernel
theorem d_parse_18 : decode b_parse 18 = .ok (.aload_n 0, 1) := by decide +kernel
theorem d_parse_19 : decode b_parse 19 = .ok (.getfield 12, 3) := by decide +kernel
theorem d_parse_22 : decode b_parse 22 = .ok (.invokevirtual 61, 3) := by decide +kernel
theorem d_parse_25 : decode b_parse 25 = .ok (.lreturn, 1) := by decide +kernel
theorem d_parseFloat_0 : decode b_parseFloat 0 = .ok (.aload_n 0, 1) := by decide +kernel
theorem d_parseFloat_1 : decode b_parseFloat 1 = .ok (.invokevirtual 52, 3) := by decide +kernel
theorem d_parseFloat_4 : decode b_parseFloat 4 = .ok (.ifCond .ne 13, 3) := by decide +kernel
theorem d_parseFloat_7 : decode b_parseFloat 7 = .ok (.new 56, 3) := by decide +kernel
theorem d_parseFloat_10 : decode b_parseFloat 10 = .ok (.dup, 1) := by decide +kernel
theorem d_parseFloat_11 : decode b_parseFloat 11 = .ok (.ldc 58, 2) := by decide +kernel
theorem d_parseFloat_13 : decode b_parseFloat 13 = .ok (.invokespecial 60, 3) := by decide +kernel
theorem d_parseFloat_16 : decode b_parseFloat 16 = .ok (.athrow, 1) := by decide +kernel
theorem d_parseFloat_17 : decode b_parseFloat 17 = .ok (.aload_n 0, 1) := by decide +kernel
theorem d_parseFloat_18 : decode b_parseFloat 18 = .ok (.aload_n 0, 1) := by decide +kernel
theorem d_parseFloat_19 : decode b_parseFloat 19 = .ok (.getfield 18, 3) := by decide +kernel
theorem d_parseFloat_22 : decode b_parseFloat 22 = .ok (.invokevirtual 61, 3) := by decide +kernel
theorem d_parseFloat_25 : decode b_parseFloat 25 = .ok (.l2i, 1) := by decide +kernel
theorem d_parseFloat_26 : decode b_parseFloat 26 = .ok (.ireturn, 1) := by decide +kernel
theorem d_appendBytes_0 : decode b_appendBytes 0 = .ok (.bipush 24, 2) := by decide +kernel
theorem d_appendBytes_2 : decode b_appendBytes 2 = .ok (.istore_n 2, 1) := by decide +kernel
theorem d_appendBytes_3 : decode b_appendBytes 3 = .ok (.iload_n 2, 1) := by decide +kernel
theorem d_appendBytes_4 : decode b_appendBytes 4 = .ok (.ifCond .lt 32, 3) := by decide +kernel
theorem d_appendBytes_7 : decode b_appendBytes 7 = .ok (.aload_n 0, 1) := by decide +kernel
theorem d_appendBytes_8 : decode b_appendBytes 8 = .ok (.getfield 28, 3) := by decide +kernel
theorem d_appendBytes_11 : decode b_appendBytes 11 = .ok (.aload_n 0, 1) := by decide +kernel
theorem d_appendBytes_12 : decode b_appendBytes 12 = .ok (.getfield 32, 3) := by decide +kernel
theorem d_appendBytes_15 : decode b_appendBytes 15 = .ok (.iload_n 1, 1) := by decide +kernel
theorem d_appendBytes_16 : decode b_appendBytes 16 = .ok (.iload_n 2, 1) := by decide +kernel
theorem d_appendBytes_17 : decode b_appendBytes 17 = .ok (.iushr, 1) := by decide +kernel
theorem d_appendBytes_18 : decode b_appendBytes 18 = .ok (.i2b, 1) := by decide +kernel
theorem d_appendBytes_19 : decode b_appendBytes 19 = .ok (.bastore, 1) := by decide +kernel
theorem d_appendBytes_20 : decode b_appendBytes 20 = .ok (.aload_n 0, 1) := by decide +kernel
theorem d_appendBytes_21 : decode b_appendBytes 21 = .ok (.dup, 1) := by decide +kernel
theorem d_appendBytes_22 : decode b_appendBytes 22 = .ok (.getfield 32, 3) := by decide +kernel
theorem d_appendBytes_25 : decode b_appendBytes 25 = .ok (.iconst 1, 1) := by decide +kernel
theorem d_appendBytes_26 : decode b_appendBytes 26 = .ok (.iadd, 1) := by decide +kernel
theorem d_appendBytes_27 : decode b_appendBytes 27 = .ok (.putfield 32, 3) := by decide +kernel
theorem d_appendBytes_30 : decode b_appendBytes 30 = .ok (.iinc 2 (-8), 3) := by decide +kernel
theorem d_appendBytes_33 : decode b_appendBytes 33 = .ok (.goto (-30), 3) := by decide +kernel
theorem d_appendBytes_36 : decode b_appendBytes 36 = .ok (.return_, 1) := by decide +kernel
theorem d_readTape_0 : decode b_readTape 0 = .ok (.aload_n 0, 1) := by decide +kernel
theorem d_readTape_1 : decode b_readTape 1 = .ok (.invokevirtual 65, 3) := by decide +kernel
theorem d_readTape_4 : decode b_readTape 4 = .ok (.istore_n 1, 1) := by decide +kernel
theorem d_readTape_5 : decode b_readTape 5 = .ok (.iload_n 1, 1) := by decide +kernel
theorem d_readTape_6 : decode b_readTape 6 = .ok (.ifCond .eq 23, 3) := by decide +kernel
theorem d_readTape_9 : decode b_readTape 9 = .ok (.aload_n 0, 1) := by decide +kernel
theorem d_readTape_10 : decode b_readTape 10 = .ok (.getfield 68, 3) := by decide +kernel
theorem d_readTape_13 : decode b_readTape 13 = .ok (.iconst 2, 1) := by decide +kernel
theorem d_readTape_14 : decode b_readTape 14 = .ok (.if_icmp .eq 11, 3) := by decide +kernel
theorem d_readTape_17 : decode b_readTape 17 = .ok (.aload_n 0, 1) := by decide +kernel
theorem d_readTape_18 : decode b_readTape 18 = .ok (.getfield 68, 3) := by decide +kernel
theorem d_readTape_21 : decode b_readTape 21 = .ok (.iconst 3, 1) := by decide +kernel
theorem d_readTape_22 : decode b_readTape 22 = .ok (.if_icmp .ne 7, 3) := by decide +kernel
theorem d_readTape_25 : decode b_readTape 25 = .ok (.aload_n 0, 1) := by decide +kernel
theorem d_readTape_26 : decode b_readTape 26 = .ok (.invokevirtual 71, 3) := by decide +kernel
theorem d_readTape_29 : decode b_readTape 29 = .ok (.aload_n 0, 1) := by decide +kernel
theorem d_readTape_30 : decode b_readTape 30 = .ok (.iconst 0, 1) := by decide +kernel
theorem d_readTape_31 : decode b_readTape 31 = .ok (.putfield 32, 3) := by decide +kernel
theorem d_readTape_34 : decode b_readTape 34 = .ok (.iload_n 1, 1) := by decide +kernel
theorem d_readTape_35 : decode b_readTape 35 = .ok (.ireturn, 1) := by decide +kernel
theorem d_answerAs_0 : decode b_answerAs 0 = .ok (.aload_n 0, 1) := by decide +kernel
theorem d_answerAs_1 : decode b_answerAs 1 = .ok (.getfield 68, 3) := by decide +kernel
theorem d_answerAs_4 : decode b_answerAs 4 = .ok (.ifCond .ne 8, 3) := by decide +kernel
theorem d_answerAs_7 : decode b_answerAs 7 = .ok (.aload_n 1, 1) := by decide +kernel
theorem d_answerAs_8 : decode b_answerAs 8 = .ok (.getfield 74, 3) := by decide +kernel
theorem d_answerAs_11 : decode b_answerAs 11 = .ok (.lreturn, 1) := by decide +kernel
theorem d_answerAs_12 : decode b_answerAs 12 = .ok (.aload_n 0, 1) := by decide +kernel
theorem d_answerAs_13 : decode b_answerAs 13 = .ok (.getfield 68, 3) := by decide +kernel
theorem d_answerAs_16 : decode b_answerAs 16 = .ok (.iconst 1, 1) := by decide +kernel
theorem d_answerAs_17 : decode b_answerAs 17 = .ok (.if_icmp .ne 10, 3) := by decide +kernel
theorem d_answerAs_20 : decode b_answerAs 20 = .ok (.aload_n 1, 1) := by decide +kernel
theorem d_answerAs_21 : decode b_answerAs 21 = .ok (.getfield 78, 3) := by decide +kernel
theorem d_answerAs_24 : decode b_answerAs 24 = .ok (.goto 11, 3) := by decide +kernel
theorem d_answerAs_27 : decode b_answerAs 27 = .ok (.aload_n 0, 1) := by decide +kernel
theorem d_answerAs_28 : decode b_answerAs 28 = .ok (.getfield 24, 3) := by decide +kernel
theorem d_answerAs_31 : decode b_answerAs 31 = .ok (.aload_n 1, 1) := by decide +kernel
theorem d_answerAs_32 : decode b_answerAs 32 = .ok (.invokevirtual 81, 3) := by decide +kernel
theorem d_answerAs_35 : decode b_answerAs 35 = .ok (.lstore_n 2, 1) := by decide +kernel
theorem d_answerAs_36 : decode b_answerAs 36 = .ok (.aload_n 0, 1) := by decide +kernel
theorem d_answerAs_37 : decode b_answerAs 37 = .ok (.getfield 84, 3) := by decide +kernel
theorem d_answerAs_40 : decode b_answerAs 40 = .ok (.ifCond .eq 12, 3) := by decide +kernel
theorem d_answerAs_43 : decode b_answerAs 43 = .ok (.lload_n 2, 1) := by decide +kernel
theorem d_answerAs_44 : decode b_answerAs 44 = .ok (.aload_n 1, 1) := by decide +kernel
theorem d_answerAs_45 : decode b_answerAs 45 = .ok (.getfield 88, 3) := by decide +kernel
theorem d_answerAs_48 : decode b_answerAs 48 = .ok (.lor, 1) := by decide +kernel
theorem d_answerAs_49 : decode b_answerAs 49 = .ok (.goto 4, 3) := by decide +kernel
theorem d_answerAs_52 : decode b_answerAs 52 = .ok (.lload_n 2, 1) := by decide +kernel
theorem d_answerAs_53 : decode b_answerAs 53 = .ok (.lreturn, 1) := by decide +kernel
theorem d_scanText_0 : decode b_scanText 0 = .ok (.aload_n 0, 1) := by decide +kernel
theorem d_scanText_1 : decode b_scanText 1 = .ok (.invokevirtual 91, 3) := by decide +kernel
theorem d_scanText_4 : decode b_scanText 4 = .ok (.aload_n 0, 1) := by decide +kernel
theorem d_scanText_5 : decode b_scanText 5 = .ok (.aload_n 0, 1) := by decide +kernel
theorem d_scanText_6 : decode b_scanText 6 = .ok (.invokevirtual 94, 3) := by decide +kernel
theorem d_scanText_9 : decode b_scanText 9 = .ok (.putfield 84, 3) := by decide +kernel
theorem d_scanText_12 : decode b_scanText 12 = .ok (.aload_n 0, 1) := by decide +kernel
theorem d_scanText_13 : decode b_scanText 13 = .ok (.ldc 97, 2) := by decide +kernel
theorem d_scanText_15 : decode b_scanText 15 = .ok (.invokevirtual 99, 3) := by decide +kernel
theorem d_scanText_18 : decode b_scanText 18 = .ok (.ifCond .eq 10, 3) := by decide +kernel
theorem d_scanText_21 : decode b_scanText 21 = .ok (.aload_n 0, 1) := by decide +kernel
theorem d_scanText_22 : decode b_scanText 22 = .ok (.iconst 0, 1) := by decide +kernel
theorem d_scanText_23 : decode b_scanText 23 = .ok (.putfield 68, 3) := by decide +kernel
theorem d_scanText_26 : decode b_scanText 26 = .ok (.iconst 1, 1) := by decide +kernel
theorem d_scanText_27 : decode b_scanText 27 = .ok (.ireturn, 1) := by decide +kernel
theorem d_scanText_28 : decode b_scanText 28 = .ok (.aload_n 0, 1) := by decide +kernel
theorem d_scanText_29 : decode b_scanText 29 = .ok (.ldc 103, 2) := by decide +kernel
theorem d_scanText_31 : decode b_scanText 31 = .ok (.invokevirtual 99, 3) := by decide +kernel
theorem d_scanText_34 : decode b_scanText 34 = .ok (.ifCond .eq 10, 3) := by decide +kernel
theorem d_scanText_37 : decode b_scanText 37 = .ok (.aload_n 0, 1) := by decide +kernel
theorem d_scanText_38 : decode b_scanText 38 = .ok (.iconst 1, 1) := by decide +kernel
theorem d_scanText_39 : decode b_scanText 39 = .ok (.putfield 68, 3) := by decide +kernel
theorem d_scanText_42 : decode b_scanText 42 = .ok (.iconst 1, 1) := by decide +kernel
theorem d_scanText_43 : decode b_scanText 43 = .ok (.ireturn, 1) := by decide +kernel
theorem d_scanText_44 : decode b_scanText 44 = .ok (.aload_n 0, 1) := by decide +kernel
theorem d_scanText_45 : decode b_scanText 45 = .ok (.invokevirtual 105, 3) := by decide +kernel
theorem d_scanText_48 : decode b_scanText 48 = .ok (.ifCond .eq 21, 3) := by decide +kernel
theorem d_scanText_51 : decode b_scanText 51 = .ok (.aload_n 0, 1) := by decide +kernel
theorem d_scanText_52 : decode b_scanText 52 = .ok (.invokevirtual 108, 3) := by decide +kernel
theorem d_scanText_55 : decode b_scanText 55 = .ok (.ifCond .eq 14, 3) := by decide +kernel
theorem d_scanText_58 : decode b_scanText 58 = .ok (.aload_n 0, 1) := by decide +kernel
theorem d_scanText_59 : decode b_scanText 59 = .ok (.invokevirtual 111, 3) := by decide +kernel
theorem d_scanText_62 : decode b_scanText 62 = .ok (.ifCond .eq 7, 3) := by decide +kernel
theorem d_scanText_65 : decode b_scanText 65 = .ok (.iconst 1, 1) := by decide +kernel
theorem d_scanText_66 : decode b_scanText 66 = .ok (.goto 4, 3) := by decide +kernel
theorem d_scanText_69 : decode b_scanText 69 = .ok (.iconst 0, 1) := by decide +kernel
theorem d_scanText_70 : decode b_scanText 70 = .ok (.ireturn, 1) := by decide +kernel
theorem d_leaveBlanksOut_0 : decode b_leaveBlanksOut 0 = .ok (.aload_n 0, 1) := by decide +kernel
theorem d_leaveBlanksOut_1 : decode b_leaveBlanksOut 1 = .ok (.iconst 0, 1) := by decide +kernel
theorem d_leaveBlanksOut_2 : decode b_leaveBlanksOut 2 = .ok (.putfield 114, 3) := by decide +kernel
theorem d_leaveBlanksOut_5 : decode b_leaveBlanksOut 5 = .ok (.aload_n 0, 1) := by decide +kernel
theorem d_leaveBlanksOut_6 : decode b_leaveBlanksOut 6 = .ok (.aload_n 0, 1) := by decide +kernel
theorem d_leaveBlanksOut_7 : decode b_leaveBlanksOut 7 = .ok (.getfield 32, 3) := by decide +kernel
theorem d_leaveBlanksOut_10 : decode b_leaveBlanksOut 10 = .ok (.putfield 117, 3) := by decide +kernel
theorem d_leaveBlanksOut_13 : decode b_leaveBlanksOut 13 = .ok (.aload_n 0, 1) := by decide +kernel
theorem d_leaveBlanksOut_14 : decode b_leaveBlanksOut 14 = .ok (.getfield 114, 3) := by decide +kernel
theorem d_leaveBlanksOut_17 : decode b_leaveBlanksOut 17 = .ok (.aload_n 0, 1) := by decide +kernel
theorem d_leaveBlanksOut_18 : decode b_leaveBlanksOut 18 = .ok (.getfield 117, 3) := by decide +kernel
theorem d_leaveBlanksOut_21 : decode b_leaveBlanksOut 21 = .ok (.if_icmp .ge 31, 3) := by decide +kernel
theorem d_leaveBlanksOut_24 : decode b_leaveBlanksOut 24 = .ok (.aload_n 0, 1) := by decide +kernel
theorem d_leaveBlanksOut_25 : decode b_leaveBlanksOut 25 = .ok (.getfield 28, 3) := by decide +kernel
theorem d_leaveBlanksOut_28 : decode b_leaveBlanksOut 28 = .ok (.aload_n 0, 1) := by decide +kernel
theorem d_leaveBlanksOut_29 : decode b_leaveBlanksOut 29 = .ok (.getfield 114, 3) := by decide +kernel
theorem d_leaveBlanksOut_32 : decode b_leaveBlanksOut 32 = .ok (.baload, 1) := by decide +kernel
theorem d_leaveBlanksOut_33 : decode b_leaveBlanksOut 33 = .ok (.invokestatic 120, 3) := by decide +kernel
theorem d_leaveBlanksOut_36 : decode b_leaveBlanksOut 36 = .ok (.ifCond .eq 16, 3) := by decide +kernel
theorem d_leaveBlanksOut_39 : decode b_leaveBlanksOut 39 = .ok (.aload_n 0, 1) := by decide +kernel
theorem d_leaveBlanksOut_40 : decode b_leaveBlanksOut 40 = .ok (.dup, 1) := by decide +kernel
theorem d_leaveBlanksOut_41 : decode b_leaveBlanksOut 41 = .ok (.getfield 114, 3) := by decide +kernel
theorem d_leaveBlanksOut_44 : decode b_leaveBlanksOut 44 = .ok (.iconst 1, 1) := by decide +kernel
theorem d_leaveBlanksOut_45 : decode b_leaveBlanksOut 45 = .ok (.iadd, 1) := by decide +kernel
theorem d_leaveBlanksOut_46 : decode b_leaveBlanksOut 46 = .ok (.putfield 114, 3) := by decide +kernel
theorem d_leaveBlanksOut_49 : decode b_leaveBlanksOut 49 = .ok (.goto (-36), 3) := by decide +kernel
theorem d_leaveBlanksOut_52 : decode b_leaveBlanksOut 52 = .ok (.aload_n 0, 1) := by decide +kernel
theorem d_leaveBlanksOut_53 : decode b_leaveBlanksOut 53 = .ok (.getfield 117, 3) := by decide +kernel
theorem d_leaveBlanksOut_56 : decode b_leaveBlanksOut 56 = .ok (.aload_n 0, 1) := by decide +kernel
theorem d_leaveBlanksOut_57 : decode b_leaveBlanksOut 57 = .ok (.getfield 114, 3) := by decide +kernel
theorem d_leaveBlanksOut_60 : decode b_leaveBlanksOut 60 = .ok (.if_icmp .le 33, 3) := by decide +kernel
theorem d_leaveBlanksOut_63 : decode b_leaveBlanksOut 63 = .ok (.aload_n 0, 1) := by decide +kernel
theorem d_leaveBlanksOut_64 : decode b_leaveBlanksOut 64 = .ok (.getfield 28, 3) := by decide +kernel
theorem d_leaveBlanksOut_67 : decode b_leaveBlanksOut 67 = .ok (.aload_n 0, 1) := by decide +kernel
theorem d_leaveBlanksOut_68 : decode b_leaveBlanksOut 68 = .ok (.getfield 117, 3) := by decide +kernel
theorem d_leaveBlanksOut_71 : decode b_leaveBlanksOut 71 = .ok (.iconst 1, 1) := by decide +kernel
theorem d_leaveBlanksOut_72 : decode b_leaveBlanksOut 72 = .ok (.isub, 1) := by decide +kernel
theorem d_leaveBlanksOut_73 : decode b_leaveBlanksOut 73 = .ok (.baload, 1) := by decide +kernel
theorem d_leaveBlanksOut_74 : decode b_leaveBlanksOut 74 = .ok (.invokestatic 120, 3) := by decide +kernel
theorem d_leaveBlanksOut_77 : decode b_leaveBlanksOut 77 = .ok (.ifCond .eq 16, 3) := by decide +kernel
theorem d_leaveBlanksOut_80 : decode b_leaveBlanksOut 80 = .ok (.aload_n 0, 1) := by decide +kernel
theorem d_leaveBlanksOut_81 : decode b_leaveBlanksOut 81 = .ok (.dup, 1) := by decide +kernel
theorem d_leaveBlanksOut_82 : decode b_leaveBlanksOut 82 = .ok (.getfield 117, 3) := by decide +kernel
theorem d_leaveBlanksOut_85 : decode b_leaveBlanksOut 85 = .ok (.iconst 1, 1) := by decide +kernel
theorem d_leaveBlanksOut_86 : decode b_leaveBlanksOut 86 = .ok (.isub, 1) := by decide +kernel
theorem d_leaveBlanksOut_87 : decode b_leaveBlanksOut 87 = .ok (.putfield 117, 3) := by decide +kernel
theorem d_leaveBlanksOut_90 : decode b_leaveBlanksOut 90 = .ok (.goto (-38), 3) := by decide +kernel
theorem d_leaveBlanksOut_93 : decode b_leaveBlanksOut 93 = .ok (.return_, 1) := by decide +kernel
theorem d_scanDigits_0 : decode b_scanDigits 0 = .ok (.aload_n 0, 1) := by decide +kernel
theorem d_scanDigits_1 : decode b_scanDigits 1 = .ok (.aload_n 0, 1) := by decide +kernel
theorem d_scanDigits_2 : decode b_scanDigits 2 = .ok (.invokevirtual 124, 3) := by decide +kernel
theorem d_scanDigits_5 : decode b_scanDigits 5 = .ok (.ifCond .eq 7, 3) := by decide +kernel
theorem d_scanDigits_8 : decode b_scanDigits 8 = .ok (.iconst 3, 1) := by decide +kernel
theorem d_scanDigits_9 : decode b_scanDigits 9 = .ok (.goto 4, 3) := by decide +kernel
theorem d_scanDigits_12 : decode b_scanDigits 12 = .ok (.iconst 2, 1) := by decide +kernel
theorem d_scanDigits_13 : decode b_scanDigits 13 = .ok (.putfield 68, 3) := by decide +kernel
theorem d_scanDigits_16 : decode b_scanDigits 16 = .ok (.aload_n 0, 1) := by decide +kernel
theorem d_scanDigits_17 : decode b_scanDigits 17 = .ok (.getfield 68, 3) := by decide +kernel
theorem d_scanDigits_20 : decode b_scanDigits 20 = .ok (.iconst 3, 1) := by decide +kernel
theorem d_scanDigits_21 : decode b_scanDigits 21 = .ok (.if_icmp .ne 8, 3) := by decide +kernel
theorem d_scanDigits_24 : decode b_scanDigits 24 = .ok (.bipush 16, 2) := by decide +kernel
theorem d_scanDigits_26 : decode b_scanDigits 26 = .ok (.goto 5, 3) := by decide +kernel
theorem d_scanDigits_29 : decode b_scanDigits 29 = .ok (.bipush 10, 2) := by decide +kernel
theorem d_scanDigits_31 : decode b_scanDigits 31 = .ok (.istore_n 1, 1) := by decide +kernel
theorem d_scanDigits_32 : decode b_scanDigits 32 = .ok (.aload_n 0, 1) := by decide +kernel
theorem d_scanDigits_33 : decode b_scanDigits 33 = .ok (.aload_n 0, 1) := by decide +kernel
theorem d_scanDigits_34 : decode b_scanDigits 34 = .ok (.getfield 114, 3) := by decide +kernel
theorem d_scanDigits_37 : decode b_scanDigits 37 = .ok (.putfield 127, 3) := by decide +kernel
theorem d_scanDigits_40 : decode b_scanDigits 40 = .ok (.aload_n 0, 1) := by decide +kernel
theorem d_scanDigits_41 : decode b_scanDigits 41 = .ok (.aload_n 0, 1) := by decide +kernel
theorem d_scanDigits_42 : decode b_scanDigits 42 = .ok (.iload_n 1, 1) := by decide +kernel
theorem d_scanDigits_43 : decode b_scanDigits 43 = .ok (.invokevirtual 130, 3) := by decide +kernel
theorem d_scanDigits_46 : decode b_scanDigits 46 = .ok (.putfield 134, 3) := by decide +kernel
theorem d_scanDigits_49 : decode b_scanDigits 49 = .ok (.aload_n 0, 1) := by decide +kernel
theorem d_scanDigits_50 : decode b_scanDigits 50 = .ok (.getfield 134, 3) := by decide +kernel
theorem d_scanDigits_53 : decode b_scanDigits 53 = .ok (.istore_n 2, 1) := by decide +kernel
theorem d_scanDigits_54 : decode b_scanDigits 54 = .ok (.aload_n 0, 1) := by decide +kernel
theorem d_scanDigits_55 : decode b_scanDigits 55 = .ok (.bipush 46, 2) := by decide +kernel
theorem d_scanDigits_57 : decode b_scanDigits 57 = .ok (.invokevirtual 137, 3) := by decide +kernel
theorem d_scanDigits_60 : decode b_scanDigits 60 = .ok (.ifCond .eq 11, 3) := by decide +kernel
theorem d_scanDigits_63 : decode b_scanDigits 63 = .ok (.iload_n 2, 1) := by decide +kernel
theorem d_scanDigits_64 : decode b_scanDigits 64 = .ok (.aload_n 0, 1) := by decide +kernel
theorem d_scanDigits_65 : decode b_scanDigits 65 = .ok (.iload_n 1, 1) := by decide +kernel
theorem d_scanDigits_66 : decode b_scanDigits 66 = .ok (.invokevirtual 130, 3) := by decide +kernel
theorem d_scanDigits_69 : decode b_scanDigits 69 = .ok (.iadd, 1) := by decide +kernel
theorem d_scanDigits_70 : decode b_scanDigits 70 = .ok (.istore_n 2, 1) := by decide +kernel
theorem d_scanDigits_71 : decode b_scanDigits 71 = .ok (.aload_n 0, 1) := by decide +kernel
theorem d_scanDigits_72 : decode b_scanDigits 72 = .ok (.aload_n 0, 1) := by decide +kernel
theorem d_scanDigits_73 : decode b_scanDigits 73 = .ok (.getfield 114, 3) := by decide +kernel
theorem d_scanDigits_76 : decode b_scanDigits 76 = .ok (.putfield 141, 3) := by decide +kernel
theorem d_scanDigits_79 : decode b_scanDigits 79 = .ok (.iload_n 2, 1) := by decide +kernel
theorem d_scanDigits_80 : decode b_scanDigits 80 = .ok (.ifCond .le 7, 3) := by decide +kernel
theorem d_scanDigits_83 : decode b_scanDigits 83 = .ok (.iconst 1, 1) := by decide +kernel
theorem d_scanDigits_84 : decode b_scanDigits 84 = .ok (.goto 4, 3) := by decide +kernel
theorem d_scanDigits_87 : decode b_scanDigits 87 = .ok (.iconst 0, 1) := by decide +kernel
theorem d_scanDigits_88 : decode b_scanDigits 88 = .ok (.ireturn, 1) := by decide +kernel
theorem d_scanExponent_0 : decode b_scanExponent 0 = .ok (.aload_n 0, 1) := by decide +kernel
theorem d_scanExponent_1 : decode b_scanExponent 1 = .ok (.iconst 0, 1) := by decide +kernel
theorem d_scanExponent_2 : decode b_scanExponent 2 = .ok (.putfield 144, 3) := by decide +kernel
theorem d_scanExponent_5 : decode b_scanExponent 5 = .ok (.aload_n 0, 1) := by decide +kernel
theorem d_scanExponent_6 : decode b_scanExponent 6 = .ok (.getfield 68, 3) := by decide +kernel
theorem d_scanExponent_9 : decode b_scanExponent 9 = .ok (.iconst 3, 1) := by decide +kernel
theorem d_scanExponent_10 : decode b_scanExponent 10 = .ok (.if_icmp .ne 29, 3) := by decide +kernel
theorem d_scanExponent_13 : decode b_scanExponent 13 = .ok (.aload_n 0, 1) := by decide +kernel
theorem d_scanExponent_14 : decode b_scanExponent 14 = .ok (.bipush 112, 2) := by decide +kernel
theorem d_scanExponent_16 : decode b_scanExponent 16 = .ok (.invokevirtual 137, 3) := by decide +kernel
theorem d_scanExponent_19 : decode b_scanExponent 19 = .ok (.ifCond .ne 12, 3) := by decide +kernel
theorem d_scanExponent_22 : decode b_scanExponent 22 = .ok (.aload_n 0, 1) := by decide +kernel
theorem d_scanExponent_23 : decode b_scanExponent 23 = .ok (.bipush 80, 2) := by decide +kernel
theorem d_scanExponent_25 : decode b_scanExponent 25 = .ok (.invokevirtual 137, 3) := by decide +kernel
theorem d_scanExponent_28 : decode b_scanExponent 28 = .ok (.ifCond .eq 7, 3) := by decide +kernel
theorem d_scanExponent_31 : decode b_scanExponent 31 = .ok (.iconst 1, 1) := by decide +kernel
theorem d_scanExponent_32 : decode b_scanExponent 32 = .ok (.goto 30, 3) := by decide +kernel
theorem d_scanExponent_35 : decode b_scanExponent 35 = .ok (.iconst 0, 1) := by decide +kernel
theorem d_scanExponent_36 : decode b_scanExponent 36 = .ok (.goto 26, 3) := by decide +kernel
theorem d_scanExponent_39 : decode b_scanExponent 39 = .ok (.aload_n 0, 1) := by decide +kernel
theorem d_scanExponent_40 : decode b_scanExponent 40 = .ok (.bipush 101, 2) := by decide +kernel
theorem d_scanExponent_42 : decode b_scanExponent 42 = .ok (.invokevirtual 137, 3) := by decide +kernel
theorem d_scanExponent_45 : decode b_scanExponent 45 = .ok (.ifCond .ne 12, 3) := by decide +kernel
theorem d_scanExponent_48 : decode b_scanExponent 48 = .ok (.aload_n 0, 1) := by decide +kernel
theorem d_scanExponent_49 : decode b_scanExponent 49 = .ok (.bipush 69, 2) := by decide +kernel
theorem d_scanExponent_51 : decode b_scanExponent 51 = .ok (.invokevirtual 137, 3) := by decide +kernel
theorem d_scanExponent_54 : decode b_scanExponent 54 = .ok (.ifCond .eq 7, 3) := by decide +kernel
theorem d_scanExponent_57 : decode b_scanExponent 57 = .ok (.iconst 1, 1) := by decide +kernel
theorem d_scanExponent_58 : decode b_scanExponent 58 = .ok (.goto 4, 3) := by decide +kernel
theorem d_scanExponent_61 : decode b_scanExponent 61 = .ok (.iconst 0, 1) := by decide +kernel
theorem d_scanExponent_62 : decode b_scanExponent 62 = .ok (.istore_n 1, 1) := by decide +kernel
theorem d_scanExponent_63 : decode b_scanExponent 63 = .ok (.iload_n 1, 1) := by decide +kernel
theorem d_scanExponent_64 : decode b_scanExponent 64 = .ok (.ifCond .ne 17, 3) := by decide +kernel
theorem d_scanExponent_67 : decode b_scanExponent 67 = .ok (.aload_n 0, 1) := by decide +kernel
theorem d_scanExponent_68 : decode b_scanExponent 68 = .ok (.getfield 68, 3) := by decide +kernel
theorem d_scanExponent_71 : decode b_scanExponent 71 = .ok (.iconst 2, 1) := by decide +kernel
theorem d_scanExponent_72 : decode b_scanExponent 72 = .ok (.if_icmp .ne 7, 3) := by decide +kernel
theorem d_scanExponent_75 : decode b_scanExponent 75 = .ok (.iconst 1, 1) := by decide +kernel
theorem d_scanExponent_76 : decode b_scanExponent 76 = .ok (.goto 4, 3) := by decide +kernel
theorem d_scanExponent_79 : decode b_scanExponent 79 = .ok (.iconst 0, 1) := by decide +kernel
theorem d_scanExponent_80 : decode b_scanExponent 80 = .ok (.ireturn, 1) := by decide +kernel
theorem d_scanExponent_81 : decode b_scanExponent 81 = .ok (.aload_n 0, 1) := by decide +kernel
theorem d_scanExponent_82 : decode b_scanExponent 82 = .ok (.invokevirtual 94, 3) := by decide +kernel
theorem d_scanExponent_85 : decode b_scanExponent 85 = .ok (.istore_n 2, 1) := by decide +kernel
theorem d_scanExponent_86 : decode b_scanExponent 86 = .ok (.aload_n 0, 1) := by decide +kernel
theorem d_scanExponent_87 : decode b_scanExponent 87 = .ok (.getfield 114, 3) := by decide +kernel
theorem d_scanExponent_90 : decode b_scanExponent 90 = .ok (.istore_n 3, 1) := by decide +kernel
theorem d_scanExponent_91 : decode b_scanExponent 91 = .ok (.iload_n 3, 1) := by decide +kernel
theorem d_scanExponent_92 : decode b_scanExponent 92 = .ok (.aload_n 0, 1) := by decide +kernel
theorem d_scanExponent_93 : decode b_scanExponent 93 = .ok (.bipush 10, 2) := by decide +kernel
theorem d_scanExponent_95 : decode b_scanExponent 95 = .ok (.invokevirtual 130, 3) := by decide +kernel
theorem d_scanExponent_98 : decode b_scanExponent 98 = .ok (.iadd, 1) := by decide +kernel
theorem d_scanExponent_99 : decode b_scanExponent 99 = .ok (.istore 4, 2) := by decide +kernel
theorem d_scanExponent_101 : decode b_scanExponent 101 = .ok (.iload_n 3, 1) := by decide +kernel
theorem d_scanExponent_102 : decode b_scanExponent 102 = .ok (.istore 5, 2) := by decide +kernel
theorem d_scanExponent_104 : decode b_scanExponent 104 = .ok (.iload 5, 2) := by decide +kernel
theorem d_scanExponent_106 : decode b_scanExponent 106 = .ok (.iload 4, 2) := by decide +kernel
theorem d_scanExponent_108 : decode b_scanExponent 108 = .ok (.if_icmp .ge 40, 3) := by decide +kernel
theorem d_scanExponent_111 : decode b_scanExponent 111 = .ok (.aload_n 0, 1) := by decide +kernel
theorem d_scanExponent_112 : decode b_scanExponent 112 = .ok (.getfield 144, 3) := by decide +kernel
theorem d_scanExponent_115 : decode b_scanExponent 115 = .ok (.ldc 147, 2) := by decide +kernel
theorem d_scanExponent_117 : decode b_scanExponent 117 = .ok (.if_icmp .ge 31, 3) := by decide +kernel
theorem d_scanExponent_120 : decode b_scanExponent 120 = .ok (.aload_n 0, 1) := by decide +kernel
theorem d_scanExponent_121 : decode b_scanExponent 121 = .ok (.bipush 10, 2) := by decide +kernel
theorem d_scanExponent_123 : decode b_scanExponent 123 = .ok (.aload_n 0, 1) := by decide +kernel
theorem d_scanExponent_124 : decode b_scanExponent 124 = .ok (.getfield 144, 3) := by decide +kernel
theorem d_scanExponent_127 : decode b_scanExponent 127 = .ok (.imul, 1) := by decide +kernel
theorem d_scanExponent_128 : decode b_scanExponent 128 = .ok (.aload_n 0, 1) := by decide +kernel
theorem d_scanExponent_129 : decode b_scanExponent 129 = .ok (.getfield 28, 3) := by decide +kernel
theorem d_scanExponent_132 : decode b_scanExponent 132 = .ok (.iload 5, 2) := by decide +kernel
theorem d_scanExponent_134 : decode b_scanExponent 134 = .ok (.baload, 1) := by decide +kernel
theorem d_scanExponent_135 : decode b_scanExponent 135 = .ok (.invokestatic 148, 3) := by decide +kernel
theorem d_scanExponent_138 : decode b_scanExponent 138 = .ok (.iadd, 1) := by decide +kernel
theorem d_scanExponent_139 : decode b_scanExponent 139 = .ok (.putfield 144, 3) := by decide +kernel
theorem d_scanExponent_142 : decode b_scanExponent 142 = .ok (.iinc 5 1, 3) := by decide +kernel
theorem d_scanExponent_145 : decode b_scanExponent 145 = .ok (.goto (-41), 3) := by decide +kernel
theorem d_scanExponent_148 : decode b_scanExponent 148 = .ok (.iload_n 2, 1) := by decide +kernel
theorem d_scanExponent_149 : decode b_scanExponent 149 = .ok (.ifCond .eq 12, 3) := by decide +kernel
theorem d_scanExponent_152 : decode b_scanExponent 152 = .ok (.aload_n 0, 1) := by decide +kernel
theorem d_scanExponent_153 : decode b_scanExponent 153 = .ok (.aload_n 0, 1) := by decide +kernel
theorem d_scanExponent_154 : decode b_scanExponent 154 = .ok (.getfield 144, 3) := by decide +kernel
theorem d_scanExponent_157 : decode b_scanExponent 157 = .ok (.ineg, 1) := by decide +kernel
theorem d_scanExponent_158 : decode b_scanExponent 158 = .ok (.putfield 144, 3) := by decide +kernel
theorem d_scanExponent_161 : decode b_scanExponent 161 = .ok (.iload 4, 2) := by decide +kernel
theorem d_scanExponent_163 : decode b_scanExponent 163 = .ok (.iload_n 3, 1) := by decide +kernel
theorem d_scanExponent_164 : decode b_scanExponent 164 = .ok (.if_icmp .le 7, 3) := by decide +kernel
theorem d_scanExponent_167 : decode b_scanExponent 167 = .ok (.iconst 1, 1) := by decide +kernel
theorem d_scanExponent_168 : decode b_scanExponent 168 = .ok (.goto 4, 3) := by decide +kernel
theorem d_scanExponent_171 : decode b_scanExponent 171 = .ok (.iconst 0, 1) := by decide +kernel
theorem d_scanExponent_172 : decode b_scanExponent 172 = .ok (.ireturn, 1) := by decide +kernel
theorem d_restIsSuffix_0 : decode b_restIsSuffix 0 = .ok (.aload_n 0, 1) := by decide +kernel
theorem d_restIsSuffix_1 : decode b_restIsSuffix 1 = .ok (.getfield 114, 3) := by decide +kernel
theorem d_restIsSuffix_4 : decode b_restIsSuffix 4 = .ok (.aload_n 0, 1) := by decide +kernel
theorem d_restIsSuffix_5 : decode b_restIsSuffix 5 = .ok (.getfield 117, 3) := by decide +kernel
theorem d_restIsSuffix_8 : decode b_restIsSuffix 8 = .ok (.if_icmp .eq 39, 3) := by decide +kernel
theorem d_restIsSuffix_11 : decode b_restIsSuffix 11 = .ok (.aload_n 0, 1) := by decide +kernel
theorem d_restIsSuffix_12 : decode b_restIsSuffix 12 = .ok (.ldc 152, 2) := by decide +kernel
theorem d_restIsSuffix_14 : decode b_restIsSuffix 14 = .ok (.invokevirtual 99, 3) := by decide +kernel
theorem d_restIsSuffix_17 : decode b_restIsSuffix 17 = .ok (.ifCond .ne 30, 3) := by decide +kernel
theorem d_restIsSuffix_20 : decode b_restIsSuffix 20 = .ok (.aload_n 0, 1) := by decide +kernel
theorem d_restIsSuffix_21 : decode b_restIsSuffix 21 = .ok (.ldc 154, 2) := by decide +kernel
theorem d_restIsSuffix_23 : decode b_restIsSuffix 23 = .ok (.invokevirtual 99, 3) := by decide +kernel
theorem d_restIsSuffix_26 : decode b_restIsSuffix 26 = .ok (.ifCond .ne 21, 3) := by decide +kernel
theorem d_restIsSuffix_29 : decode b_restIsSuffix 29 = .ok (.aload_n 0, 1) := by decide +kernel
theorem d_restIsSuffix_30 : decode b_restIsSuffix 30 = .ok (.ldc 156, 2) := by decide +kernel
theorem d_restIsSuffix_32 : decode b_restIsSuffix 32 = .ok (.invokevirtual 99, 3) := by decide +kernel
theorem d_restIsSuffix_35 : decode b_restIsSuffix 35 = .ok (.ifCond .ne 12, 3) := by decide +kernel
theorem d_restIsSuffix_38 : decode b_restIsSuffix 38 = .ok (.aload_n 0, 1) := by decide +kernel
theorem d_restIsSuffix_39 : decode b_restIsSuffix 39 = .ok (.ldc 158, 2) := by decide +kernel
theorem d_restIsSuffix_41 : decode b_restIsSuffix 41 = .ok (.invokevirtual 99, 3) := by decide +kernel
theorem d_restIsSuffix_44 : decode b_restIsSuffix 44 = .ok (.ifCond .eq 7, 3) := by decide +kernel
theorem d_restIsSuffix_47 : decode b_restIsSuffix 47 = .ok (.iconst 1, 1) := by decide +kernel
theorem d_restIsSuffix_48 : decode b_restIsSuffix 48 = .ok (.goto 4, 3) := by decide +kernel
theorem d_restIsSuffix_51 : decode b_restIsSuffix 51 = .ok (.iconst 0, 1) := by decide +kernel
theorem d_restIsSuffix_52 : decode b_restIsSuffix 52 = .ok (.ireturn, 1) := by decide +kernel
theorem d_takeSign_0 : decode b_takeSign 0 = .ok (.aload_n 0, 1) := by decide +kernel
theorem d_takeSign_1 : decode b_takeSign 1 = .ok (.bipush 45, 2) := by decide +kernel
theorem d_takeSign_3 : decode b_takeSign 3 = .ok (.invokevirtual 137, 3) := by decide +kernel
theorem d_takeSign_6 : decode b_takeSign 6 = .ok (.ifCond .eq 5, 3) := by decide +kernel
theorem d_takeSign_9 : decode b_takeSign 9 = .ok (.iconst 1, 1) := by decide +kernel
theorem d_takeSign_10 : decode b_takeSign 10 = .ok (.ireturn, 1) := by decide +kernel
theorem d_takeSign_11 : decode b_takeSign 11 = .ok (.aload_n 0, 1) := by decide +kernel
theorem d_takeSign_12 : decode b_takeSign 12 = .ok (.bipush 43, 2) := by decide +kernel
theorem d_takeSign_14 : decode b_takeSign 14 = .ok (.invokevirtual 137, 3) := by decide +kernel
theorem d_takeSign_17 : decode b_takeSign 17 = .ok (.pop, 1) := by decide +kernel
theorem d_takeSign_18 : decode b_takeSign 18 = .ok (.iconst 0, 1) := by decide +kernel
theorem d_takeSign_19 : decode b_takeSign 19 = .ok (.ireturn, 1) := by decide +kernel
theorem d_takeHexStart_0 : decode b_takeHexStart 0 = .ok (.aload_n 0, 1) := by decide +kernel
theorem d_takeHexStart_1 : decode b_takeHexStart 1 = .ok (.getfield 114, 3) := by decide +kernel
theorem d_takeHexStart_4 : decode b_takeHexStart 4 = .ok (.iconst 1, 1) := by decide +kernel
theorem d_takeHexStart_5 : decode b_takeHexStart 5 = .ok (.iadd, 1) := by decide +kernel
theorem d_takeHexStart_6 : decode b_takeHexStart 6 = .ok (.aload_n 0, 1) := by decide +kernel
theorem d_takeHexStart_7 : decode b_takeHexStart 7 = .ok (.getfield 117, 3) := by decide +kernel
theorem d_takeHexStart_10 : decode b_takeHexStart 10 = .ok (.if_icmp .ge 53, 3) := by decide +kernel
theorem d_takeHexStart_13 : decode b_takeHexStart 13 = .ok (.aload_n 0, 1) := by decide +kernel
theorem d_takeHexStart_14 : decode b_takeHexStart 14 = .ok (.getfield 28, 3) := by decide +kernel
theorem d_takeHexStart_17 : decode b_takeHexStart 17 = .ok (.aload_n 0, 1) := by decide +kernel
theorem d_takeHexStart_18 : decode b_takeHexStart 18 = .ok (.getfield 114, 3) := by decide +kernel
theorem d_takeHexStart_21 : decode b_takeHexStart 21 = .ok (.baload, 1) := by decide +kernel
theorem d_takeHexStart_22 : decode b_takeHexStart 22 = .ok (.bipush 48, 2) := by decide +kernel
theorem d_takeHexStart_24 : decode b_takeHexStart 24 = .ok (.if_icmp .ne 39, 3) := by decide +kernel
theorem d_takeHexStart_27 : decode b_takeHexStart 27 = .ok (.aload_n 0, 1) := by decide +kernel
theorem d_takeHexStart_28 : decode b_takeHexStart 28 = .ok (.getfield 28, 3) := by decide +kernel
theorem d_takeHexStart_31 : decode b_takeHexStart 31 = .ok (.aload_n 0, 1) := by decide +kernel
theorem d_takeHexStart_32 : decode b_takeHexStart 32 = .ok (.getfield 114, 3) := by decide +kernel
theorem d_takeHexStart_35 : decode b_takeHexStart 35 = .ok (.iconst 1, 1) := by decide +kernel
theorem d_takeHexStart_36 : decode b_takeHexStart 36 = .ok (.iadd, 1) := by decide +kernel
theorem d_takeHexStart_37 : decode b_takeHexStart 37 = .ok (.baload, 1) := by decide +kernel
theorem d_takeHexStart_38 : decode b_takeHexStart 38 = .ok (.bipush 120, 2) := by decide +kernel
theorem d_takeHexStart_40 : decode b_takeHexStart 40 = .ok (.if_icmp .eq 19, 3) := by decide +kernel
theorem d_takeHexStart_43 : decode b_takeHexStart 43 = .ok (.aload_n 0, 1) := by decide +kernel
theorem d_takeHexStart_44 : decode b_takeHexStart 44 = .ok (.getfield 28, 3) := by decide +kernel
theorem d_takeHexStart_47 : decode b_takeHexStart 47 = .ok (.aload_n 0, 1) := by decide +kernel
theorem d_takeHexStart_48 : decode b_takeHexStart 48 = .ok (.getfield 114, 3) := by decide +kernel
theorem d_takeHexStart_51 : decode b_takeHexStart 51 = .ok (.iconst 1, 1) := by decide +kernel
theorem d_takeHexStart_52 : decode b_takeHexStart 52 = .ok (.iadd, 1) := by decide +kernel
theorem d_takeHexStart_53 : decode b_takeHexStart 53 = .ok (.baload, 1) := by decide +kernel
theorem d_takeHexStart_54 : decode b_takeHexStart 54 = .ok (.bipush 88, 2) := by decide +kernel
theorem d_takeHexStart_56 : decode b_takeHexStart 56 = .ok (.if_icmp .ne 7, 3) := by decide +kernel
theorem d_takeHexStart_59 : decode b_takeHexStart 59 = .ok (.iconst 1, 1) := by decide +kernel
theorem d_takeHexStart_60 : decode b_takeHexStart 60 = .ok (.goto 4, 3) := by decide +kernel
theorem d_takeHexStart_63 : decode b_takeHexStart 63 = .ok (.iconst 0, 1) := by decide +kernel
theorem d_takeHexStart_64 : decode b_takeHexStart 64 = .ok (.istore_n 1, 1) := by decide +kernel
theorem d_takeHexStart_65 : decode b_takeHexStart 65 = .ok (.iload_n 1, 1) := by decide +kernel
theorem d_takeHexStart_66 : decode b_takeHexStart 66 = .ok (.ifCond .eq 13, 3) := by decide +kernel
theorem d_takeHexStart_69 : decode b_takeHexStart 69 = .ok (.aload_n 0, 1) := by decide +kernel
theorem d_takeHexStart_70 : decode b_takeHexStart 70 = .ok (.dup, 1) := by decide +kernel
theorem d_takeHexStart_71 : decode b_takeHexStart 71 = .ok (.getfield 114, 3) := by decide +kernel
theorem d_takeHexStart_74 : decode b_takeHexStart 74 = .ok (.iconst 2, 1) := by decide +kernel
theorem d_takeHexStart_75 : decode b_takeHexStart 75 = .ok (.iadd, 1) := by decide +kernel
theorem d_takeHexStart_76 : decode b_takeHexStart 76 = .ok (.putfield 114, 3) := by decide +kernel
theorem d_takeHexStart_79 : decode b_takeHexStart 79 = .ok (.iload_n 1, 1) := by decide +kernel
theorem d_takeHexStart_80 : decode b_takeHexStart 80 = .ok (.ireturn, 1) := by decide +kernel
theorem d_take_0 : decode b_take 0 = .ok (.aload_n 0, 1) := by decide +kernel
theorem d_take_1 : decode b_take 1 = .ok (.getfield 114, 3) := by decide +kernel
theorem d_take_4 : decode b_take 4 = .ok (.aload_n 0, 1) := by decide +kernel
theorem d_take_5 : decode b_take 5 = .ok (.getfield 117, 3) := by decide +kernel
theorem d_take_8 : decode b_take 8 = .ok (.if_icmp .ge 16, 3) := by decide +kernel
theorem d_take_11 : decode b_take 11 = .ok (.aload_n 0, 1) := by decide +kernel
theorem d_take_12 : decode b_take 12 = .ok (.getfield 28, 3) := by decide +kernel
theorem d_take_15 : decode b_take 15 = .ok (.aload_n 0, 1) := by decide +kernel
theorem d_take_16 : decode b_take 16 = .ok (.getfield 114, 3) := by decide +kernel
theorem d_take_19 : decode b_take 19 = .ok (.baload, 1) := by decide +kernel
theorem d_take_20 : decode b_take 20 = .ok (.iload_n 1, 1) := by decide +kernel
theorem d_take_21 : decode b_take 21 = .ok (.if_icmp .eq 5, 3) := by decide +kernel
theorem d_take_24 : decode b_take 24 = .ok (.iconst 0, 1) := by decide +kernel
theorem d_take_25 : decode b_take 25 = .ok (.ireturn, 1) := by decide +kernel
theorem d_take_26 : decode b_take 26 = .ok (.aload_n 0, 1) := by decide +kernel
theorem d_take_27 : decode b_take 27 = .ok (.dup, 1) := by decide +kernel
theorem d_take_28 : decode b_take 28 = .ok (.getfield 114, 3) := by decide +kernel
theorem d_take_31 : decode b_take 31 = .ok (.iconst 1, 1) := by decide +kernel
theorem d_take_32 : decode b_take 32 = .ok (.iadd, 1) := by decide +kernel
theorem d_take_33 : decode b_take 33 = .ok (.putfield 114, 3) := by decide +kernel
theorem d_take_36 : decode b_take 36 = .ok (.iconst 1, 1) := by decide +kernel
theorem d_take_37 : decode b_take 37 = .ok (.ireturn, 1) := by decide +kernel
theorem d_restIs_0 : decode b_restIs 0 = .ok (.aload_n 0, 1) := by decide +kernel
theorem d_restIs_1 : decode b_restIs 1 = .ok (.getfield 117, 3) := by decide +kernel
theorem d_restIs_4 : decode b_restIs 4 = .ok (.aload_n 0, 1) := by decide +kernel
theorem d_restIs_5 : decode b_restIs 5 = .ok (.getfield 114, 3) := by decide +kernel
theorem d_restIs_8 : decode b_restIs 8 = .ok (.isub, 1) := by decide +kernel
theorem d_restIs_9 : decode b_restIs 9 = .ok (.aload_n 1, 1) := by decide +kernel
theorem d_restIs_10 : decode b_restIs 10 = .ok (.invokevirtual 160, 3) := by decide +kernel
theorem d_restIs_13 : decode b_restIs 13 = .ok (.if_icmp .eq 5, 3) := by decide +kernel
theorem d_restIs_16 : decode b_restIs 16 = .ok (.iconst 0, 1) := by decide +kernel
theorem d_restIs_17 : decode b_restIs 17 = .ok (.ireturn, 1) := by decide +kernel
theorem d_restIs_18 : decode b_restIs 18 = .ok (.iconst 0, 1) := by decide +kernel
theorem d_restIs_19 : decode b_restIs 19 = .ok (.istore_n 2, 1) := by decide +kernel
theorem d_restIs_20 : decode b_restIs 20 = .ok (.iload_n 2, 1) := by decide +kernel
theorem d_restIs_21 : decode b_restIs 21 = .ok (.aload_n 1, 1) := by decide +kernel
theorem d_restIs_22 : decode b_restIs 22 = .ok (.invokevirtual 160, 3) := by decide +kernel
theorem d_restIs_25 : decode b_restIs 25 = .ok (.if_icmp .ge 30, 3) := by decide +kernel
theorem d_restIs_28 : decode b_restIs 28 = .ok (.aload_n 0, 1) := by decide +kernel
theorem d_restIs_29 : decode b_restIs 29 = .ok (.getfield 28, 3) := by decide +kernel
theorem d_restIs_32 : decode b_restIs 32 = .ok (.aload_n 0, 1) := by decide +kernel
theorem d_restIs_33 : decode b_restIs 33 = .ok (.getfield 114, 3) := by decide +kernel
theorem d_restIs_36 : decode b_restIs 36 = .ok (.iload_n 2, 1) := by decide +kernel
theorem d_restIs_37 : decode b_restIs 37 = .ok (.iadd, 1) := by decide +kernel
theorem d_restIs_38 : decode b_restIs 38 = .ok (.baload, 1) := by decide +kernel
theorem d_restIs_39 : decode b_restIs 39 = .ok (.aload_n 1, 1) := by decide +kernel
theorem d_restIs_40 : decode b_restIs 40 = .ok (.iload_n 2, 1) := by decide +kernel
theorem d_restIs_41 : decode b_restIs 41 = .ok (.invokevirtual 165, 3) := by decide +kernel
theorem d_restIs_44 : decode b_restIs 44 = .ok (.if_icmp .eq 5, 3) := by decide +kernel
theorem d_restIs_47 : decode b_restIs 47 = .ok (.iconst 0, 1) := by decide +kernel
theorem d_restIs_48 : decode b_restIs 48 = .ok (.ireturn, 1) := by decide +kernel
theorem d_restIs_49 : decode b_restIs 49 = .ok (.iinc 2 1, 3) := by decide +kernel
theorem d_restIs_52 : decode b_restIs 52 = .ok (.goto (-32), 3) := by decide +kernel
theorem d_restIs_55 : decode b_restIs 55 = .ok (.iconst 1, 1) := by decide +kernel
theorem d_restIs_56 : decode b_restIs 56 = .ok (.ireturn, 1) := by decide +kernel
theorem d_skipDigits_0 : decode b_skipDigits 0 = .ok (.aload_n 0, 1) := by decide +kernel
theorem d_skipDigits_1 : decode b_skipDigits 1 = .ok (.getfield 114, 3) := by decide +kernel
theorem d_skipDigits_4 : decode b_skipDigits 4 = .ok (.istore_n 2, 1) := by decide +kernel
theorem d_skipDigits_5 : decode b_skipDigits 5 = .ok (.aload_n 0, 1) := by decide +kernel
theorem d_skipDigits_6 : decode b_skipDigits 6 = .ok (.getfield 114, 3) := by decide +kernel
theorem d_skipDigits_9 : decode b_skipDigits 9 = .ok (.aload_n 0, 1) := by decide +kernel
theorem d_skipDigits_10 : decode b_skipDigits 10 = .ok (.getfield 117, 3) := by decide +kernel
theorem d_skipDigits_13 : decode b_skipDigits 13 = .ok (.if_icmp .ge 32, 3) := by decide +kernel
theorem d_skipDigits_16 : decode b_skipDigits 16 = .ok (.aload_n 0, 1) := by decide +kernel
theorem d_skipDigits_17 : decode b_skipDigits 17 = .ok (.getfield 28, 3) := by decide +kernel
theorem d_skipDigits_20 : decode b_skipDigits 20 = .ok (.aload_n 0, 1) := by decide +kernel
theorem d_skipDigits_21 : decode b_skipDigits 21 = .ok (.getfield 114, 3) := by decide +kernel
theorem d_skipDigits_24 : decode b_skipDigits 24 = .ok (.baload, 1) := by decide +kernel
theorem d_skipDigits_25 : decode b_skipDigits 25 = .ok (.invokestatic 148, 3) := by decide +kernel
theorem d_skipDigits_28 : decode b_skipDigits 28 = .ok (.iload_n 1, 1) := by decide +kernel
theorem d_skipDigits_29 : decode b_skipDigits 29 = .ok (.if_icmp .ge 16, 3) := by decide +kernel
theorem d_skipDigits_32 : decode b_skipDigits 32 = .ok (.aload_n 0, 1) := by decide +kernel
theorem d_skipDigits_33 : decode b_skipDigits 33 = .ok (.dup, 1) := by decide +kernel
theorem d_skipDigits_34 : decode b_skipDigits 34 = .ok (.getfield 114, 3) := by decide +kernel
theorem d_skipDigits_37 : decode b_skipDigits 37 = .ok (.iconst 1, 1) := by decide +kernel
theorem d_skipDigits_38 : decode b_skipDigits 38 = .ok (.iadd, 1) := by decide +kernel
theorem d_skipDigits_39 : decode b_skipDigits 39 = .ok (.putfield 114, 3) := by decide +kernel
theorem d_skipDigits_42 : decode b_skipDigits 42 = .ok (.goto (-37), 3) := by decide +kernel
theorem d_skipDigits_45 : decode b_skipDigits 45 = .ok (.aload_n 0, 1) := by decide +kernel
theorem d_skipDigits_46 : decode b_skipDigits 46 = .ok (.getfield 114, 3) := by decide +kernel
theorem d_skipDigits_49 : decode b_skipDigits 49 = .ok (.iload_n 2, 1) := by decide +kernel
theorem d_skipDigits_50 : decode b_skipDigits 50 = .ok (.isub, 1) := by decide +kernel
theorem d_skipDigits_51 : decode b_skipDigits 51 = .ok (.ireturn, 1) := by decide +kernel
theorem d_placeDigits_0 : decode b_placeDigits 0 = .ok (.aload_n 0, 1) := by decide +kernel
theorem d_placeDigits_1 : decode b_placeDigits 1 = .ok (.getfield 24, 3) := by decide +kernel
theorem d_placeDigits_4 : decode b_placeDigits 4 = .ok (.invokevirtual 169, 3) := by decide +kernel
theorem d_placeDigits_7 : decode b_placeDigits 7 = .ok (.aload_n 0, 1) := by decide +kernel
theorem d_placeDigits_8 : decode b_placeDigits 8 = .ok (.getfield 68, 3) := by decide +kernel
theorem d_placeDigits_11 : decode b_placeDigits 11 = .ok (.iconst 3, 1) := by decide +kernel
theorem d_placeDigits_12 : decode b_placeDigits 12 = .ok (.if_icmp .ne 7, 3) := by decide +kernel
theorem d_placeDigits_15 : decode b_placeDigits 15 = .ok (.iconst 4, 1) := by decide +kernel
theorem d_placeDigits_16 : decode b_placeDigits 16 = .ok (.goto 4, 3) := by decide +kernel
theorem d_placeDigits_19 : decode b_placeDigits 19 = .ok (.iconst 1, 1) := by decide +kernel
theorem d_placeDigits_20 : decode b_placeDigits 20 = .ok (.istore_n 1, 1) := by decide +kernel
theorem d_placeDigits_21 : decode b_placeDigits 21 = .ok (.aload_n 0, 1) := by decide +kernel
theorem d_placeDigits_22 : decode b_placeDigits 22 = .ok (.getfield 144, 3) := by decide +kernel
theorem d_placeDigits_25 : decode b_placeDigits 25 = .ok (.iload_n 1, 1) := by decide +kernel
theorem d_placeDigits_26 : decode b_placeDigits 26 = .ok (.aload_n 0, 1) := by decide +kernel
theorem d_placeDigits_27 : decode b_placeDigits 27 = .ok (.getfield 134, 3) := by decide +kernel
theorem d_placeDigits_30 : decode b_placeDigits 30 = .ok (.iconst 1, 1) := by decide +kernel
theorem d_placeDigits_31 : decode b_placeDigits 31 = .ok (.isub, 1) := by decide +kernel
theorem d_placeDigits_32 : decode b_placeDigits 32 = .ok (.imul, 1) := by decide +kernel
theorem d_placeDigits_33 : decode b_placeDigits 33 = .ok (.iadd, 1) := by decide +kernel
theorem d_placeDigits_34 : decode b_placeDigits 34 = .ok (.istore_n 2, 1) := by decide +kernel
theorem d_placeDigits_35 : decode b_placeDigits 35 = .ok (.aload_n 0, 1) := by decide +kernel
theorem d_placeDigits_36 : decode b_placeDigits 36 = .ok (.getfield 127, 3) := by decide +kernel
theorem d_placeDigits_39 : decode b_placeDigits 39 = .ok (.istore_n 3, 1) := by decide +kernel
theorem d_placeDigits_40 : decode b_placeDigits 40 = .ok (.iload_n 3, 1) := by decide +kernel
theorem d_placeDigits_41 : decode b_placeDigits 41 = .ok (.aload_n 0, 1) := by decide +kernel
theorem d_placeDigits_42 : decode b_placeDigits 42 = .ok (.getfield 141, 3) := by decide +kernel
theorem d_placeDigits_45 : decode b_placeDigits 45 = .ok (.if_icmp .ge 38, 3) := by decide +kernel
theorem d_placeDigits_48 : decode b_placeDigits 48 = .ok (.aload_n 0, 1) := by decide +kernel
theorem d_placeDigits_49 : decode b_placeDigits 49 = .ok (.getfield 28, 3) := by decide +kernel
theorem d_placeDigits_52 : decode b_placeDigits 52 = .ok (.iload_n 3, 1) := by decide +kernel
theorem d_placeDigits_53 : decode b_placeDigits 53 = .ok (.baload, 1) := by decide +kernel
theorem d_placeDigits_54 : decode b_placeDigits 54 = .ok (.bipush 46, 2) := by decide +kernel
theorem d_placeDigits_56 : decode b_placeDigits 56 = .ok (.if_icmp .eq 21, 3) := by decide +kernel
theorem d_placeDigits_59 : decode b_placeDigits 59 = .ok (.aload_n 0, 1) := by decide +kernel
theorem d_placeDigits_60 : decode b_placeDigits 60 = .ok (.aload_n 0, 1) := by decide +kernel
theorem d_placeDigits_61 : decode b_placeDigits 61 = .ok (.getfield 28, 3) := by decide +kernel
theorem d_placeDigits_64 : decode b_placeDigits 64 = .ok (.iload_n 3, 1) := by decide +kernel
theorem d_placeDigits_65 : decode b_placeDigits 65 = .ok (.baload, 1) := by decide +kernel
theorem d_placeDigits_66 : decode b_placeDigits 66 = .ok (.invokestatic 148, 3) := by decide +kernel
theorem d_placeDigits_69 : decode b_placeDigits 69 = .ok (.iload_n 2, 1) := by decide +kernel
theorem d_placeDigits_70 : decode b_placeDigits 70 = .ok (.invokevirtual 172, 3) := by decide +kernel
theorem d_placeDigits_73 : decode b_placeDigits 73 = .ok (.iload_n 2, 1) := by decide +kernel
theorem d_placeDigits_74 : decode b_placeDigits 74 = .ok (.iload_n 1, 1) := by decide +kernel
theorem d_placeDigits_75 : decode b_placeDigits 75 = .ok (.isub, 1) := by decide +kernel
theorem d_placeDigits_76 : decode b_placeDigits 76 = .ok (.istore_n 2, 1) := by decide +kernel
theorem d_placeDigits_77 : decode b_placeDigits 77 = .ok (.iinc 3 1, 3) := by decide +kernel
theorem d_placeDigits_80 : decode b_placeDigits 80 = .ok (.goto (-40), 3) := by decide +kernel
theorem d_placeDigits_83 : decode b_placeDigits 83 = .ok (.aload_n 0, 1) := by decide +kernel
theorem d_placeDigits_84 : decode b_placeDigits 84 = .ok (.getfield 24, 3) := by decide +kernel
theorem d_placeDigits_87 : decode b_placeDigits 87 = .ok (.invokevirtual 176, 3) := by decide +kernel
theorem d_placeDigits_90 : decode b_placeDigits 90 = .ok (.return_, 1) := by decide +kernel
theorem d_placeDigit_0 : decode b_placeDigit 0 = .ok (.aload_n 0, 1) := by decide +kernel
theorem d_placeDigit_1 : decode b_placeDigit 1 = .ok (.getfield 68, 3) := by decide +kernel
theorem d_placeDigit_4 : decode b_placeDigit 4 = .ok (.iconst 3, 1) := by decide +kernel
theorem d_placeDigit_5 : decode b_placeDigit 5 = .ok (.if_icmp .ne 15, 3) := by decide +kernel
theorem d_placeDigit_8 : decode b_placeDigit 8 = .ok (.aload_n 0, 1) := by decide +kernel
theorem d_placeDigit_9 : decode b_placeDigit 9 = .ok (.getfield 24, 3) := by decide +kernel
theorem d_placeDigit_12 : decode b_placeDigit 12 = .ok (.iload_n 1, 1) := by decide +kernel
theorem d_placeDigit_13 : decode b_placeDigit 13 = .ok (.iload_n 2, 1) := by decide +kernel
theorem d_placeDigit_14 : decode b_placeDigit 14 = .ok (.invokevirtual 179, 3) := by decide +kernel
theorem d_placeDigit_17 : decode b_placeDigit 17 = .ok (.goto 12, 3) := by decide +kernel
theorem d_placeDigit_20 : decode b_placeDigit 20 = .ok (.aload_n 0, 1) := by decide +kernel
theorem d_placeDigit_21 : decode b_placeDigit 21 = .ok (.getfield 24, 3) := by decide +kernel
theorem d_placeDigit_24 : decode b_placeDigit 24 = .ok (.iload_n 1, 1) := by decide +kernel
theorem d_placeDigit_25 : decode b_placeDigit 25 = .ok (.iload_n 2, 1) := by decide +kernel
theorem d_placeDigit_26 : decode b_placeDigit 26 = .ok (.invokevirtual 182, 3) := by decide +kernel
theorem d_placeDigit_29 : decode b_placeDigit 29 = .ok (.return_, 1) := by decide +kernel
theorem d_isBlank_0 : decode b_isBlank 0 = .ok (.iload_n 0, 1) := by decide +kernel
theorem d_isBlank_1 : decode b_isBlank 1 = .ok (.ifCond .lt 13, 3) := by decide +kernel
theorem d_isBlank_4 : decode b_isBlank 4 = .ok (.iload_n 0, 1) := by decide +kernel
theorem d_isBlank_5 : decode b_isBlank 5 = .ok (.bipush 32, 2) := by decide +kernel
theorem d_isBlank_7 : decode b_isBlank 7 = .ok (.if_icmp .gt 7, 3) := by decide +kernel
theorem d_isBlank_10 : decode b_isBlank 10 = .ok (.iconst 1, 1) := by decide +kernel
theorem d_isBlank_11 : decode b_isBlank 11 = .ok (.goto 4, 3) := by decide +kernel
theorem d_isBlank_14 : decode b_isBlank 14 = .ok (.iconst 0, 1) := by decide +kernel
theorem d_isBlank_15 : decode b_isBlank 15 = .ok (.ireturn, 1) := by decide +kernel
theorem d_digitOf_0 : decode b_digitOf 0 = .ok (.iload_n 0, 1) := by decide +kernel
theorem d_digitOf_1 : decode b_digitOf 1 = .ok (.bipush 48, 2) := by decide +kernel
theorem d_digitOf_3 : decode b_digitOf 3 = .ok (.if_icmp .lt 14, 3) := by decide +kernel
theorem d_digitOf_6 : decode b_digitOf 6 = .ok (.iload_n 0, 1) := by decide +kernel
theorem d_digitOf_7 : decode b_digitOf 7 = .ok (.bipush 57, 2) := by decide +kernel
theorem d_digitOf_9 : decode b_digitOf 9 = .ok (.if_icmp .gt 8, 3) := by decide +kernel
theorem d_digitOf_12 : decode b_digitOf 12 = .ok (.iload_n 0, 1) := by decide +kernel
theorem d_digitOf_13 : decode b_digitOf 13 = .ok (.bipush 48, 2) := by decide +kernel
theorem d_digitOf_15 : decode b_digitOf 15 = .ok (.isub, 1) := by decide +kernel
theorem d_digitOf_16 : decode b_digitOf 16 = .ok (.ireturn, 1) := by decide +kernel
theorem d_digitOf_17 : decode b_digitOf 17 = .ok (.iload_n 0, 1) := by decide +kernel
theorem d_digitOf_18 : decode b_digitOf 18 = .ok (.bipush 97, 2) := by decide +kernel
theorem d_digitOf_20 : decode b_digitOf 20 = .ok (.if_icmp .lt 17, 3) := by decide +kernel
theorem d_digitOf_23 : decode b_digitOf 23 = .ok (.iload_n 0, 1) := by decide +kernel
theorem d_digitOf_24 : decode b_digitOf 24 = .ok (.bipush 102, 2) := by decide +kernel
theorem d_digitOf_26 : decode b_digitOf 26 = .ok (.if_icmp .gt 11, 3) := by decide +kernel
theorem d_digitOf_29 : decode b_digitOf 29 = .ok (.iload_n 0, 1) := by decide +kernel
theorem d_digitOf_30 : decode b_digitOf 30 = .ok (.bipush 97, 2) := by decide +kernel
theorem d_digitOf_32 : decode b_digitOf 32 = .ok (.isub, 1) := by decide +kernel
theorem d_digitOf_33 : decode b_digitOf 33 = .ok (.bipush 10, 2) := by decide +kernel
theorem d_digitOf_35 : decode b_digitOf 35 = .ok (.iadd, 1) := by decide +kernel
theorem d_digitOf_36 : decode b_digitOf 36 = .ok (.ireturn, 1) := by decide +kernel
theorem d_digitOf_37 : decode b_digitOf 37 = .ok (.iload_n 0, 1) := by decide +kernel
theorem d_digitOf_38 : decode b_digitOf 38 = .ok (.bipush 65, 2) := by decide +kernel
theorem d_digitOf_40 : decode b_digitOf 40 = .ok (.if_icmp .lt 17, 3) := by decide +kernel
theorem d_digitOf_43 : decode b_digitOf 43 = .ok (.iload_n 0, 1) := by decide +kernel
theorem d_digitOf_44 : decode b_digitOf 44 = .ok (.bipush 70, 2) := by decide +kernel
theorem d_digitOf_46 : decode b_digitOf 46 = .ok (.if_icmp .gt 11, 3) := by decide +kernel
theorem d_digitOf_49 : decode b_digitOf 49 = .ok (.iload_n 0, 1) := by decide +kernel
theorem d_digitOf_50 : decode b_digitOf 50 = .ok (.bipush 65, 2) := by decide +kernel
theorem d_digitOf_52 : decode b_digitOf 52 = .ok (.isub, 1) := by decide +kernel
theorem d_digitOf_53 : decode b_digitOf 53 = .ok (.bipush 10, 2) := by decide +kernel
theorem d_digitOf_55 : decode b_digitOf 55 = .ok (.iadd, 1) := by decide +kernel
theorem d_digitOf_56 : decode b_digitOf 56 = .ok (.ireturn, 1) := by decide +kernel
theorem d_digitOf_57 : decode b_digitOf 57 = .ok (.bipush 16, 2) := by decide +kernel
theorem d_digitOf_59 : decode b_digitOf 59 = .ok (.ireturn, 1) := by decide +kernel

theorem d_l_feed_0 : decode b_l_feed 0 = .ok (.aload 6, 2) := by decide +kernel
theorem d_l_feed_2 : decode b_l_feed 2 = .ok (.iconst 0, 1) := by decide +kernel
theorem d_l_feed_3 : decode b_l_feed 3 = .ok (.aload_n 0, 1) := by decide +kernel
theorem d_l_feed_4 : decode b_l_feed 4 = .ok (.iload_n 1, 1) := by decide +kernel
theorem d_l_feed_5 : decode b_l_feed 5 = .ok (.iload_n 2, 1) := by decide +kernel
theorem d_l_feed_6 : decode b_l_feed 6 = .ok (.iload_n 3, 1) := by decide +kernel
theorem d_l_feed_7 : decode b_l_feed 7 = .ok (.iload 4, 2) := by decide +kernel
theorem d_l_feed_9 : decode b_l_feed 9 = .ok (.iload 5, 2) := by decide +kernel
theorem d_l_feed_11 : decode b_l_feed 11 = .ok (.invokevirtual 7, 3) := by decide +kernel
theorem d_l_feed_14 : decode b_l_feed 14 = .ok (.i2l, 1) := by decide +kernel
theorem d_l_feed_15 : decode b_l_feed 15 = .ok (.lastore, 1) := by decide +kernel
theorem d_l_feed_16 : decode b_l_feed 16 = .ok (.goto 7, 3) := by decide +kernel
theorem d_l_feed_19 : decode b_l_feed 19 = .ok (.astore 7, 2) := by decide +kernel
theorem d_l_feed_21 : decode b_l_feed 21 = .ok (.iconst 1, 1) := by decide +kernel
theorem d_l_feed_22 : decode b_l_feed 22 = .ok (.ireturn, 1) := by decide +kernel
theorem d_l_feed_23 : decode b_l_feed 23 = .ok (.iconst 0, 1) := by decide +kernel
theorem d_l_feed_24 : decode b_l_feed 24 = .ok (.ireturn, 1) := by decide +kernel
theorem d_l_end_0 : decode b_l_end 0 = .ok (.aload_n 2, 1) := by decide +kernel
theorem d_l_end_1 : decode b_l_end 1 = .ok (.iconst 0, 1) := by decide +kernel
theorem d_l_end_2 : decode b_l_end 2 = .ok (.aload_n 0, 1) := by decide +kernel
theorem d_l_end_3 : decode b_l_end 3 = .ok (.iload_n 1, 1) := by decide +kernel
theorem d_l_end_4 : decode b_l_end 4 = .ok (.invokevirtual 15, 3) := by decide +kernel
theorem d_l_end_7 : decode b_l_end 7 = .ok (.i2l, 1) := by decide +kernel
theorem d_l_end_8 : decode b_l_end 8 = .ok (.lastore, 1) := by decide +kernel
theorem d_l_end_9 : decode b_l_end 9 = .ok (.goto 6, 3) := by decide +kernel
theorem d_l_end_12 : decode b_l_end 12 = .ok (.astore_n 3, 1) := by decide +kernel
theorem d_l_end_13 : decode b_l_end 13 = .ok (.iconst 1, 1) := by decide +kernel
theorem d_l_end_14 : decode b_l_end 14 = .ok (.ireturn, 1) := by decide +kernel
theorem d_l_end_15 : decode b_l_end 15 = .ok (.iconst 0, 1) := by decide +kernel
theorem d_l_end_16 : decode b_l_end 16 = .ok (.ireturn, 1) := by decide +kernel
theorem d_l_parse_0 : decode b_l_parse 0 = .ok (.aload_n 1, 1) := by decide +kernel
theorem d_l_parse_1 : decode b_l_parse 1 = .ok (.iconst 0, 1) := by decide +kernel
theorem d_l_parse_2 : decode b_l_parse 2 = .ok (.aload_n 0, 1) := by decide +kernel
theorem d_l_parse_3 : decode b_l_parse 3 = .ok (.invokevirtual 21, 3) := by decide +kernel
theorem d_l_parse_6 : decode b_l_parse 6 = .ok (.lastore, 1) := by decide +kernel
theorem d_l_parse_7 : decode b_l_parse 7 = .ok (.goto 6, 3) := by decide +kernel
theorem d_l_parse_10 : decode b_l_parse 10 = .ok (.astore_n 2, 1) := by decide +kernel
theorem d_l_parse_11 : decode b_l_parse 11 = .ok (.iconst 1, 1) := by decide +kernel
theorem d_l_parse_12 : decode b_l_parse 12 = .ok (.ireturn, 1) := by decide +kernel
theorem d_l_parse_13 : decode b_l_parse 13 = .ok (.iconst 0, 1) := by decide +kernel
theorem d_l_parse_14 : decode b_l_parse 14 = .ok (.ireturn, 1) := by decide +kernel
theorem d_l_parseFloat_0 : decode b_l_parseFloat 0 = .ok (.aload_n 1, 1) := by decide +kernel
theorem d_l_parseFloat_1 : decode b_l_parseFloat 1 = .ok (.iconst 0, 1) := by decide +kernel
theorem d_l_parseFloat_2 : decode b_l_parseFloat 2 = .ok (.aload_n 0, 1) := by decide +kernel
theorem d_l_parseFloat_3 : decode b_l_parseFloat 3 = .ok (.invokevirtual 27, 3) := by decide +kernel
theorem d_l_parseFloat_6 : decode b_l_parseFloat 6 = .ok (.i2l, 1) := by decide +kernel
theorem d_l_parseFloat_7 : decode b_l_parseFloat 7 = .ok (.lastore, 1) := by decide +kernel
theorem d_l_parseFloat_8 : decode b_l_parseFloat 8 = .ok (.goto 6, 3) := by decide +kernel
theorem d_l_parseFloat_11 : decode b_l_parseFloat 11 = .ok (.astore_n 2, 1) := by decide +kernel
theorem d_l_parseFloat_12 : decode b_l_parseFloat 12 = .ok (.iconst 1, 1) := by decide +kernel
theorem d_l_parseFloat_13 : decode b_l_parseFloat 13 = .ok (.ireturn, 1) := by decide +kernel
theorem d_l_parseFloat_14 : decode b_l_parseFloat 14 = .ok (.iconst 0, 1) := by decide +kernel
theorem d_l_parseFloat_15 : decode b_l_parseFloat 15 = .ok (.ireturn, 1) := by decide +kernel

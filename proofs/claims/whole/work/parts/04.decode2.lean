theorem d_k_init_0 : decode b_k_init 0 = .ok (.aload_n 0, 1) := by decide +kernel
theorem d_k_init_1 : decode b_k_init 1 = .ok (.invokespecial 1, 3) := by decide +kernel
theorem d_k_init_4 : decode b_k_init 4 = .ok (.aload_n 0, 1) := by decide +kernel
theorem d_k_init_5 : decode b_k_init 5 = .ok (.iload_n 1, 1) := by decide +kernel
theorem d_k_init_6 : decode b_k_init 6 = .ok (.putfield 7, 3) := by decide +kernel
theorem d_k_init_9 : decode b_k_init 9 = .ok (.aload_n 0, 1) := by decide +kernel
theorem d_k_init_10 : decode b_k_init 10 = .ok (.iload_n 2, 1) := by decide +kernel
theorem d_k_init_11 : decode b_k_init 11 = .ok (.putfield 13, 3) := by decide +kernel
theorem d_k_init_14 : decode b_k_init 14 = .ok (.aload_n 0, 1) := by decide +kernel
theorem d_k_init_15 : decode b_k_init 15 = .ok (.iload_n 3, 1) := by decide +kernel
theorem d_k_init_16 : decode b_k_init 16 = .ok (.putfield 16, 3) := by decide +kernel
theorem d_k_init_19 : decode b_k_init 19 = .ok (.aload_n 0, 1) := by decide +kernel
theorem d_k_init_20 : decode b_k_init 20 = .ok (.lconst 1, 1) := by decide +kernel
theorem d_k_init_21 : decode b_k_init 21 = .ok (.iload_n 1, 1) := by decide +kernel
theorem d_k_init_22 : decode b_k_init 22 = .ok (.iconst 1, 1) := by decide +kernel
theorem d_k_init_23 : decode b_k_init 23 = .ok (.isub, 1) := by decide +kernel
theorem d_k_init_24 : decode b_k_init 24 = .ok (.lshl, 1) := by decide +kernel
theorem d_k_init_25 : decode b_k_init 25 = .ok (.putfield 19, 3) := by decide +kernel
theorem d_k_init_28 : decode b_k_init 28 = .ok (.aload_n 0, 1) := by decide +kernel
theorem d_k_init_29 : decode b_k_init 29 = .ok (.iload_n 3, 1) := by decide +kernel
theorem d_k_init_30 : decode b_k_init 30 = .ok (.iload_n 2, 1) := by decide +kernel
theorem d_k_init_31 : decode b_k_init 31 = .ok (.isub, 1) := by decide +kernel
theorem d_k_init_32 : decode b_k_init 32 = .ok (.iconst 2, 1) := by decide +kernel
theorem d_k_init_33 : decode b_k_init 33 = .ok (.iadd, 1) := by decide +kernel
theorem d_k_init_34 : decode b_k_init 34 = .ok (.i2l, 1) := by decide +kernel
theorem d_k_init_35 : decode b_k_init 35 = .ok (.aload_n 0, 1) := by decide +kernel
theorem d_k_init_36 : decode b_k_init 36 = .ok (.getfield 19, 3) := by decide +kernel
theorem d_k_init_39 : decode b_k_init 39 = .ok (.lmul, 1) := by decide +kernel
theorem d_k_init_40 : decode b_k_init 40 = .ok (.putfield 23, 3) := by decide +kernel
theorem d_k_init_43 : decode b_k_init 43 = .ok (.aload_n 0, 1) := by decide +kernel
theorem d_k_init_44 : decode b_k_init 44 = .ok (.aload_n 0, 1) := by decide +kernel
theorem d_k_init_45 : decode b_k_init 45 = .ok (.getfield 23, 3) := by decide +kernel
theorem d_k_init_48 : decode b_k_init 48 = .ok (.aload_n 0, 1) := by decide +kernel
theorem d_k_init_49 : decode b_k_init 49 = .ok (.getfield 19, 3) := by decide +kernel
theorem d_k_init_52 : decode b_k_init 52 = .ok (.ldc2_w 26, 3) := by decide +kernel
theorem d_k_init_55 : decode b_k_init 55 = .ok (.ldiv, 1) := by decide +kernel
theorem d_k_init_56 : decode b_k_init 56 = .ok (.ladd, 1) := by decide +kernel
theorem d_k_init_57 : decode b_k_init 57 = .ok (.putfield 28, 3) := by decide +kernel
theorem d_k_init_60 : decode b_k_init 60 = .ok (.aload_n 0, 1) := by decide +kernel
theorem d_k_init_61 : decode b_k_init 61 = .ok (.aload_n 0, 1) := by decide +kernel
theorem d_k_init_62 : decode b_k_init 62 = .ok (.getfield 23, 3) := by decide +kernel
theorem d_k_init_65 : decode b_k_init 65 = .ok (.aload_n 0, 1) := by decide +kernel
theorem d_k_init_66 : decode b_k_init 66 = .ok (.getfield 19, 3) := by decide +kernel
theorem d_k_init_69 : decode b_k_init 69 = .ok (.ladd, 1) := by decide +kernel
theorem d_k_init_70 : decode b_k_init 70 = .ok (.putfield 31, 3) := by decide +kernel
theorem d_k_init_73 : decode b_k_init 73 = .ok (.return_, 1) := by decide +kernel
theorem d_v_init_0 : decode b_v_init 0 = .ok (.aload_n 0, 1) := by decide +kernel
theorem d_v_init_1 : decode b_v_init 1 = .ok (.invokespecial 3, 3) := by decide +kernel
theorem d_v_init_4 : decode b_v_init 4 = .ok (.aload_n 0, 1) := by decide +kernel
theorem d_v_init_5 : decode b_v_init 5 = .ok (.sipush 155, 3) := by decide +kernel
theorem d_v_init_8 : decode b_v_init 8 = .ok (.newarray .int, 2) := by decide +kernel
theorem d_v_init_10 : decode b_v_init 10 = .ok (.putfield 9, 3) := by decide +kernel
theorem d_v_init_13 : decode b_v_init 13 = .ok (.aload_n 0, 1) := by decide +kernel
theorem d_v_init_14 : decode b_v_init 14 = .ok (.bipush 67, 2) := by decide +kernel
theorem d_v_init_16 : decode b_v_init 16 = .ok (.newarray .int, 2) := by decide +kernel
theorem d_v_init_18 : decode b_v_init 18 = .ok (.putfield 13, 3) := by decide +kernel
theorem d_v_init_21 : decode b_v_init 21 = .ok (.aload_n 0, 1) := by decide +kernel
theorem d_v_init_22 : decode b_v_init 22 = .ok (.iconst 0, 1) := by decide +kernel
theorem d_v_init_23 : decode b_v_init 23 = .ok (.putfield 16, 3) := by decide +kernel
theorem d_v_init_26 : decode b_v_init 26 = .ok (.aload_n 0, 1) := by decide +kernel
theorem d_v_init_27 : decode b_v_init 27 = .ok (.iconst 0, 1) := by decide +kernel
theorem d_v_init_28 : decode b_v_init 28 = .ok (.putfield 20, 3) := by decide +kernel
theorem d_v_init_31 : decode b_v_init 31 = .ok (.return_, 1) := by decide +kernel
theorem d_v_clear_0 : decode b_v_clear 0 = .ok (.aload_n 0, 1) := by decide +kernel
theorem d_v_clear_1 : decode b_v_clear 1 = .ok (.getfield 9, 3) := by decide +kernel
theorem d_v_clear_4 : decode b_v_clear 4 = .ok (.iconst 0, 1) := by decide +kernel
theorem d_v_clear_5 : decode b_v_clear 5 = .ok (.invokestatic 23, 3) := by decide +kernel
theorem d_v_clear_8 : decode b_v_clear 8 = .ok (.aload_n 0, 1) := by decide +kernel
theorem d_v_clear_9 : decode b_v_clear 9 = .ok (.getfield 13, 3) := by decide +kernel
theorem d_v_clear_12 : decode b_v_clear 12 = .ok (.iconst 0, 1) := by decide +kernel
theorem d_v_clear_13 : decode b_v_clear 13 = .ok (.invokestatic 23, 3) := by decide +kernel
theorem d_v_clear_16 : decode b_v_clear 16 = .ok (.aload_n 0, 1) := by decide +kernel
theorem d_v_clear_17 : decode b_v_clear 17 = .ok (.iconst 0, 1) := by decide +kernel
theorem d_v_clear_18 : decode b_v_clear 18 = .ok (.putfield 16, 3) := by decide +kernel
theorem d_v_clear_21 : decode b_v_clear 21 = .ok (.aload_n 0, 1) := by decide +kernel
theorem d_v_clear_22 : decode b_v_clear 22 = .ok (.iconst 0, 1) := by decide +kernel
theorem d_v_clear_23 : decode b_v_clear 23 = .ok (.putfield 20, 3) := by decide +kernel
theorem d_v_clear_26 : decode b_v_clear 26 = .ok (.return_, 1) := by decide +kernel
theorem d_v_addDecimalDigit_0 : decode b_v_addDecimalDigit 0 = .ok (.iload_n 1, 1) := by decide +kernel
theorem d_v_addDecimalDigit_1 : decode b_v_addDecimalDigit 1 = .ok (.ifCond .ne 4, 3) := by decide +kernel
theorem d_v_addDecimalDigit_4 : decode b_v_addDecimalDigit 4 = .ok (.return_, 1) := by decide +kernel
theorem d_v_addDecimalDigit_5 : decode b_v_addDecimalDigit 5 = .ok (.iload_n 2, 1) := by decide +kernel
theorem d_v_addDecimalDigit_6 : decode b_v_addDecimalDigit 6 = .ok (.sipush 314, 3) := by decide +kernel
theorem d_v_addDecimalDigit_9 : decode b_v_addDecimalDigit 9 = .ok (.if_icmp .le 11, 3) := by decide +kernel
theorem d_v_addDecimalDigit_12 : decode b_v_addDecimalDigit 12 = .ok (.aload_n 0, 1) := by decide +kernel
theorem d_v_addDecimalDigit_13 : decode b_v_addDecimalDigit 13 = .ok (.iconst 1, 1) := by decide +kernel
theorem d_v_addDecimalDigit_14 : decode b_v_addDecimalDigit 14 = .ok (.putfield 16, 3) := by decide +kernel
theorem d_v_addDecimalDigit_17 : decode b_v_addDecimalDigit 17 = .ok (.goto 53, 3) := by decide +kernel
theorem d_v_addDecimalDigit_20 : decode b_v_addDecimalDigit 20 = .ok (.iload_n 2, 1) := by decide +kernel
theorem d_v_addDecimalDigit_21 : decode b_v_addDecimalDigit 21 = .ok (.sipush (-1080), 3) := by decide +kernel
theorem d_v_addDecimalDigit_24 : decode b_v_addDecimalDigit 24 = .ok (.if_icmp .ge 11, 3) := by decide +kernel
theorem d_v_addDecimalDigit_27 : decode b_v_addDecimalDigit 27 = .ok (.aload_n 0, 1) := by decide +kernel
theorem d_v_addDecimalDigit_28 : decode b_v_addDecimalDigit 28 = .ok (.iconst 1, 1) := by decide +kernel
theorem d_v_addDecimalDigit_29 : decode b_v_addDecimalDigit 29 = .ok (.putfield 20, 3) := by decide +kernel
theorem d_v_addDecimalDigit_32 : decode b_v_addDecimalDigit 32 = .ok (.goto 38, 3) := by decide +kernel
theorem d_v_addDecimalDigit_35 : decode b_v_addDecimalDigit 35 = .ok (.sipush 314, 3) := by decide +kernel
theorem d_v_addDecimalDigit_38 : decode b_v_addDecimalDigit 38 = .ok (.iload_n 2, 1) := by decide +kernel
theorem d_v_addDecimalDigit_39 : decode b_v_addDecimalDigit 39 = .ok (.isub, 1) := by decide +kernel
theorem d_v_addDecimalDigit_40 : decode b_v_addDecimalDigit 40 = .ok (.istore_n 3, 1) := by decide +kernel
theorem d_v_addDecimalDigit_41 : decode b_v_addDecimalDigit 41 = .ok (.getstatic 29, 3) := by decide +kernel
theorem d_v_addDecimalDigit_44 : decode b_v_addDecimalDigit 44 = .ok (.bipush 8, 2) := by decide +kernel
theorem d_v_addDecimalDigit_46 : decode b_v_addDecimalDigit 46 = .ok (.iload_n 3, 1) := by decide +kernel
theorem d_v_addDecimalDigit_47 : decode b_v_addDecimalDigit 47 = .ok (.bipush 9, 2) := by decide +kernel
theorem d_v_addDecimalDigit_49 : decode b_v_addDecimalDigit 49 = .ok (.irem, 1) := by decide +kernel
theorem d_v_addDecimalDigit_50 : decode b_v_addDecimalDigit 50 = .ok (.isub, 1) := by decide +kernel
theorem d_v_addDecimalDigit_51 : decode b_v_addDecimalDigit 51 = .ok (.iaload, 1) := by decide +kernel
theorem d_v_addDecimalDigit_52 : decode b_v_addDecimalDigit 52 = .ok (.istore 4, 2) := by decide +kernel
theorem d_v_addDecimalDigit_54 : decode b_v_addDecimalDigit 54 = .ok (.aload_n 0, 1) := by decide +kernel
theorem d_v_addDecimalDigit_55 : decode b_v_addDecimalDigit 55 = .ok (.getfield 9, 3) := by decide +kernel
theorem d_v_addDecimalDigit_58 : decode b_v_addDecimalDigit 58 = .ok (.iload_n 3, 1) := by decide +kernel
theorem d_v_addDecimalDigit_59 : decode b_v_addDecimalDigit 59 = .ok (.bipush 9, 2) := by decide +kernel
theorem d_v_addDecimalDigit_61 : decode b_v_addDecimalDigit 61 = .ok (.idiv, 1) := by decide +kernel
theorem d_v_addDecimalDigit_62 : decode b_v_addDecimalDigit 62 = .ok (.dup2, 1) := by decide +kernel
theorem d_v_addDecimalDigit_63 : decode b_v_addDecimalDigit 63 = .ok (.iaload, 1) := by decide +kernel
theorem d_v_addDecimalDigit_64 : decode b_v_addDecimalDigit 64 = .ok (.iload_n 1, 1) := by decide +kernel
theorem d_v_addDecimalDigit_65 : decode b_v_addDecimalDigit 65 = .ok (.iload 4, 2) := by decide +kernel
theorem d_v_addDecimalDigit_67 : decode b_v_addDecimalDigit 67 = .ok (.imul, 1) := by decide +kernel
theorem d_v_addDecimalDigit_68 : decode b_v_addDecimalDigit 68 = .ok (.iadd, 1) := by decide +kernel
theorem d_v_addDecimalDigit_69 : decode b_v_addDecimalDigit 69 = .ok (.iastore, 1) := by decide +kernel
theorem d_v_addDecimalDigit_70 : decode b_v_addDecimalDigit 70 = .ok (.return_, 1) := by decide +kernel
theorem d_v_addHexDigit_0 : decode b_v_addHexDigit 0 = .ok (.iconst 0, 1) := by decide +kernel
theorem d_v_addHexDigit_1 : decode b_v_addHexDigit 1 = .ok (.istore_n 3, 1) := by decide +kernel
theorem d_v_addHexDigit_2 : decode b_v_addHexDigit 2 = .ok (.iload_n 3, 1) := by decide +kernel
theorem d_v_addHexDigit_3 : decode b_v_addHexDigit 3 = .ok (.iconst 4, 1) := by decide +kernel
theorem d_v_addHexDigit_4 : decode b_v_addHexDigit 4 = .ok (.if_icmp .ge 24, 3) := by decide +kernel
theorem d_v_addHexDigit_7 : decode b_v_addHexDigit 7 = .ok (.iload_n 1, 1) := by decide +kernel
theorem d_v_addHexDigit_8 : decode b_v_addHexDigit 8 = .ok (.iload_n 3, 1) := by decide +kernel
theorem d_v_addHexDigit_9 : decode b_v_addHexDigit 9 = .ok (.iushr, 1) := by decide +kernel
theorem d_v_addHexDigit_10 : decode b_v_addHexDigit 10 = .ok (.iconst 1, 1) := by decide +kernel
theorem d_v_addHexDigit_11 : decode b_v_addHexDigit 11 = .ok (.iand, 1) := by decide +kernel
theorem d_v_addHexDigit_12 : decode b_v_addHexDigit 12 = .ok (.ifCond .eq 10, 3) := by decide +kernel
theorem d_v_addHexDigit_15 : decode b_v_addHexDigit 15 = .ok (.aload_n 0, 1) := by decide +kernel
theorem d_v_addHexDigit_16 : decode b_v_addHexDigit 16 = .ok (.iload_n 2, 1) := by decide +kernel
theorem d_v_addHexDigit_17 : decode b_v_addHexDigit 17 = .ok (.iload_n 3, 1) := by decide +kernel
theorem d_v_addHexDigit_18 : decode b_v_addHexDigit 18 = .ok (.iadd, 1) := by decide +kernel
theorem d_v_addHexDigit_19 : decode b_v_addHexDigit 19 = .ok (.invokevirtual 32, 3) := by decide +kernel
theorem d_v_addHexDigit_22 : decode b_v_addHexDigit 22 = .ok (.iinc 3 1, 3) := by decide +kernel
theorem d_v_addHexDigit_25 : decode b_v_addHexDigit 25 = .ok (.goto (-23), 3) := by decide +kernel
theorem d_v_addHexDigit_28 : decode b_v_addHexDigit 28 = .ok (.return_, 1) := by decide +kernel
theorem d_v_addBit_0 : decode b_v_addBit 0 = .ok (.iload_n 1, 1) := by decide +kernel
theorem d_v_addBit_1 : decode b_v_addBit 1 = .ok (.sipush 1055, 3) := by decide +kernel
theorem d_v_addBit_4 : decode b_v_addBit 4 = .ok (.if_icmp .le 11, 3) := by decide +kernel
theorem d_v_addBit_7 : decode b_v_addBit 7 = .ok (.aload_n 0, 1) := by decide +kernel
theorem d_v_addBit_8 : decode b_v_addBit 8 = .ok (.iconst 1, 1) := by decide +kernel
theorem d_v_addBit_9 : decode b_v_addBit 9 = .ok (.putfield 16, 3) := by decide +kernel
theorem d_v_addBit_12 : decode b_v_addBit 12 = .ok (.goto 36, 3) := by decide +kernel
theorem d_v_addBit_15 : decode b_v_addBit 15 = .ok (.iload_n 1, 1) := by decide +kernel
theorem d_v_addBit_16 : decode b_v_addBit 16 = .ok (.sipush (-1088), 3) := by decide +kernel
theorem d_v_addBit_19 : decode b_v_addBit 19 = .ok (.if_icmp .ge 11, 3) := by decide +kernel
theorem d_v_addBit_22 : decode b_v_addBit 22 = .ok (.aload_n 0, 1) := by decide +kernel
theorem d_v_addBit_23 : decode b_v_addBit 23 = .ok (.iconst 1, 1) := by decide +kernel
theorem d_v_addBit_24 : decode b_v_addBit 24 = .ok (.putfield 20, 3) := by decide +kernel
theorem d_v_addBit_27 : decode b_v_addBit 27 = .ok (.goto 21, 3) := by decide +kernel
theorem d_v_addBit_30 : decode b_v_addBit 30 = .ok (.aload_n 0, 1) := by decide +kernel
theorem d_v_addBit_31 : decode b_v_addBit 31 = .ok (.getfield 13, 3) := by decide +kernel
theorem d_v_addBit_34 : decode b_v_addBit 34 = .ok (.iload_n 1, 1) := by decide +kernel
theorem d_v_addBit_35 : decode b_v_addBit 35 = .ok (.invokestatic 36, 3) := by decide +kernel
theorem d_v_addBit_38 : decode b_v_addBit 38 = .ok (.dup2, 1) := by decide +kernel
theorem d_v_addBit_39 : decode b_v_addBit 39 = .ok (.iaload, 1) := by decide +kernel
theorem d_v_addBit_40 : decode b_v_addBit 40 = .ok (.iconst 1, 1) := by decide +kernel
theorem d_v_addBit_41 : decode b_v_addBit 41 = .ok (.iload_n 1, 1) := by decide +kernel
theorem d_v_addBit_42 : decode b_v_addBit 42 = .ok (.invokestatic 40, 3) := by decide +kernel
theorem d_v_addBit_45 : decode b_v_addBit 45 = .ok (.ishl, 1) := by decide +kernel
theorem d_v_addBit_46 : decode b_v_addBit 46 = .ok (.ior, 1) := by decide +kernel
theorem d_v_addBit_47 : decode b_v_addBit 47 = .ok (.iastore, 1) := by decide +kernel
theorem d_v_addBit_48 : decode b_v_addBit 48 = .ok (.return_, 1) := by decide +kernel
theorem d_v_turnBinary_0 : decode b_v_turnBinary 0 = .ok (.aload_n 0, 1) := by decide +kernel
theorem d_v_turnBinary_1 : decode b_v_turnBinary 1 = .ok (.invokevirtual 43, 3) := by decide +kernel
theorem d_v_turnBinary_4 : decode b_v_turnBinary 4 = .ok (.istore_n 1, 1) := by decide +kernel
theorem d_v_turnBinary_5 : decode b_v_turnBinary 5 = .ok (.iconst 0, 1) := by decide +kernel
theorem d_v_turnBinary_6 : decode b_v_turnBinary 6 = .ok (.istore_n 2, 1) := by decide +kernel
theorem d_v_turnBinary_7 : decode b_v_turnBinary 7 = .ok (.iconst 0, 1) := by decide +kernel
theorem d_v_turnBinary_8 : decode b_v_turnBinary 8 = .ok (.istore_n 3, 1) := by decide +kernel
theorem d_v_turnBinary_9 : decode b_v_turnBinary 9 = .ok (.iload_n 3, 1) := by decide +kernel
theorem d_v_turnBinary_10 : decode b_v_turnBinary 10 = .ok (.bipush 35, 2) := by decide +kernel
theorem d_v_turnBinary_12 : decode b_v_turnBinary 12 = .ok (.if_icmp .ge 42, 3) := by decide +kernel
theorem d_v_turnBinary_15 : decode b_v_turnBinary 15 = .ok (.iload_n 2, 1) := by decide +kernel
theorem d_v_turnBinary_16 : decode b_v_turnBinary 16 = .ok (.ifCond .ne 12, 3) := by decide +kernel
theorem d_v_turnBinary_19 : decode b_v_turnBinary 19 = .ok (.aload_n 0, 1) := by decide +kernel
theorem d_v_turnBinary_20 : decode b_v_turnBinary 20 = .ok (.getfield 9, 3) := by decide +kernel
theorem d_v_turnBinary_23 : decode b_v_turnBinary 23 = .ok (.iload_n 3, 1) := by decide +kernel
theorem d_v_turnBinary_24 : decode b_v_turnBinary 24 = .ok (.iaload, 1) := by decide +kernel
theorem d_v_turnBinary_25 : decode b_v_turnBinary 25 = .ok (.ifCond .eq 7, 3) := by decide +kernel
theorem d_v_turnBinary_28 : decode b_v_turnBinary 28 = .ok (.iconst 1, 1) := by decide +kernel
theorem d_v_turnBinary_29 : decode b_v_turnBinary 29 = .ok (.goto 4, 3) := by decide +kernel
theorem d_v_turnBinary_32 : decode b_v_turnBinary 32 = .ok (.iconst 0, 1) := by decide +kernel
theorem d_v_turnBinary_33 : decode b_v_turnBinary 33 = .ok (.istore_n 2, 1) := by decide +kernel
theorem d_v_turnBinary_34 : decode b_v_turnBinary 34 = .ok (.iload_n 2, 1) := by decide +kernel
theorem d_v_turnBinary_35 : decode b_v_turnBinary 35 = .ok (.ifCond .eq 13, 3) := by decide +kernel
theorem d_v_turnBinary_38 : decode b_v_turnBinary 38 = .ok (.aload_n 0, 1) := by decide +kernel
theorem d_v_turnBinary_39 : decode b_v_turnBinary 39 = .ok (.aload_n 0, 1) := by decide +kernel
theorem d_v_turnBinary_40 : decode b_v_turnBinary 40 = .ok (.getfield 9, 3) := by decide +kernel
theorem d_v_turnBinary_43 : decode b_v_turnBinary 43 = .ok (.iload_n 3, 1) := by decide +kernel
theorem d_v_turnBinary_44 : decode b_v_turnBinary 44 = .ok (.iaload, 1) := by decide +kernel
theorem d_v_turnBinary_45 : decode b_v_turnBinary 45 = .ok (.invokevirtual 47, 3) := by decide +kernel
theorem d_v_turnBinary_48 : decode b_v_turnBinary 48 = .ok (.iinc 3 1, 3) := by decide +kernel
theorem d_v_turnBinary_51 : decode b_v_turnBinary 51 = .ok (.goto (-42), 3) := by decide +kernel
theorem d_v_turnBinary_54 : decode b_v_turnBinary 54 = .ok (.bipush 33, 2) := by decide +kernel
theorem d_v_turnBinary_56 : decode b_v_turnBinary 56 = .ok (.istore_n 3, 1) := by decide +kernel
theorem d_v_turnBinary_57 : decode b_v_turnBinary 57 = .ok (.iload_n 3, 1) := by decide +kernel
theorem d_v_turnBinary_58 : decode b_v_turnBinary 58 = .ok (.bipush 67, 2) := by decide +kernel
theorem d_v_turnBinary_60 : decode b_v_turnBinary 60 = .ok (.if_icmp .ge 26, 3) := by decide +kernel
theorem d_v_turnBinary_63 : decode b_v_turnBinary 63 = .ok (.iload_n 1, 1) := by decide +kernel
theorem d_v_turnBinary_64 : decode b_v_turnBinary 64 = .ok (.bipush 35, 2) := by decide +kernel
theorem d_v_turnBinary_66 : decode b_v_turnBinary 66 = .ok (.if_icmp .le 20, 3) := by decide +kernel
theorem d_v_turnBinary_69 : decode b_v_turnBinary 69 = .ok (.aload_n 0, 1) := by decide +kernel
theorem d_v_turnBinary_70 : decode b_v_turnBinary 70 = .ok (.getfield 13, 3) := by decide +kernel
theorem d_v_turnBinary_73 : decode b_v_turnBinary 73 = .ok (.iload_n 3, 1) := by decide +kernel
theorem d_v_turnBinary_74 : decode b_v_turnBinary 74 = .ok (.aload_n 0, 1) := by decide +kernel
theorem d_v_turnBinary_75 : decode b_v_turnBinary 75 = .ok (.iload_n 1, 1) := by decide +kernel
theorem d_v_turnBinary_76 : decode b_v_turnBinary 76 = .ok (.invokevirtual 50, 3) := by decide +kernel
theorem d_v_turnBinary_79 : decode b_v_turnBinary 79 = .ok (.iastore, 1) := by decide +kernel
theorem d_v_turnBinary_80 : decode b_v_turnBinary 80 = .ok (.iinc 3 1, 3) := by decide +kernel
theorem d_v_turnBinary_83 : decode b_v_turnBinary 83 = .ok (.goto (-26), 3) := by decide +kernel
theorem d_v_turnBinary_86 : decode b_v_turnBinary 86 = .ok (.bipush 35, 2) := by decide +kernel
theorem d_v_turnBinary_88 : decode b_v_turnBinary 88 = .ok (.istore_n 3, 1) := by decide +kernel
theorem d_v_turnBinary_89 : decode b_v_turnBinary 89 = .ok (.iload_n 3, 1) := by decide +kernel
theorem d_v_turnBinary_90 : decode b_v_turnBinary 90 = .ok (.iload_n 1, 1) := by decide +kernel
theorem d_v_turnBinary_91 : decode b_v_turnBinary 91 = .ok (.if_icmp .ge 34, 3) := by decide +kernel
theorem d_v_turnBinary_94 : decode b_v_turnBinary 94 = .ok (.aload_n 0, 1) := by decide +kernel
theorem d_v_turnBinary_95 : decode b_v_turnBinary 95 = .ok (.aload_n 0, 1) := by decide +kernel
theorem d_v_turnBinary_96 : decode b_v_turnBinary 96 = .ok (.getfield 20, 3) := by decide +kernel
theorem d_v_turnBinary_99 : decode b_v_turnBinary 99 = .ok (.ifCond .ne 12, 3) := by decide +kernel
theorem d_v_turnBinary_102 : decode b_v_turnBinary 102 = .ok (.aload_n 0, 1) := by decide +kernel
theorem d_v_turnBinary_103 : decode b_v_turnBinary 103 = .ok (.getfield 9, 3) := by decide +kernel
theorem d_v_turnBinary_106 : decode b_v_turnBinary 106 = .ok (.iload_n 3, 1) := by decide +kernel
theorem d_v_turnBinary_107 : decode b_v_turnBinary 107 = .ok (.iaload, 1) := by decide +kernel
theorem d_v_turnBinary_108 : decode b_v_turnBinary 108 = .ok (.ifCond .eq 7, 3) := by decide +kernel
theorem d_v_turnBinary_111 : decode b_v_turnBinary 111 = .ok (.iconst 1, 1) := by decide +kernel
theorem d_v_turnBinary_112 : decode b_v_turnBinary 112 = .ok (.goto 4, 3) := by decide +kernel
theorem d_v_turnBinary_115 : decode b_v_turnBinary 115 = .ok (.iconst 0, 1) := by decide +kernel
theorem d_v_turnBinary_116 : decode b_v_turnBinary 116 = .ok (.putfield 20, 3) := by decide +kernel
theorem d_v_turnBinary_119 : decode b_v_turnBinary 119 = .ok (.iinc 3 1, 3) := by decide +kernel
theorem d_v_turnBinary_122 : decode b_v_turnBinary 122 = .ok (.goto (-33), 3) := by decide +kernel
theorem d_v_turnBinary_125 : decode b_v_turnBinary 125 = .ok (.return_, 1) := by decide +kernel
theorem d_v_usedLimbs_0 : decode b_v_usedLimbs 0 = .ok (.sipush 155, 3) := by decide +kernel
theorem d_v_usedLimbs_3 : decode b_v_usedLimbs 3 = .ok (.istore_n 1, 1) := by decide +kernel
theorem d_v_usedLimbs_4 : decode b_v_usedLimbs 4 = .ok (.iload_n 1, 1) := by decide +kernel
theorem d_v_usedLimbs_5 : decode b_v_usedLimbs 5 = .ok (.ifCond .le 20, 3) := by decide +kernel
theorem d_v_usedLimbs_8 : decode b_v_usedLimbs 8 = .ok (.aload_n 0, 1) := by decide +kernel
theorem d_v_usedLimbs_9 : decode b_v_usedLimbs 9 = .ok (.getfield 9, 3) := by decide +kernel
theorem d_v_usedLimbs_12 : decode b_v_usedLimbs 12 = .ok (.iload_n 1, 1) := by decide +kernel
theorem d_v_usedLimbs_13 : decode b_v_usedLimbs 13 = .ok (.iconst 1, 1) := by decide +kernel
theorem d_v_usedLimbs_14 : decode b_v_usedLimbs 14 = .ok (.isub, 1) := by decide +kernel
theorem d_v_usedLimbs_15 : decode b_v_usedLimbs 15 = .ok (.iaload, 1) := by decide +kernel
theorem d_v_usedLimbs_16 : decode b_v_usedLimbs 16 = .ok (.ifCond .ne 9, 3) := by decide +kernel
theorem d_v_usedLimbs_19 : decode b_v_usedLimbs 19 = .ok (.iinc 1 (-1), 3) := by decide +kernel
theorem d_v_usedLimbs_22 : decode b_v_usedLimbs 22 = .ok (.goto (-18), 3) := by decide +kernel
theorem d_v_usedLimbs_25 : decode b_v_usedLimbs 25 = .ok (.iload_n 1, 1) := by decide +kernel
theorem d_v_usedLimbs_26 : decode b_v_usedLimbs 26 = .ok (.ireturn, 1) := by decide +kernel
theorem d_v_appendWholeLimb_0 : decode b_v_appendWholeLimb 0 = .ok (.iload_n 1, 1) := by decide +kernel
theorem d_v_appendWholeLimb_1 : decode b_v_appendWholeLimb 1 = .ok (.i2l, 1) := by decide +kernel
theorem d_v_appendWholeLimb_2 : decode b_v_appendWholeLimb 2 = .ok (.lstore_n 2, 1) := by decide +kernel
theorem d_v_appendWholeLimb_3 : decode b_v_appendWholeLimb 3 = .ok (.bipush 32, 2) := by decide +kernel
theorem d_v_appendWholeLimb_5 : decode b_v_appendWholeLimb 5 = .ok (.istore 4, 2) := by decide +kernel
theorem d_v_appendWholeLimb_7 : decode b_v_appendWholeLimb 7 = .ok (.iload 4, 2) := by decide +kernel
theorem d_v_appendWholeLimb_9 : decode b_v_appendWholeLimb 9 = .ok (.ifCond .lt 45, 3) := by decide +kernel
theorem d_v_appendWholeLimb_12 : decode b_v_appendWholeLimb 12 = .ok (.aload_n 0, 1) := by decide +kernel
theorem d_v_appendWholeLimb_13 : decode b_v_appendWholeLimb 13 = .ok (.getfield 13, 3) := by decide +kernel
theorem d_v_appendWholeLimb_16 : decode b_v_appendWholeLimb 16 = .ok (.iload 4, 2) := by decide +kernel
theorem d_v_appendWholeLimb_18 : decode b_v_appendWholeLimb 18 = .ok (.iaload, 1) := by decide +kernel
theorem d_v_appendWholeLimb_19 : decode b_v_appendWholeLimb 19 = .ok (.i2l, 1) := by decide +kernel
theorem d_v_appendWholeLimb_20 : decode b_v_appendWholeLimb 20 = .ok (.ldc2_w 53, 3) := by decide +kernel
theorem d_v_appendWholeLimb_23 : decode b_v_appendWholeLimb 23 = .ok (.land, 1) := by decide +kernel
theorem d_v_appendWholeLimb_24 : decode b_v_appendWholeLimb 24 = .ok (.ldc2_w 55, 3) := by decide +kernel
theorem d_v_appendWholeLimb_27 : decode b_v_appendWholeLimb 27 = .ok (.lmul, 1) := by decide +kernel
theorem d_v_appendWholeLimb_28 : decode b_v_appendWholeLimb 28 = .ok (.lload_n 2, 1) := by decide +kernel
theorem d_v_appendWholeLimb_29 : decode b_v_appendWholeLimb 29 = .ok (.ladd, 1) := by decide +kernel
theorem d_v_appendWholeLimb_30 : decode b_v_appendWholeLimb 30 = .ok (.lstore 5, 2) := by decide +kernel
theorem d_v_appendWholeLimb_32 : decode b_v_appendWholeLimb 32 = .ok (.aload_n 0, 1) := by decide +kernel
theorem d_v_appendWholeLimb_33 : decode b_v_appendWholeLimb 33 = .ok (.getfield 13, 3) := by decide +kernel
theorem d_v_appendWholeLimb_36 : decode b_v_appendWholeLimb 36 = .ok (.iload 4, 2) := by decide +kernel
theorem d_v_appendWholeLimb_38 : decode b_v_appendWholeLimb 38 = .ok (.lload 5, 2) := by decide +kernel
theorem d_v_appendWholeLimb_40 : decode b_v_appendWholeLimb 40 = .ok (.l2i, 1) := by decide +kernel
theorem d_v_appendWholeLimb_41 : decode b_v_appendWholeLimb 41 = .ok (.iastore, 1) := by decide +kernel
theorem d_v_appendWholeLimb_42 : decode b_v_appendWholeLimb 42 = .ok (.lload 5, 2) := by decide +kernel
theorem d_v_appendWholeLimb_44 : decode b_v_appendWholeLimb 44 = .ok (.bipush 32, 2) := by decide +kernel
theorem d_v_appendWholeLimb_46 : decode b_v_appendWholeLimb 46 = .ok (.lushr, 1) := by decide +kernel
theorem d_v_appendWholeLimb_47 : decode b_v_appendWholeLimb 47 = .ok (.lstore_n 2, 1) := by decide +kernel
theorem d_v_appendWholeLimb_48 : decode b_v_appendWholeLimb 48 = .ok (.iinc 4 (-1), 3) := by decide +kernel
theorem d_v_appendWholeLimb_51 : decode b_v_appendWholeLimb 51 = .ok (.goto (-44), 3) := by decide +kernel
theorem d_v_appendWholeLimb_54 : decode b_v_appendWholeLimb 54 = .ok (.return_, 1) := by decide +kernel
theorem d_v_takeFractionWord_0 : decode b_v_takeFractionWord 0 = .ok (.lconst 0, 1) := by decide +kernel
theorem d_v_takeFractionWord_1 : decode b_v_takeFractionWord 1 = .ok (.lstore_n 2, 1) := by decide +kernel
theorem d_v_takeFractionWord_2 : decode b_v_takeFractionWord 2 = .ok (.iload_n 1, 1) := by decide +kernel
theorem d_v_takeFractionWord_3 : decode b_v_takeFractionWord 3 = .ok (.iconst 1, 1) := by decide +kernel
theorem d_v_takeFractionWord_4 : decode b_v_takeFractionWord 4 = .ok (.isub, 1) := by decide +kernel
theorem d_v_takeFractionWord_5 : decode b_v_takeFractionWord 5 = .ok (.istore 4, 2) := by decide +kernel
theorem d_v_takeFractionWord_7 : decode b_v_takeFractionWord 7 = .ok (.iload 4, 2) := by decide +kernel
theorem d_v_takeFractionWord_9 : decode b_v_takeFractionWord 9 = .ok (.bipush 35, 2) := by decide +kernel
theorem d_v_takeFractionWord_11 : decode b_v_takeFractionWord 11 = .ok (.if_icmp .lt 45, 3) := by decide +kernel
theorem d_v_takeFractionWord_14 : decode b_v_takeFractionWord 14 = .ok (.aload_n 0, 1) := by decide +kernel
theorem d_v_takeFractionWord_15 : decode b_v_takeFractionWord 15 = .ok (.getfield 9, 3) := by decide +kernel
theorem d_v_takeFractionWord_18 : decode b_v_takeFractionWord 18 = .ok (.iload 4, 2) := by decide +kernel
theorem d_v_takeFractionWord_20 : decode b_v_takeFractionWord 20 = .ok (.iaload, 1) := by decide +kernel
theorem d_v_takeFractionWord_21 : decode b_v_takeFractionWord 21 = .ok (.i2l, 1) := by decide +kernel
theorem d_v_takeFractionWord_22 : decode b_v_takeFractionWord 22 = .ok (.bipush 32, 2) := by decide +kernel
theorem d_v_takeFractionWord_24 : decode b_v_takeFractionWord 24 = .ok (.lshl, 1) := by decide +kernel
theorem d_v_takeFractionWord_25 : decode b_v_takeFractionWord 25 = .ok (.lload_n 2, 1) := by decide +kernel
theorem d_v_takeFractionWord_26 : decode b_v_takeFractionWord 26 = .ok (.ladd, 1) := by decide +kernel
theorem d_v_takeFractionWord_27 : decode b_v_takeFractionWord 27 = .ok (.lstore 5, 2) := by decide +kernel
theorem d_v_takeFractionWord_29 : decode b_v_takeFractionWord 29 = .ok (.aload_n 0, 1) := by decide +kernel
theorem d_v_takeFractionWord_30 : decode b_v_takeFractionWord 30 = .ok (.getfield 9, 3) := by decide +kernel
theorem d_v_takeFractionWord_33 : decode b_v_takeFractionWord 33 = .ok (.iload 4, 2) := by decide +kernel
theorem d_v_takeFractionWord_35 : decode b_v_takeFractionWord 35 = .ok (.lload 5, 2) := by decide +kernel
theorem d_v_takeFractionWord_37 : decode b_v_takeFractionWord 37 = .ok (.ldc2_w 55, 3) := by decide +kernel
theorem d_v_takeFractionWord_40 : decode b_v_takeFractionWord 40 = .ok (.lrem, 1) := by decide +kernel
theorem d_v_takeFractionWord_41 : decode b_v_takeFractionWord 41 = .ok (.l2i, 1) := by decide +kernel
theorem d_v_takeFractionWord_42 : decode b_v_takeFractionWord 42 = .ok (.iastore, 1) := by decide +kernel
theorem d_v_takeFractionWord_43 : decode b_v_takeFractionWord 43 = .ok (.lload 5, 2) := by decide +kernel
theorem d_v_takeFractionWord_45 : decode b_v_takeFractionWord 45 = .ok (.ldc2_w 55, 3) := by decide +kernel
theorem d_v_takeFractionWord_48 : decode b_v_takeFractionWord 48 = .ok (.ldiv, 1) := by decide +kernel
theorem d_v_takeFractionWord_49 : decode b_v_takeFractionWord 49 = .ok (.lstore_n 2, 1) := by decide +kernel
theorem d_v_takeFractionWord_50 : decode b_v_takeFractionWord 50 = .ok (.iinc 4 (-1), 3) := by decide +kernel
theorem d_v_takeFractionWord_53 : decode b_v_takeFractionWord 53 = .ok (.goto (-46), 3) := by decide +kernel
theorem d_v_takeFractionWord_56 : decode b_v_takeFractionWord 56 = .ok (.lload_n 2, 1) := by decide +kernel
theorem d_v_takeFractionWord_57 : decode b_v_takeFractionWord 57 = .ok (.l2i, 1) := by decide +kernel
theorem d_v_takeFractionWord_58 : decode b_v_takeFractionWord 58 = .ok (.ireturn, 1) := by decide +kernel
theorem d_v_rounded_0 : decode b_v_rounded 0 = .ok (.aload_n 0, 1) := by decide +kernel
theorem d_v_rounded_1 : decode b_v_rounded 1 = .ok (.invokevirtual 57, 3) := by decide +kernel
theorem d_v_rounded_4 : decode b_v_rounded 4 = .ok (.istore_n 2, 1) := by decide +kernel
theorem d_v_rounded_5 : decode b_v_rounded 5 = .ok (.iload_n 2, 1) := by decide +kernel
theorem d_v_rounded_6 : decode b_v_rounded 6 = .ok (.aload_n 1, 1) := by decide +kernel
theorem d_v_rounded_7 : decode b_v_rounded 7 = .ok (.getfield 60, 3) := by decide +kernel
theorem d_v_rounded_10 : decode b_v_rounded 10 = .ok (.isub, 1) := by decide +kernel
theorem d_v_rounded_11 : decode b_v_rounded 11 = .ok (.iconst 1, 1) := by decide +kernel
theorem d_v_rounded_12 : decode b_v_rounded 12 = .ok (.iadd, 1) := by decide +kernel
theorem d_v_rounded_13 : decode b_v_rounded 13 = .ok (.aload_n 1, 1) := by decide +kernel
theorem d_v_rounded_14 : decode b_v_rounded 14 = .ok (.getfield 66, 3) := by decide +kernel
theorem d_v_rounded_17 : decode b_v_rounded 17 = .ok (.invokestatic 69, 3) := by decide +kernel
theorem d_v_rounded_20 : decode b_v_rounded 20 = .ok (.istore_n 3, 1) := by decide +kernel
theorem d_v_rounded_21 : decode b_v_rounded 21 = .ok (.aload_n 0, 1) := by decide +kernel
theorem d_v_rounded_22 : decode b_v_rounded 22 = .ok (.getfield 16, 3) := by decide +kernel
theorem d_v_rounded_25 : decode b_v_rounded 25 = .ok (.ifCond .ne 11, 3) := by decide +kernel
theorem d_v_rounded_28 : decode b_v_rounded 28 = .ok (.iload_n 3, 1) := by decide +kernel
theorem d_v_rounded_29 : decode b_v_rounded 29 = .ok (.aload_n 1, 1) := by decide +kernel
theorem d_v_rounded_30 : decode b_v_rounded 30 = .ok (.getfield 75, 3) := by decide +kernel
theorem d_v_rounded_33 : decode b_v_rounded 33 = .ok (.if_icmp .le 8, 3) := by decide +kernel
theorem d_v_rounded_36 : decode b_v_rounded 36 = .ok (.aload_n 1, 1) := by decide +kernel
theorem d_v_rounded_37 : decode b_v_rounded 37 = .ok (.getfield 78, 3) := by decide +kernel
theorem d_v_rounded_40 : decode b_v_rounded 40 = .ok (.lreturn, 1) := by decide +kernel
theorem d_v_rounded_41 : decode b_v_rounded 41 = .ok (.lconst 0, 1) := by decide +kernel
theorem d_v_rounded_42 : decode b_v_rounded 42 = .ok (.lstore 4, 2) := by decide +kernel
theorem d_v_rounded_44 : decode b_v_rounded 44 = .ok (.iload_n 2, 1) := by decide +kernel
theorem d_v_rounded_45 : decode b_v_rounded 45 = .ok (.istore 6, 2) := by decide +kernel
theorem d_v_rounded_47 : decode b_v_rounded 47 = .ok (.iload 6, 2) := by decide +kernel
theorem d_v_rounded_49 : decode b_v_rounded 49 = .ok (.iload_n 3, 1) := by decide +kernel
theorem d_v_rounded_50 : decode b_v_rounded 50 = .ok (.if_icmp .lt 25, 3) := by decide +kernel
theorem d_v_rounded_53 : decode b_v_rounded 53 = .ok (.ldc2_w 82, 3) := by decide +kernel
theorem d_v_rounded_56 : decode b_v_rounded 56 = .ok (.lload 4, 2) := by decide +kernel
theorem d_v_rounded_58 : decode b_v_rounded 58 = .ok (.lmul, 1) := by decide +kernel
theorem d_v_rounded_59 : decode b_v_rounded 59 = .ok (.aload_n 0, 1) := by decide +kernel
theorem d_v_rounded_60 : decode b_v_rounded 60 = .ok (.iload 6, 2) := by decide +kernel
theorem d_v_rounded_62 : decode b_v_rounded 62 = .ok (.invokevirtual 84, 3) := by decide +kernel
theorem d_v_rounded_65 : decode b_v_rounded 65 = .ok (.i2l, 1) := by decide +kernel
theorem d_v_rounded_66 : decode b_v_rounded 66 = .ok (.ladd, 1) := by decide +kernel
theorem d_v_rounded_67 : decode b_v_rounded 67 = .ok (.lstore 4, 2) := by decide +kernel
theorem d_v_rounded_69 : decode b_v_rounded 69 = .ok (.iinc 6 (-1), 3) := by decide +kernel
theorem d_v_rounded_72 : decode b_v_rounded 72 = .ok (.goto (-25), 3) := by decide +kernel
theorem d_v_rounded_75 : decode b_v_rounded 75 = .ok (.aload_n 0, 1) := by decide +kernel
theorem d_v_rounded_76 : decode b_v_rounded 76 = .ok (.iload_n 3, 1) := by decide +kernel
theorem d_v_rounded_77 : decode b_v_rounded 77 = .ok (.iconst 1, 1) := by decide +kernel
theorem d_v_rounded_78 : decode b_v_rounded 78 = .ok (.isub, 1) := by decide +kernel
theorem d_v_rounded_79 : decode b_v_rounded 79 = .ok (.invokevirtual 84, 3) := by decide +kernel
theorem d_v_rounded_82 : decode b_v_rounded 82 = .ok (.iconst 1, 1) := by decide +kernel
theorem d_v_rounded_83 : decode b_v_rounded 83 = .ok (.if_icmp .ne 30, 3) := by decide +kernel
theorem d_v_rounded_86 : decode b_v_rounded 86 = .ok (.lload 4, 2) := by decide +kernel
theorem d_v_rounded_88 : decode b_v_rounded 88 = .ok (.ldc2_w 82, 3) := by decide +kernel
theorem d_v_rounded_91 : decode b_v_rounded 91 = .ok (.lrem, 1) := by decide +kernel
theorem d_v_rounded_92 : decode b_v_rounded 92 = .ok (.lconst 1, 1) := by decide +kernel
theorem d_v_rounded_93 : decode b_v_rounded 93 = .ok (.lcmp, 1) := by decide +kernel
theorem d_v_rounded_94 : decode b_v_rounded 94 = .ok (.ifCond .eq 13, 3) := by decide +kernel
theorem d_v_rounded_97 : decode b_v_rounded 97 = .ok (.aload_n 0, 1) := by decide +kernel
theorem d_v_rounded_98 : decode b_v_rounded 98 = .ok (.iload_n 3, 1) := by decide +kernel
theorem d_v_rounded_99 : decode b_v_rounded 99 = .ok (.iconst 1, 1) := by decide +kernel
theorem d_v_rounded_100 : decode b_v_rounded 100 = .ok (.isub, 1) := by decide +kernel
theorem d_v_rounded_101 : decode b_v_rounded 101 = .ok (.invokevirtual 87, 3) := by decide +kernel
theorem d_v_rounded_104 : decode b_v_rounded 104 = .ok (.ifCond .eq 9, 3) := by decide +kernel
theorem d_v_rounded_107 : decode b_v_rounded 107 = .ok (.lload 4, 2) := by decide +kernel
theorem d_v_rounded_109 : decode b_v_rounded 109 = .ok (.lconst 1, 1) := by decide +kernel
theorem d_v_rounded_110 : decode b_v_rounded 110 = .ok (.ladd, 1) := by decide +kernel
theorem d_v_rounded_111 : decode b_v_rounded 111 = .ok (.lstore 4, 2) := by decide +kernel
theorem d_v_rounded_113 : decode b_v_rounded 113 = .ok (.iload_n 3, 1) := by decide +kernel
theorem d_v_rounded_114 : decode b_v_rounded 114 = .ok (.aload_n 1, 1) := by decide +kernel
theorem d_v_rounded_115 : decode b_v_rounded 115 = .ok (.getfield 66, 3) := by decide +kernel
theorem d_v_rounded_118 : decode b_v_rounded 118 = .ok (.isub, 1) := by decide +kernel
theorem d_v_rounded_119 : decode b_v_rounded 119 = .ok (.i2l, 1) := by decide +kernel
theorem d_v_rounded_120 : decode b_v_rounded 120 = .ok (.aload_n 1, 1) := by decide +kernel
theorem d_v_rounded_121 : decode b_v_rounded 121 = .ok (.getfield 91, 3) := by decide +kernel
theorem d_v_rounded_124 : decode b_v_rounded 124 = .ok (.lmul, 1) := by decide +kernel
theorem d_v_rounded_125 : decode b_v_rounded 125 = .ok (.lload 4, 2) := by decide +kernel
theorem d_v_rounded_127 : decode b_v_rounded 127 = .ok (.ladd, 1) := by decide +kernel
theorem d_v_rounded_128 : decode b_v_rounded 128 = .ok (.lreturn, 1) := by decide +kernel
theorem d_v_topPower_0 : decode b_v_topPower 0 = .ok (.sipush 1055, 3) := by decide +kernel
theorem d_v_topPower_3 : decode b_v_topPower 3 = .ok (.istore_n 1, 1) := by decide +kernel
theorem d_v_topPower_4 : decode b_v_topPower 4 = .ok (.iload_n 1, 1) := by decide +kernel
theorem d_v_topPower_5 : decode b_v_topPower 5 = .ok (.sipush (-1088), 3) := by decide +kernel
theorem d_v_topPower_8 : decode b_v_topPower 8 = .ok (.if_icmp .lt 21, 3) := by decide +kernel
theorem d_v_topPower_11 : decode b_v_topPower 11 = .ok (.aload_n 0, 1) := by decide +kernel
theorem d_v_topPower_12 : decode b_v_topPower 12 = .ok (.getfield 13, 3) := by decide +kernel
theorem d_v_topPower_15 : decode b_v_topPower 15 = .ok (.iload_n 1, 1) := by decide +kernel
theorem d_v_topPower_16 : decode b_v_topPower 16 = .ok (.invokestatic 36, 3) := by decide +kernel
theorem d_v_topPower_19 : decode b_v_topPower 19 = .ok (.iaload, 1) := by decide +kernel
theorem d_v_topPower_20 : decode b_v_topPower 20 = .ok (.ifCond .ne 9, 3) := by decide +kernel
theorem d_v_topPower_23 : decode b_v_topPower 23 = .ok (.iinc 1 (-32), 3) := by decide +kernel
theorem d_v_topPower_26 : decode b_v_topPower 26 = .ok (.goto (-22), 3) := by decide +kernel
theorem d_v_topPower_29 : decode b_v_topPower 29 = .ok (.iload_n 1, 1) := by decide +kernel
theorem d_v_topPower_30 : decode b_v_topPower 30 = .ok (.sipush (-1088), 3) := by decide +kernel
theorem d_v_topPower_33 : decode b_v_topPower 33 = .ok (.if_icmp .lt 17, 3) := by decide +kernel
theorem d_v_topPower_36 : decode b_v_topPower 36 = .ok (.aload_n 0, 1) := by decide +kernel
theorem d_v_topPower_37 : decode b_v_topPower 37 = .ok (.iload_n 1, 1) := by decide +kernel
theorem d_v_topPower_38 : decode b_v_topPower 38 = .ok (.invokevirtual 84, 3) := by decide +kernel
theorem d_v_topPower_41 : decode b_v_topPower 41 = .ok (.ifCond .ne 9, 3) := by decide +kernel
theorem d_v_topPower_44 : decode b_v_topPower 44 = .ok (.iinc 1 (-1), 3) := by decide +kernel
theorem d_v_topPower_47 : decode b_v_topPower 47 = .ok (.goto (-18), 3) := by decide +kernel
theorem d_v_topPower_50 : decode b_v_topPower 50 = .ok (.iload_n 1, 1) := by decide +kernel
theorem d_v_topPower_51 : decode b_v_topPower 51 = .ok (.ireturn, 1) := by decide +kernel
theorem d_v_isMoreBelow_0 : decode b_v_isMoreBelow 0 = .ok (.iload_n 1, 1) := by decide +kernel
theorem d_v_isMoreBelow_1 : decode b_v_isMoreBelow 1 = .ok (.invokestatic 36, 3) := by decide +kernel
theorem d_v_isMoreBelow_4 : decode b_v_isMoreBelow 4 = .ok (.istore_n 2, 1) := by decide +kernel
theorem d_v_isMoreBelow_5 : decode b_v_isMoreBelow 5 = .ok (.aload_n 0, 1) := by decide +kernel
theorem d_v_isMoreBelow_6 : decode b_v_isMoreBelow 6 = .ok (.getfield 20, 3) := by decide +kernel
theorem d_v_isMoreBelow_9 : decode b_v_isMoreBelow 9 = .ok (.ifCond .ne 21, 3) := by decide +kernel
theorem d_v_isMoreBelow_12 : decode b_v_isMoreBelow 12 = .ok (.aload_n 0, 1) := by decide +kernel
theorem d_v_isMoreBelow_13 : decode b_v_isMoreBelow 13 = .ok (.getfield 13, 3) := by decide +kernel
theorem d_v_isMoreBelow_16 : decode b_v_isMoreBelow 16 = .ok (.iload_n 2, 1) := by decide +kernel
theorem d_v_isMoreBelow_17 : decode b_v_isMoreBelow 17 = .ok (.iaload, 1) := by decide +kernel
theorem d_v_isMoreBelow_18 : decode b_v_isMoreBelow 18 = .ok (.iconst 1, 1) := by decide +kernel
theorem d_v_isMoreBelow_19 : decode b_v_isMoreBelow 19 = .ok (.iload_n 1, 1) := by decide +kernel
theorem d_v_isMoreBelow_20 : decode b_v_isMoreBelow 20 = .ok (.invokestatic 40, 3) := by decide +kernel
theorem d_v_isMoreBelow_23 : decode b_v_isMoreBelow 23 = .ok (.ishl, 1) := by decide +kernel
theorem d_v_isMoreBelow_24 : decode b_v_isMoreBelow 24 = .ok (.iconst 1, 1) := by decide +kernel
theorem d_v_isMoreBelow_25 : decode b_v_isMoreBelow 25 = .ok (.isub, 1) := by decide +kernel
theorem d_v_isMoreBelow_26 : decode b_v_isMoreBelow 26 = .ok (.iand, 1) := by decide +kernel
theorem d_v_isMoreBelow_27 : decode b_v_isMoreBelow 27 = .ok (.ifCond .eq 5, 3) := by decide +kernel
theorem d_v_isMoreBelow_30 : decode b_v_isMoreBelow 30 = .ok (.iconst 1, 1) := by decide +kernel
theorem d_v_isMoreBelow_31 : decode b_v_isMoreBelow 31 = .ok (.ireturn, 1) := by decide +kernel
theorem d_v_isMoreBelow_32 : decode b_v_isMoreBelow 32 = .ok (.iload_n 2, 1) := by decide +kernel
theorem d_v_isMoreBelow_33 : decode b_v_isMoreBelow 33 = .ok (.iconst 1, 1) := by decide +kernel
theorem d_v_isMoreBelow_34 : decode b_v_isMoreBelow 34 = .ok (.iadd, 1) := by decide +kernel
theorem d_v_isMoreBelow_35 : decode b_v_isMoreBelow 35 = .ok (.istore_n 3, 1) := by decide +kernel
theorem d_v_isMoreBelow_36 : decode b_v_isMoreBelow 36 = .ok (.iload_n 3, 1) := by decide +kernel
theorem d_v_isMoreBelow_37 : decode b_v_isMoreBelow 37 = .ok (.bipush 67, 2) := by decide +kernel
theorem d_v_isMoreBelow_39 : decode b_v_isMoreBelow 39 = .ok (.if_icmp .ge 20, 3) := by decide +kernel
theorem d_v_isMoreBelow_42 : decode b_v_isMoreBelow 42 = .ok (.aload_n 0, 1) := by decide +kernel
theorem d_v_isMoreBelow_43 : decode b_v_isMoreBelow 43 = .ok (.getfield 13, 3) := by decide +kernel
theorem d_v_isMoreBelow_46 : decode b_v_isMoreBelow 46 = .ok (.iload_n 3, 1) := by decide +kernel
theorem d_v_isMoreBelow_47 : decode b_v_isMoreBelow 47 = .ok (.iaload, 1) := by decide +kernel
theorem d_v_isMoreBelow_48 : decode b_v_isMoreBelow 48 = .ok (.ifCond .eq 5, 3) := by decide +kernel
theorem d_v_isMoreBelow_51 : decode b_v_isMoreBelow 51 = .ok (.iconst 1, 1) := by decide +kernel
theorem d_v_isMoreBelow_52 : decode b_v_isMoreBelow 52 = .ok (.ireturn, 1) := by decide +kernel
theorem d_v_isMoreBelow_53 : decode b_v_isMoreBelow 53 = .ok (.iinc 3 1, 3) := by decide +kernel
theorem d_v_isMoreBelow_56 : decode b_v_isMoreBelow 56 = .ok (.goto (-20), 3) := by decide +kernel
theorem d_v_isMoreBelow_59 : decode b_v_isMoreBelow 59 = .ok (.iconst 0, 1) := by decide +kernel
theorem d_v_isMoreBelow_60 : decode b_v_isMoreBelow 60 = .ok (.ireturn, 1) := by decide +kernel
theorem d_v_bitAt_0 : decode b_v_bitAt 0 = .ok (.aload_n 0, 1) := by decide +kernel
theorem d_v_bitAt_1 : decode b_v_bitAt 1 = .ok (.getfield 13, 3) := by decide +kernel
theorem d_v_bitAt_4 : decode b_v_bitAt 4 = .ok (.iload_n 1, 1) := by decide +kernel
theorem d_v_bitAt_5 : decode b_v_bitAt 5 = .ok (.invokestatic 36, 3) := by decide +kernel
theorem d_v_bitAt_8 : decode b_v_bitAt 8 = .ok (.iaload, 1) := by decide +kernel
theorem d_v_bitAt_9 : decode b_v_bitAt 9 = .ok (.iload_n 1, 1) := by decide +kernel
theorem d_v_bitAt_10 : decode b_v_bitAt 10 = .ok (.invokestatic 40, 3) := by decide +kernel
theorem d_v_bitAt_13 : decode b_v_bitAt 13 = .ok (.iushr, 1) := by decide +kernel
theorem d_v_bitAt_14 : decode b_v_bitAt 14 = .ok (.iconst 1, 1) := by decide +kernel
theorem d_v_bitAt_15 : decode b_v_bitAt 15 = .ok (.iand, 1) := by decide +kernel
theorem d_v_bitAt_16 : decode b_v_bitAt 16 = .ok (.ireturn, 1) := by decide +kernel
theorem d_v_wordOf_0 : decode b_v_wordOf 0 = .ok (.sipush 1055, 3) := by decide +kernel
theorem d_v_wordOf_3 : decode b_v_wordOf 3 = .ok (.iload_n 0, 1) := by decide +kernel
theorem d_v_wordOf_4 : decode b_v_wordOf 4 = .ok (.isub, 1) := by decide +kernel
theorem d_v_wordOf_5 : decode b_v_wordOf 5 = .ok (.bipush 32, 2) := by decide +kernel
theorem d_v_wordOf_7 : decode b_v_wordOf 7 = .ok (.idiv, 1) := by decide +kernel
theorem d_v_wordOf_8 : decode b_v_wordOf 8 = .ok (.ireturn, 1) := by decide +kernel
theorem d_v_shiftOf_0 : decode b_v_shiftOf 0 = .ok (.bipush 31, 2) := by decide +kernel
theorem d_v_shiftOf_2 : decode b_v_shiftOf 2 = .ok (.sipush 1055, 3) := by decide +kernel
theorem d_v_shiftOf_5 : decode b_v_shiftOf 5 = .ok (.iload_n 0, 1) := by decide +kernel
theorem d_v_shiftOf_6 : decode b_v_shiftOf 6 = .ok (.isub, 1) := by decide +kernel
theorem d_v_shiftOf_7 : decode b_v_shiftOf 7 = .ok (.bipush 32, 2) := by decide +kernel
theorem d_v_shiftOf_9 : decode b_v_shiftOf 9 = .ok (.irem, 1) := by decide +kernel
theorem d_v_shiftOf_10 : decode b_v_shiftOf 10 = .ok (.isub, 1) := by decide +kernel
theorem d_v_shiftOf_11 : decode b_v_shiftOf 11 = .ok (.ireturn, 1) := by decide +kernel

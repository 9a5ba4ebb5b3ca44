theorem d_R_init_0 : decode cc_R_init 0 = .ok (.aload_n 0, 1) := by decide +kernel
theorem d_R_init_1 : decode cc_R_init 1 = .ok (.invokespecial 3, 3) := by decide +kernel
theorem d_R_init_4 : decode cc_R_init 4 = .ok (.aload_n 0, 1) := by decide +kernel
theorem d_R_init_5 : decode cc_R_init 5 = .ok (.iload_n 1, 1) := by decide +kernel
theorem d_R_init_6 : decode cc_R_init 6 = .ok (.iconst 0, 1) := by decide +kernel
theorem d_R_init_7 : decode cc_R_init 7 = .ok (.invokestatic 9, 3) := by decide +kernel
theorem d_R_init_10 : decode cc_R_init 10 = .ok (.newarray .int, 2) := by decide +kernel
theorem d_R_init_12 : decode cc_R_init 12 = .ok (.putfield 15, 3) := by decide +kernel
theorem d_R_init_15 : decode cc_R_init 15 = .ok (.return_, 1) := by decide +kernel
theorem d_R_size_0 : decode cc_R_size 0 = .ok (.aload_n 0, 1) := by decide +kernel
theorem d_R_size_1 : decode cc_R_size 1 = .ok (.getfield 21, 3) := by decide +kernel
theorem d_R_size_4 : decode cc_R_size 4 = .ok (.ireturn, 1) := by decide +kernel
theorem d_R_empty_0 : decode cc_R_empty 0 = .ok (.aload_n 0, 1) := by decide +kernel
theorem d_R_empty_1 : decode cc_R_empty 1 = .ok (.iconst 0, 1) := by decide +kernel
theorem d_R_empty_2 : decode cc_R_empty 2 = .ok (.putfield 21, 3) := by decide +kernel
theorem d_R_empty_5 : decode cc_R_empty 5 = .ok (.return_, 1) := by decide +kernel
theorem d_R_add_0 : decode cc_R_add 0 = .ok (.aload_n 0, 1) := by decide +kernel
theorem d_R_add_1 : decode cc_R_add 1 = .ok (.getfield 21, 3) := by decide +kernel
theorem d_R_add_4 : decode cc_R_add 4 = .ok (.aload_n 0, 1) := by decide +kernel
theorem d_R_add_5 : decode cc_R_add 5 = .ok (.getfield 15, 3) := by decide +kernel
theorem d_R_add_8 : decode cc_R_add 8 = .ok (.arraylength, 1) := by decide +kernel
theorem d_R_add_9 : decode cc_R_add 9 = .ok (.if_icmp .lt 5, 3) := by decide +kernel
theorem d_R_add_12 : decode cc_R_add 12 = .ok (.iconst 0, 1) := by decide +kernel
theorem d_R_add_13 : decode cc_R_add 13 = .ok (.ireturn, 1) := by decide +kernel
theorem d_R_add_14 : decode cc_R_add 14 = .ok (.aload_n 0, 1) := by decide +kernel
theorem d_R_add_15 : decode cc_R_add 15 = .ok (.getfield 15, 3) := by decide +kernel
theorem d_R_add_18 : decode cc_R_add 18 = .ok (.aload_n 0, 1) := by decide +kernel
theorem d_R_add_19 : decode cc_R_add 19 = .ok (.getfield 21, 3) := by decide +kernel
theorem d_R_add_22 : decode cc_R_add 22 = .ok (.iload_n 1, 1) := by decide +kernel
theorem d_R_add_23 : decode cc_R_add 23 = .ok (.iastore, 1) := by decide +kernel
theorem d_R_add_24 : decode cc_R_add 24 = .ok (.aload_n 0, 1) := by decide +kernel
theorem d_R_add_25 : decode cc_R_add 25 = .ok (.dup, 1) := by decide +kernel
theorem d_R_add_26 : decode cc_R_add 26 = .ok (.getfield 21, 3) := by decide +kernel
theorem d_R_add_29 : decode cc_R_add 29 = .ok (.iconst 1, 1) := by decide +kernel
theorem d_R_add_30 : decode cc_R_add 30 = .ok (.iadd, 1) := by decide +kernel
theorem d_R_add_31 : decode cc_R_add 31 = .ok (.putfield 21, 3) := by decide +kernel
theorem d_R_add_34 : decode cc_R_add 34 = .ok (.iconst 1, 1) := by decide +kernel
theorem d_R_add_35 : decode cc_R_add 35 = .ok (.ireturn, 1) := by decide +kernel
theorem d_R_at_0 : decode cc_R_at 0 = .ok (.iload_n 1, 1) := by decide +kernel
theorem d_R_at_1 : decode cc_R_at 1 = .ok (.ifCond .lt 11, 3) := by decide +kernel
theorem d_R_at_4 : decode cc_R_at 4 = .ok (.iload_n 1, 1) := by decide +kernel
theorem d_R_at_5 : decode cc_R_at 5 = .ok (.aload_n 0, 1) := by decide +kernel
theorem d_R_at_6 : decode cc_R_at 6 = .ok (.getfield 21, 3) := by decide +kernel
theorem d_R_at_9 : decode cc_R_at 9 = .ok (.if_icmp .lt 7, 3) := by decide +kernel
theorem d_R_at_12 : decode cc_R_at 12 = .ok (.iconst (-1), 1) := by decide +kernel
theorem d_R_at_13 : decode cc_R_at 13 = .ok (.goto 9, 3) := by decide +kernel
theorem d_R_at_16 : decode cc_R_at 16 = .ok (.aload_n 0, 1) := by decide +kernel
theorem d_R_at_17 : decode cc_R_at 17 = .ok (.getfield 15, 3) := by decide +kernel
theorem d_R_at_20 : decode cc_R_at 20 = .ok (.iload_n 1, 1) := by decide +kernel
theorem d_R_at_21 : decode cc_R_at 21 = .ok (.iaload, 1) := by decide +kernel
theorem d_R_at_22 : decode cc_R_at 22 = .ok (.ireturn, 1) := by decide +kernel
theorem d_R_wordAt_0 : decode cc_R_wordAt 0 = .ok (.iload_n 1, 1) := by decide +kernel
theorem d_R_wordAt_1 : decode cc_R_wordAt 1 = .ok (.ifCond .ge 7, 3) := by decide +kernel
theorem d_R_wordAt_4 : decode cc_R_wordAt 4 = .ok (.ldc2_w 25, 3) := by decide +kernel
theorem d_R_wordAt_7 : decode cc_R_wordAt 7 = .ok (.lreturn, 1) := by decide +kernel
theorem d_R_wordAt_8 : decode cc_R_wordAt 8 = .ok (.lconst 0, 1) := by decide +kernel
theorem d_R_wordAt_9 : decode cc_R_wordAt 9 = .ok (.lstore_n 2, 1) := by decide +kernel
theorem d_R_wordAt_10 : decode cc_R_wordAt 10 = .ok (.iconst 0, 1) := by decide +kernel
theorem d_R_wordAt_11 : decode cc_R_wordAt 11 = .ok (.istore 4, 2) := by decide +kernel
theorem d_R_wordAt_13 : decode cc_R_wordAt 13 = .ok (.iload 4, 2) := by decide +kernel
theorem d_R_wordAt_15 : decode cc_R_wordAt 15 = .ok (.bipush 8, 2) := by decide +kernel
theorem d_R_wordAt_17 : decode cc_R_wordAt 17 = .ok (.if_icmp .ge 40, 3) := by decide +kernel
theorem d_R_wordAt_20 : decode cc_R_wordAt 20 = .ok (.lload_n 2, 1) := by decide +kernel
theorem d_R_wordAt_21 : decode cc_R_wordAt 21 = .ok (.bipush 8, 2) := by decide +kernel
theorem d_R_wordAt_23 : decode cc_R_wordAt 23 = .ok (.lshl, 1) := by decide +kernel
theorem d_R_wordAt_24 : decode cc_R_wordAt 24 = .ok (.iload_n 1, 1) := by decide +kernel
theorem d_R_wordAt_25 : decode cc_R_wordAt 25 = .ok (.aload_n 0, 1) := by decide +kernel
theorem d_R_wordAt_26 : decode cc_R_wordAt 26 = .ok (.getfield 21, 3) := by decide +kernel
theorem d_R_wordAt_29 : decode cc_R_wordAt 29 = .ok (.iload 4, 2) := by decide +kernel
theorem d_R_wordAt_31 : decode cc_R_wordAt 31 = .ok (.isub, 1) := by decide +kernel
theorem d_R_wordAt_32 : decode cc_R_wordAt 32 = .ok (.if_icmp .ge 15, 3) := by decide +kernel
theorem d_R_wordAt_35 : decode cc_R_wordAt 35 = .ok (.aload_n 0, 1) := by decide +kernel
theorem d_R_wordAt_36 : decode cc_R_wordAt 36 = .ok (.getfield 15, 3) := by decide +kernel
theorem d_R_wordAt_39 : decode cc_R_wordAt 39 = .ok (.iload_n 1, 1) := by decide +kernel
theorem d_R_wordAt_40 : decode cc_R_wordAt 40 = .ok (.iload 4, 2) := by decide +kernel
theorem d_R_wordAt_42 : decode cc_R_wordAt 42 = .ok (.iadd, 1) := by decide +kernel
theorem d_R_wordAt_43 : decode cc_R_wordAt 43 = .ok (.iaload, 1) := by decide +kernel
theorem d_R_wordAt_44 : decode cc_R_wordAt 44 = .ok (.goto 4, 3) := by decide +kernel
theorem d_R_wordAt_47 : decode cc_R_wordAt 47 = .ok (.iconst 0, 1) := by decide +kernel
theorem d_R_wordAt_48 : decode cc_R_wordAt 48 = .ok (.i2l, 1) := by decide +kernel
theorem d_R_wordAt_49 : decode cc_R_wordAt 49 = .ok (.lor, 1) := by decide +kernel
theorem d_R_wordAt_50 : decode cc_R_wordAt 50 = .ok (.lstore_n 2, 1) := by decide +kernel
theorem d_R_wordAt_51 : decode cc_R_wordAt 51 = .ok (.iinc 4 1, 3) := by decide +kernel
theorem d_R_wordAt_54 : decode cc_R_wordAt 54 = .ok (.goto (-41), 3) := by decide +kernel
theorem d_R_wordAt_57 : decode cc_R_wordAt 57 = .ok (.lload_n 2, 1) := by decide +kernel
theorem d_R_wordAt_58 : decode cc_R_wordAt 58 = .ok (.lreturn, 1) := by decide +kernel
theorem d_R_squeeze_0 : decode cc_R_squeeze 0 = .ok (.iconst 0, 1) := by decide +kernel
theorem d_R_squeeze_1 : decode cc_R_squeeze 1 = .ok (.istore_n 1, 1) := by decide +kernel
theorem d_R_squeeze_2 : decode cc_R_squeeze 2 = .ok (.iconst 0, 1) := by decide +kernel
theorem d_R_squeeze_3 : decode cc_R_squeeze 3 = .ok (.istore_n 2, 1) := by decide +kernel
theorem d_R_squeeze_4 : decode cc_R_squeeze 4 = .ok (.iload_n 2, 1) := by decide +kernel
theorem d_R_squeeze_5 : decode cc_R_squeeze 5 = .ok (.aload_n 0, 1) := by decide +kernel
theorem d_R_squeeze_6 : decode cc_R_squeeze 6 = .ok (.getfield 21, 3) := by decide +kernel
theorem d_R_squeeze_9 : decode cc_R_squeeze 9 = .ok (.if_icmp .ge 52, 3) := by decide +kernel
theorem d_R_squeeze_12 : decode cc_R_squeeze 12 = .ok (.aload_n 0, 1) := by decide +kernel
theorem d_R_squeeze_13 : decode cc_R_squeeze 13 = .ok (.getfield 15, 3) := by decide +kernel
theorem d_R_squeeze_16 : decode cc_R_squeeze 16 = .ok (.iload_n 2, 1) := by decide +kernel
theorem d_R_squeeze_17 : decode cc_R_squeeze 17 = .ok (.iaload, 1) := by decide +kernel
theorem d_R_squeeze_18 : decode cc_R_squeeze 18 = .ok (.bipush 32, 2) := by decide +kernel
theorem d_R_squeeze_20 : decode cc_R_squeeze 20 = .ok (.if_icmp .ne 20, 3) := by decide +kernel
theorem d_R_squeeze_23 : decode cc_R_squeeze 23 = .ok (.iload_n 1, 1) := by decide +kernel
theorem d_R_squeeze_24 : decode cc_R_squeeze 24 = .ok (.ifCond .le 31, 3) := by decide +kernel
theorem d_R_squeeze_27 : decode cc_R_squeeze 27 = .ok (.aload_n 0, 1) := by decide +kernel
theorem d_R_squeeze_28 : decode cc_R_squeeze 28 = .ok (.getfield 15, 3) := by decide +kernel
theorem d_R_squeeze_31 : decode cc_R_squeeze 31 = .ok (.iload_n 1, 1) := by decide +kernel
theorem d_R_squeeze_32 : decode cc_R_squeeze 32 = .ok (.iconst 1, 1) := by decide +kernel
theorem d_R_squeeze_33 : decode cc_R_squeeze 33 = .ok (.isub, 1) := by decide +kernel
theorem d_R_squeeze_34 : decode cc_R_squeeze 34 = .ok (.iaload, 1) := by decide +kernel
theorem d_R_squeeze_35 : decode cc_R_squeeze 35 = .ok (.bipush 32, 2) := by decide +kernel
theorem d_R_squeeze_37 : decode cc_R_squeeze 37 = .ok (.if_icmp .eq 18, 3) := by decide +kernel
theorem d_R_squeeze_40 : decode cc_R_squeeze 40 = .ok (.aload_n 0, 1) := by decide +kernel
theorem d_R_squeeze_41 : decode cc_R_squeeze 41 = .ok (.getfield 15, 3) := by decide +kernel
theorem d_R_squeeze_44 : decode cc_R_squeeze 44 = .ok (.iload_n 1, 1) := by decide +kernel
theorem d_R_squeeze_45 : decode cc_R_squeeze 45 = .ok (.aload_n 0, 1) := by decide +kernel
theorem d_R_squeeze_46 : decode cc_R_squeeze 46 = .ok (.getfield 15, 3) := by decide +kernel
theorem d_R_squeeze_49 : decode cc_R_squeeze 49 = .ok (.iload_n 2, 1) := by decide +kernel
theorem d_R_squeeze_50 : decode cc_R_squeeze 50 = .ok (.iaload, 1) := by decide +kernel
theorem d_R_squeeze_51 : decode cc_R_squeeze 51 = .ok (.iastore, 1) := by decide +kernel
theorem d_R_squeeze_52 : decode cc_R_squeeze 52 = .ok (.iinc 1 1, 3) := by decide +kernel
theorem d_R_squeeze_55 : decode cc_R_squeeze 55 = .ok (.iinc 2 1, 3) := by decide +kernel
theorem d_R_squeeze_58 : decode cc_R_squeeze 58 = .ok (.goto (-54), 3) := by decide +kernel
theorem d_R_squeeze_61 : decode cc_R_squeeze 61 = .ok (.aload_n 0, 1) := by decide +kernel
theorem d_R_squeeze_62 : decode cc_R_squeeze 62 = .ok (.iload_n 1, 1) := by decide +kernel
theorem d_R_squeeze_63 : decode cc_R_squeeze 63 = .ok (.ifCond .le 22, 3) := by decide +kernel
theorem d_R_squeeze_66 : decode cc_R_squeeze 66 = .ok (.aload_n 0, 1) := by decide +kernel
theorem d_R_squeeze_67 : decode cc_R_squeeze 67 = .ok (.getfield 15, 3) := by decide +kernel
theorem d_R_squeeze_70 : decode cc_R_squeeze 70 = .ok (.iload_n 1, 1) := by decide +kernel
theorem d_R_squeeze_71 : decode cc_R_squeeze 71 = .ok (.iconst 1, 1) := by decide +kernel
theorem d_R_squeeze_72 : decode cc_R_squeeze 72 = .ok (.isub, 1) := by decide +kernel
theorem d_R_squeeze_73 : decode cc_R_squeeze 73 = .ok (.iaload, 1) := by decide +kernel
theorem d_R_squeeze_74 : decode cc_R_squeeze 74 = .ok (.bipush 32, 2) := by decide +kernel
theorem d_R_squeeze_76 : decode cc_R_squeeze 76 = .ok (.if_icmp .ne 9, 3) := by decide +kernel
theorem d_R_squeeze_79 : decode cc_R_squeeze 79 = .ok (.iload_n 1, 1) := by decide +kernel
theorem d_R_squeeze_80 : decode cc_R_squeeze 80 = .ok (.iconst 1, 1) := by decide +kernel
theorem d_R_squeeze_81 : decode cc_R_squeeze 81 = .ok (.isub, 1) := by decide +kernel
theorem d_R_squeeze_82 : decode cc_R_squeeze 82 = .ok (.goto 4, 3) := by decide +kernel
theorem d_R_squeeze_85 : decode cc_R_squeeze 85 = .ok (.iload_n 1, 1) := by decide +kernel
theorem d_R_squeeze_86 : decode cc_R_squeeze 86 = .ok (.putfield 21, 3) := by decide +kernel
theorem d_R_squeeze_89 : decode cc_R_squeeze 89 = .ok (.return_, 1) := by decide +kernel
theorem d_F_init_0 : decode cc_F_init 0 = .ok (.aload_n 0, 1) := by decide +kernel
theorem d_F_init_1 : decode cc_F_init 1 = .ok (.invokespecial 3, 3) := by decide +kernel
theorem d_F_init_4 : decode cc_F_init 4 = .ok (.return_, 1) := by decide +kernel
theorem d_F_read_0 : decode cc_F_read 0 = .ok (.aload_n 1, 1) := by decide +kernel
theorem d_F_read_1 : decode cc_F_read 1 = .ok (.iload_n 2, 1) := by decide +kernel
theorem d_F_read_2 : decode cc_F_read 2 = .ok (.iconst 1, 1) := by decide +kernel
theorem d_F_read_3 : decode cc_F_read 3 = .ok (.iadd, 1) := by decide +kernel
theorem d_F_read_4 : decode cc_F_read 4 = .ok (.invokevirtual 9, 3) := by decide +kernel
theorem d_F_read_7 : decode cc_F_read 7 = .ok (.istore_n 3, 1) := by decide +kernel
theorem d_F_read_8 : decode cc_F_read 8 = .ok (.aload_n 0, 1) := by decide +kernel
theorem d_F_read_9 : decode cc_F_read 9 = .ok (.iload_n 3, 1) := by decide +kernel
theorem d_F_read_10 : decode cc_F_read 10 = .ok (.bipush 35, 2) := by decide +kernel
theorem d_F_read_12 : decode cc_F_read 12 = .ok (.if_icmp .eq 7, 3) := by decide +kernel
theorem d_F_read_15 : decode cc_F_read 15 = .ok (.iconst 1, 1) := by decide +kernel
theorem d_F_read_16 : decode cc_F_read 16 = .ok (.goto 4, 3) := by decide +kernel
theorem d_F_read_19 : decode cc_F_read 19 = .ok (.iconst 0, 1) := by decide +kernel
theorem d_F_read_20 : decode cc_F_read 20 = .ok (.putfield 15, 3) := by decide +kernel
theorem d_F_read_23 : decode cc_F_read 23 = .ok (.aload_n 0, 1) := by decide +kernel
theorem d_F_read_24 : decode cc_F_read 24 = .ok (.getfield 15, 3) := by decide +kernel
theorem d_F_read_27 : decode cc_F_read 27 = .ok (.ifCond .ne 14, 3) := by decide +kernel
theorem d_F_read_30 : decode cc_F_read 30 = .ok (.aload_n 0, 1) := by decide +kernel
theorem d_F_read_31 : decode cc_F_read 31 = .ok (.aload_n 1, 1) := by decide +kernel
theorem d_F_read_32 : decode cc_F_read 32 = .ok (.iload_n 2, 1) := by decide +kernel
theorem d_F_read_33 : decode cc_F_read 33 = .ok (.iconst 2, 1) := by decide +kernel
theorem d_F_read_34 : decode cc_F_read 34 = .ok (.iadd, 1) := by decide +kernel
theorem d_F_read_35 : decode cc_F_read 35 = .ok (.invokevirtual 21, 3) := by decide +kernel
theorem d_F_read_38 : decode cc_F_read 38 = .ok (.goto 41, 3) := by decide +kernel
theorem d_F_read_41 : decode cc_F_read 41 = .ok (.iload_n 3, 1) := by decide +kernel
theorem d_F_read_42 : decode cc_F_read 42 = .ok (.bipush 97, 2) := by decide +kernel
theorem d_F_read_44 : decode cc_F_read 44 = .ok (.if_icmp .lt 28, 3) := by decide +kernel
theorem d_F_read_47 : decode cc_F_read 47 = .ok (.iload_n 3, 1) := by decide +kernel
theorem d_F_read_48 : decode cc_F_read 48 = .ok (.bipush 122, 2) := by decide +kernel
theorem d_F_read_50 : decode cc_F_read 50 = .ok (.if_icmp .gt 22, 3) := by decide +kernel
theorem d_F_read_53 : decode cc_F_read 53 = .ok (.aload_n 0, 1) := by decide +kernel
theorem d_F_read_54 : decode cc_F_read 54 = .ok (.iload_n 3, 1) := by decide +kernel
theorem d_F_read_55 : decode cc_F_read 55 = .ok (.bipush 97, 2) := by decide +kernel
theorem d_F_read_57 : decode cc_F_read 57 = .ok (.isub, 1) := by decide +kernel
theorem d_F_read_58 : decode cc_F_read 58 = .ok (.putfield 25, 3) := by decide +kernel
theorem d_F_read_61 : decode cc_F_read 61 = .ok (.aload_n 0, 1) := by decide +kernel
theorem d_F_read_62 : decode cc_F_read 62 = .ok (.aload_n 1, 1) := by decide +kernel
theorem d_F_read_63 : decode cc_F_read 63 = .ok (.iload_n 2, 1) := by decide +kernel
theorem d_F_read_64 : decode cc_F_read 64 = .ok (.iconst 2, 1) := by decide +kernel
theorem d_F_read_65 : decode cc_F_read 65 = .ok (.iadd, 1) := by decide +kernel
theorem d_F_read_66 : decode cc_F_read 66 = .ok (.invokevirtual 29, 3) := by decide +kernel
theorem d_F_read_69 : decode cc_F_read 69 = .ok (.goto 10, 3) := by decide +kernel
theorem d_F_read_72 : decode cc_F_read 72 = .ok (.aload_n 0, 1) := by decide +kernel
theorem d_F_read_73 : decode cc_F_read 73 = .ok (.iload_n 2, 1) := by decide +kernel
theorem d_F_read_74 : decode cc_F_read 74 = .ok (.iconst 1, 1) := by decide +kernel
theorem d_F_read_75 : decode cc_F_read 75 = .ok (.iadd, 1) := by decide +kernel
theorem d_F_read_76 : decode cc_F_read 76 = .ok (.invokevirtual 32, 3) := by decide +kernel
theorem d_F_read_79 : decode cc_F_read 79 = .ok (.return_, 1) := by decide +kernel
theorem d_F_readNumber_0 : decode cc_F_readNumber 0 = .ok (.aload_n 1, 1) := by decide +kernel
theorem d_F_readNumber_1 : decode cc_F_readNumber 1 = .ok (.iload_n 2, 1) := by decide +kernel
theorem d_F_readNumber_2 : decode cc_F_readNumber 2 = .ok (.invokevirtual 9, 3) := by decide +kernel
theorem d_F_readNumber_5 : decode cc_F_readNumber 5 = .ok (.bipush 120, 2) := by decide +kernel
theorem d_F_readNumber_7 : decode cc_F_readNumber 7 = .ok (.if_icmp .ne 7, 3) := by decide +kernel
theorem d_F_readNumber_10 : decode cc_F_readNumber 10 = .ok (.iconst 1, 1) := by decide +kernel
theorem d_F_readNumber_11 : decode cc_F_readNumber 11 = .ok (.goto 4, 3) := by decide +kernel
theorem d_F_readNumber_14 : decode cc_F_readNumber 14 = .ok (.iconst 0, 1) := by decide +kernel
theorem d_F_readNumber_15 : decode cc_F_readNumber 15 = .ok (.istore_n 3, 1) := by decide +kernel
theorem d_F_readNumber_16 : decode cc_F_readNumber 16 = .ok (.iload_n 3, 1) := by decide +kernel
theorem d_F_readNumber_17 : decode cc_F_readNumber 17 = .ok (.ifCond .eq 8, 3) := by decide +kernel
theorem d_F_readNumber_20 : decode cc_F_readNumber 20 = .ok (.bipush 16, 2) := by decide +kernel
theorem d_F_readNumber_22 : decode cc_F_readNumber 22 = .ok (.goto 5, 3) := by decide +kernel
theorem d_F_readNumber_25 : decode cc_F_readNumber 25 = .ok (.bipush 10, 2) := by decide +kernel
theorem d_F_readNumber_27 : decode cc_F_readNumber 27 = .ok (.istore 4, 2) := by decide +kernel
theorem d_F_readNumber_29 : decode cc_F_readNumber 29 = .ok (.iload_n 3, 1) := by decide +kernel
theorem d_F_readNumber_30 : decode cc_F_readNumber 30 = .ok (.ifCond .eq 9, 3) := by decide +kernel
theorem d_F_readNumber_33 : decode cc_F_readNumber 33 = .ok (.iload_n 2, 1) := by decide +kernel
theorem d_F_readNumber_34 : decode cc_F_readNumber 34 = .ok (.iconst 1, 1) := by decide +kernel
theorem d_F_readNumber_35 : decode cc_F_readNumber 35 = .ok (.iadd, 1) := by decide +kernel
theorem d_F_readNumber_36 : decode cc_F_readNumber 36 = .ok (.goto 4, 3) := by decide +kernel
theorem d_F_readNumber_39 : decode cc_F_readNumber 39 = .ok (.iload_n 2, 1) := by decide +kernel
theorem d_F_readNumber_40 : decode cc_F_readNumber 40 = .ok (.istore 5, 2) := by decide +kernel
theorem d_F_readNumber_42 : decode cc_F_readNumber 42 = .ok (.iconst 0, 1) := by decide +kernel
theorem d_F_readNumber_43 : decode cc_F_readNumber 43 = .ok (.istore 6, 2) := by decide +kernel
theorem d_F_readNumber_45 : decode cc_F_readNumber 45 = .ok (.aload_n 0, 1) := by decide +kernel
theorem d_F_readNumber_46 : decode cc_F_readNumber 46 = .ok (.iconst 0, 1) := by decide +kernel
theorem d_F_readNumber_47 : decode cc_F_readNumber 47 = .ok (.putfield 25, 3) := by decide +kernel
theorem d_F_readNumber_50 : decode cc_F_readNumber 50 = .ok (.iload 6, 2) := by decide +kernel
theorem d_F_readNumber_52 : decode cc_F_readNumber 52 = .ok (.bipush 6, 2) := by decide +kernel
theorem d_F_readNumber_54 : decode cc_F_readNumber 54 = .ok (.if_icmp .ge 52, 3) := by decide +kernel
theorem d_F_readNumber_57 : decode cc_F_readNumber 57 = .ok (.aload_n 1, 1) := by decide +kernel
theorem d_F_readNumber_58 : decode cc_F_readNumber 58 = .ok (.iload 5, 2) := by decide +kernel
theorem d_F_readNumber_60 : decode cc_F_readNumber 60 = .ok (.iload 6, 2) := by decide +kernel
theorem d_F_readNumber_62 : decode cc_F_readNumber 62 = .ok (.iadd, 1) := by decide +kernel
theorem d_F_readNumber_63 : decode cc_F_readNumber 63 = .ok (.invokevirtual 9, 3) := by decide +kernel
theorem d_F_readNumber_66 : decode cc_F_readNumber 66 = .ok (.iload 4, 2) := by decide +kernel
theorem d_F_readNumber_68 : decode cc_F_readNumber 68 = .ok (.invokestatic 36, 3) := by decide +kernel
theorem d_F_readNumber_71 : decode cc_F_readNumber 71 = .ok (.ifCond .lt 35, 3) := by decide +kernel
theorem d_F_readNumber_74 : decode cc_F_readNumber 74 = .ok (.aload_n 0, 1) := by decide +kernel
theorem d_F_readNumber_75 : decode cc_F_readNumber 75 = .ok (.aload_n 0, 1) := by decide +kernel
theorem d_F_readNumber_76 : decode cc_F_readNumber 76 = .ok (.getfield 25, 3) := by decide +kernel
theorem d_F_readNumber_79 : decode cc_F_readNumber 79 = .ok (.iload 4, 2) := by decide +kernel
theorem d_F_readNumber_81 : decode cc_F_readNumber 81 = .ok (.imul, 1) := by decide +kernel
theorem d_F_readNumber_82 : decode cc_F_readNumber 82 = .ok (.aload_n 1, 1) := by decide +kernel
theorem d_F_readNumber_83 : decode cc_F_readNumber 83 = .ok (.iload 5, 2) := by decide +kernel
theorem d_F_readNumber_85 : decode cc_F_readNumber 85 = .ok (.iload 6, 2) := by decide +kernel
theorem d_F_readNumber_87 : decode cc_F_readNumber 87 = .ok (.iadd, 1) := by decide +kernel
theorem d_F_readNumber_88 : decode cc_F_readNumber 88 = .ok (.invokevirtual 9, 3) := by decide +kernel
theorem d_F_readNumber_91 : decode cc_F_readNumber 91 = .ok (.iload 4, 2) := by decide +kernel
theorem d_F_readNumber_93 : decode cc_F_readNumber 93 = .ok (.invokestatic 36, 3) := by decide +kernel
theorem d_F_readNumber_96 : decode cc_F_readNumber 96 = .ok (.iadd, 1) := by decide +kernel
theorem d_F_readNumber_97 : decode cc_F_readNumber 97 = .ok (.putfield 25, 3) := by decide +kernel
theorem d_F_readNumber_100 : decode cc_F_readNumber 100 = .ok (.iinc 6 1, 3) := by decide +kernel
theorem d_F_readNumber_103 : decode cc_F_readNumber 103 = .ok (.goto (-53), 3) := by decide +kernel
theorem d_F_readNumber_106 : decode cc_F_readNumber 106 = .ok (.iload 6, 2) := by decide +kernel
theorem d_F_readNumber_108 : decode cc_F_readNumber 108 = .ok (.ifCond .ne 12, 3) := by decide +kernel
theorem d_F_readNumber_111 : decode cc_F_readNumber 111 = .ok (.aload_n 0, 1) := by decide +kernel
theorem d_F_readNumber_112 : decode cc_F_readNumber 112 = .ok (.iload 5, 2) := by decide +kernel
theorem d_F_readNumber_114 : decode cc_F_readNumber 114 = .ok (.invokevirtual 32, 3) := by decide +kernel
theorem d_F_readNumber_117 : decode cc_F_readNumber 117 = .ok (.goto 13, 3) := by decide +kernel
theorem d_F_readNumber_120 : decode cc_F_readNumber 120 = .ok (.aload_n 0, 1) := by decide +kernel
theorem d_F_readNumber_121 : decode cc_F_readNumber 121 = .ok (.aload_n 1, 1) := by decide +kernel
theorem d_F_readNumber_122 : decode cc_F_readNumber 122 = .ok (.iload 5, 2) := by decide +kernel
theorem d_F_readNumber_124 : decode cc_F_readNumber 124 = .ok (.iload 6, 2) := by decide +kernel
theorem d_F_readNumber_126 : decode cc_F_readNumber 126 = .ok (.iadd, 1) := by decide +kernel
theorem d_F_readNumber_127 : decode cc_F_readNumber 127 = .ok (.invokevirtual 29, 3) := by decide +kernel
theorem d_F_readNumber_130 : decode cc_F_readNumber 130 = .ok (.return_, 1) := by decide +kernel
theorem d_F_close_0 : decode cc_F_close 0 = .ok (.aload_n 0, 1) := by decide +kernel
theorem d_F_close_1 : decode cc_F_close 1 = .ok (.aload_n 1, 1) := by decide +kernel
theorem d_F_close_2 : decode cc_F_close 2 = .ok (.iload_n 2, 1) := by decide +kernel
theorem d_F_close_3 : decode cc_F_close 3 = .ok (.invokevirtual 9, 3) := by decide +kernel
theorem d_F_close_6 : decode cc_F_close 6 = .ok (.bipush 59, 2) := by decide +kernel
theorem d_F_close_8 : decode cc_F_close 8 = .ok (.if_icmp .ne 7, 3) := by decide +kernel
theorem d_F_close_11 : decode cc_F_close 11 = .ok (.iconst 1, 1) := by decide +kernel
theorem d_F_close_12 : decode cc_F_close 12 = .ok (.goto 4, 3) := by decide +kernel
theorem d_F_close_15 : decode cc_F_close 15 = .ok (.iconst 0, 1) := by decide +kernel
theorem d_F_close_16 : decode cc_F_close 16 = .ok (.putfield 40, 3) := by decide +kernel
theorem d_F_close_19 : decode cc_F_close 19 = .ok (.aload_n 0, 1) := by decide +kernel
theorem d_F_close_20 : decode cc_F_close 20 = .ok (.aload_n 0, 1) := by decide +kernel
theorem d_F_close_21 : decode cc_F_close 21 = .ok (.getfield 40, 3) := by decide +kernel
theorem d_F_close_24 : decode cc_F_close 24 = .ok (.ifCond .eq 9, 3) := by decide +kernel
theorem d_F_close_27 : decode cc_F_close 27 = .ok (.iload_n 2, 1) := by decide +kernel
theorem d_F_close_28 : decode cc_F_close 28 = .ok (.iconst 1, 1) := by decide +kernel
theorem d_F_close_29 : decode cc_F_close 29 = .ok (.iadd, 1) := by decide +kernel
theorem d_F_close_30 : decode cc_F_close 30 = .ok (.goto 4, 3) := by decide +kernel
theorem d_F_close_33 : decode cc_F_close 33 = .ok (.iload_n 2, 1) := by decide +kernel
theorem d_F_close_34 : decode cc_F_close 34 = .ok (.putfield 43, 3) := by decide +kernel
theorem d_F_close_37 : decode cc_F_close 37 = .ok (.return_, 1) := by decide +kernel
theorem d_F_breakOff_0 : decode cc_F_breakOff 0 = .ok (.aload_n 0, 1) := by decide +kernel
theorem d_F_breakOff_1 : decode cc_F_breakOff 1 = .ok (.iconst 0, 1) := by decide +kernel
theorem d_F_breakOff_2 : decode cc_F_breakOff 2 = .ok (.putfield 40, 3) := by decide +kernel
theorem d_F_breakOff_5 : decode cc_F_breakOff 5 = .ok (.aload_n 0, 1) := by decide +kernel
theorem d_F_breakOff_6 : decode cc_F_breakOff 6 = .ok (.iload_n 1, 1) := by decide +kernel
theorem d_F_breakOff_7 : decode cc_F_breakOff 7 = .ok (.putfield 43, 3) := by decide +kernel
theorem d_F_breakOff_10 : decode cc_F_breakOff 10 = .ok (.return_, 1) := by decide +kernel
theorem d_F_digitOf_0 : decode cc_F_digitOf 0 = .ok (.iload_n 0, 1) := by decide +kernel
theorem d_F_digitOf_1 : decode cc_F_digitOf 1 = .ok (.bipush 48, 2) := by decide +kernel
theorem d_F_digitOf_3 : decode cc_F_digitOf 3 = .ok (.if_icmp .lt 14, 3) := by decide +kernel
theorem d_F_digitOf_6 : decode cc_F_digitOf 6 = .ok (.iload_n 0, 1) := by decide +kernel
theorem d_F_digitOf_7 : decode cc_F_digitOf 7 = .ok (.bipush 57, 2) := by decide +kernel
theorem d_F_digitOf_9 : decode cc_F_digitOf 9 = .ok (.if_icmp .gt 8, 3) := by decide +kernel
theorem d_F_digitOf_12 : decode cc_F_digitOf 12 = .ok (.iload_n 0, 1) := by decide +kernel
theorem d_F_digitOf_13 : decode cc_F_digitOf 13 = .ok (.bipush 48, 2) := by decide +kernel
theorem d_F_digitOf_15 : decode cc_F_digitOf 15 = .ok (.isub, 1) := by decide +kernel
theorem d_F_digitOf_16 : decode cc_F_digitOf 16 = .ok (.ireturn, 1) := by decide +kernel
theorem d_F_digitOf_17 : decode cc_F_digitOf 17 = .ok (.iload_n 1, 1) := by decide +kernel
theorem d_F_digitOf_18 : decode cc_F_digitOf 18 = .ok (.bipush 16, 2) := by decide +kernel
theorem d_F_digitOf_20 : decode cc_F_digitOf 20 = .ok (.if_icmp .ne 23, 3) := by decide +kernel
theorem d_F_digitOf_23 : decode cc_F_digitOf 23 = .ok (.iload_n 0, 1) := by decide +kernel
theorem d_F_digitOf_24 : decode cc_F_digitOf 24 = .ok (.bipush 97, 2) := by decide +kernel
theorem d_F_digitOf_26 : decode cc_F_digitOf 26 = .ok (.if_icmp .lt 17, 3) := by decide +kernel
theorem d_F_digitOf_29 : decode cc_F_digitOf 29 = .ok (.iload_n 0, 1) := by decide +kernel
theorem d_F_digitOf_30 : decode cc_F_digitOf 30 = .ok (.bipush 102, 2) := by decide +kernel
theorem d_F_digitOf_32 : decode cc_F_digitOf 32 = .ok (.if_icmp .gt 11, 3) := by decide +kernel
theorem d_F_digitOf_35 : decode cc_F_digitOf 35 = .ok (.iload_n 0, 1) := by decide +kernel
theorem d_F_digitOf_36 : decode cc_F_digitOf 36 = .ok (.bipush 97, 2) := by decide +kernel
theorem d_F_digitOf_38 : decode cc_F_digitOf 38 = .ok (.isub, 1) := by decide +kernel
theorem d_F_digitOf_39 : decode cc_F_digitOf 39 = .ok (.bipush 10, 2) := by decide +kernel
theorem d_F_digitOf_41 : decode cc_F_digitOf 41 = .ok (.iadd, 1) := by decide +kernel
theorem d_F_digitOf_42 : decode cc_F_digitOf 42 = .ok (.ireturn, 1) := by decide +kernel
theorem d_F_digitOf_43 : decode cc_F_digitOf 43 = .ok (.iload_n 1, 1) := by decide +kernel
theorem d_F_digitOf_44 : decode cc_F_digitOf 44 = .ok (.bipush 16, 2) := by decide +kernel
theorem d_F_digitOf_46 : decode cc_F_digitOf 46 = .ok (.if_icmp .ne 23, 3) := by decide +kernel
theorem d_F_digitOf_49 : decode cc_F_digitOf 49 = .ok (.iload_n 0, 1) := by decide +kernel
theorem d_F_digitOf_50 : decode cc_F_digitOf 50 = .ok (.bipush 65, 2) := by decide +kernel
theorem d_F_digitOf_52 : decode cc_F_digitOf 52 = .ok (.if_icmp .lt 17, 3) := by decide +kernel
theorem d_F_digitOf_55 : decode cc_F_digitOf 55 = .ok (.iload_n 0, 1) := by decide +kernel
theorem d_F_digitOf_56 : decode cc_F_digitOf 56 = .ok (.bipush 70, 2) := by decide +kernel
theorem d_F_digitOf_58 : decode cc_F_digitOf 58 = .ok (.if_icmp .gt 11, 3) := by decide +kernel
theorem d_F_digitOf_61 : decode cc_F_digitOf 61 = .ok (.iload_n 0, 1) := by decide +kernel
theorem d_F_digitOf_62 : decode cc_F_digitOf 62 = .ok (.bipush 65, 2) := by decide +kernel
theorem d_F_digitOf_64 : decode cc_F_digitOf 64 = .ok (.isub, 1) := by decide +kernel
theorem d_F_digitOf_65 : decode cc_F_digitOf 65 = .ok (.bipush 10, 2) := by decide +kernel
theorem d_F_digitOf_67 : decode cc_F_digitOf 67 = .ok (.iadd, 1) := by decide +kernel
theorem d_F_digitOf_68 : decode cc_F_digitOf 68 = .ok (.ireturn, 1) := by decide +kernel
theorem d_F_digitOf_69 : decode cc_F_digitOf 69 = .ok (.iconst (-1), 1) := by decide +kernel
theorem d_F_digitOf_70 : decode cc_F_digitOf 70 = .ok (.ireturn, 1) := by decide +kernel
theorem d_E_init_0 : decode cc_E_init 0 = .ok (.aload_n 0, 1) := by decide +kernel
theorem d_E_init_1 : decode cc_E_init 1 = .ok (.invokespecial 3, 3) := by decide +kernel
theorem d_E_init_4 : decode cc_E_init 4 = .ok (.aload_n 0, 1) := by decide +kernel
theorem d_E_init_5 : decode cc_E_init 5 = .ok (.new 9, 3) := by decide +kernel
theorem d_E_init_8 : decode cc_E_init 8 = .ok (.dup, 1) := by decide +kernel
theorem d_E_init_9 : decode cc_E_init 9 = .ok (.bipush 100, 2) := by decide +kernel
theorem d_E_init_11 : decode cc_E_init 11 = .ok (.invokespecial 11, 3) := by decide +kernel
theorem d_E_init_14 : decode cc_E_init 14 = .ok (.putfield 14, 3) := by decide +kernel
theorem d_E_init_17 : decode cc_E_init 17 = .ok (.return_, 1) := by decide +kernel
theorem d_E_learn_0 : decode cc_E_learn 0 = .ok (.aload_n 0, 1) := by decide +kernel
theorem d_E_learn_1 : decode cc_E_learn 1 = .ok (.getfield 14, 3) := by decide +kernel
theorem d_E_learn_4 : decode cc_E_learn 4 = .ok (.invokevirtual 20, 3) := by decide +kernel
theorem d_E_learn_7 : decode cc_E_learn 7 = .ok (.iconst 0, 1) := by decide +kernel
theorem d_E_learn_8 : decode cc_E_learn 8 = .ok (.istore_n 2, 1) := by decide +kernel
theorem d_E_learn_9 : decode cc_E_learn 9 = .ok (.iload_n 2, 1) := by decide +kernel
theorem d_E_learn_10 : decode cc_E_learn 10 = .ok (.aload_n 1, 1) := by decide +kernel
theorem d_E_learn_11 : decode cc_E_learn 11 = .ok (.invokevirtual 23, 3) := by decide +kernel
theorem d_E_learn_14 : decode cc_E_learn 14 = .ok (.if_icmp .ge 22, 3) := by decide +kernel
theorem d_E_learn_17 : decode cc_E_learn 17 = .ok (.aload_n 0, 1) := by decide +kernel
theorem d_E_learn_18 : decode cc_E_learn 18 = .ok (.getfield 14, 3) := by decide +kernel
theorem d_E_learn_21 : decode cc_E_learn 21 = .ok (.aload_n 1, 1) := by decide +kernel
theorem d_E_learn_22 : decode cc_E_learn 22 = .ok (.iload_n 2, 1) := by decide +kernel
theorem d_E_learn_23 : decode cc_E_learn 23 = .ok (.invokevirtual 27, 3) := by decide +kernel
theorem d_E_learn_26 : decode cc_E_learn 26 = .ok (.invokevirtual 31, 3) := by decide +kernel
theorem d_E_learn_29 : decode cc_E_learn 29 = .ok (.pop, 1) := by decide +kernel
theorem d_E_learn_30 : decode cc_E_learn 30 = .ok (.iinc 2 1, 3) := by decide +kernel
theorem d_E_learn_33 : decode cc_E_learn 33 = .ok (.goto (-24), 3) := by decide +kernel
theorem d_E_learn_36 : decode cc_E_learn 36 = .ok (.aload_n 0, 1) := by decide +kernel
theorem d_E_learn_37 : decode cc_E_learn 37 = .ok (.iconst 1, 1) := by decide +kernel
theorem d_E_learn_38 : decode cc_E_learn 38 = .ok (.putfield 35, 3) := by decide +kernel
theorem d_E_learn_41 : decode cc_E_learn 41 = .ok (.return_, 1) := by decide +kernel

theorem d_D_init_0 : decode cc_D_init 0 = .ok (.aload_n 0, 1) := by decide +kernel
theorem d_D_init_1 : decode cc_D_init 1 = .ok (.invokespecial 1, 3) := by decide +kernel
theorem d_D_init_4 : decode cc_D_init 4 = .ok (.aload_n 0, 1) := by decide +kernel
theorem d_D_init_5 : decode cc_D_init 5 = .ok (.new 7, 3) := by decide +kernel
theorem d_D_init_8 : decode cc_D_init 8 = .ok (.dup, 1) := by decide +kernel
theorem d_D_init_9 : decode cc_D_init 9 = .ok (.sipush 200, 3) := by decide +kernel
theorem d_D_init_12 : decode cc_D_init 12 = .ok (.invokespecial 11, 3) := by decide +kernel
theorem d_D_init_15 : decode cc_D_init 15 = .ok (.putfield 14, 3) := by decide +kernel
theorem d_D_init_18 : decode cc_D_init 18 = .ok (.aload_n 0, 1) := by decide +kernel
theorem d_D_init_19 : decode cc_D_init 19 = .ok (.new 7, 3) := by decide +kernel
theorem d_D_init_22 : decode cc_D_init 22 = .ok (.dup, 1) := by decide +kernel
theorem d_D_init_23 : decode cc_D_init 23 = .ok (.bipush 100, 2) := by decide +kernel
theorem d_D_init_25 : decode cc_D_init 25 = .ok (.invokespecial 11, 3) := by decide +kernel
theorem d_D_init_28 : decode cc_D_init 28 = .ok (.putfield 18, 3) := by decide +kernel
theorem d_D_init_31 : decode cc_D_init 31 = .ok (.aload_n 0, 1) := by decide +kernel
theorem d_D_init_32 : decode cc_D_init 32 = .ok (.new 7, 3) := by decide +kernel
theorem d_D_init_35 : decode cc_D_init 35 = .ok (.dup, 1) := by decide +kernel
theorem d_D_init_36 : decode cc_D_init 36 = .ok (.sipush 300, 3) := by decide +kernel
theorem d_D_init_39 : decode cc_D_init 39 = .ok (.invokespecial 11, 3) := by decide +kernel
theorem d_D_init_42 : decode cc_D_init 42 = .ok (.putfield 21, 3) := by decide +kernel
theorem d_D_init_45 : decode cc_D_init 45 = .ok (.aload_n 0, 1) := by decide +kernel
theorem d_D_init_46 : decode cc_D_init 46 = .ok (.bipush 26, 2) := by decide +kernel
theorem d_D_init_48 : decode cc_D_init 48 = .ok (.anewarray 24, 3) := by decide +kernel
theorem d_D_init_51 : decode cc_D_init 51 = .ok (.putfield 26, 3) := by decide +kernel
theorem d_D_init_54 : decode cc_D_init 54 = .ok (.iconst 0, 1) := by decide +kernel
theorem d_D_init_55 : decode cc_D_init 55 = .ok (.istore_n 1, 1) := by decide +kernel
theorem d_D_init_56 : decode cc_D_init 56 = .ok (.iload_n 1, 1) := by decide +kernel
theorem d_D_init_57 : decode cc_D_init 57 = .ok (.bipush 26, 2) := by decide +kernel
theorem d_D_init_59 : decode cc_D_init 59 = .ok (.if_icmp .ge 22, 3) := by decide +kernel
theorem d_D_init_62 : decode cc_D_init 62 = .ok (.aload_n 0, 1) := by decide +kernel
theorem d_D_init_63 : decode cc_D_init 63 = .ok (.getfield 26, 3) := by decide +kernel
theorem d_D_init_66 : decode cc_D_init 66 = .ok (.iload_n 1, 1) := by decide +kernel
theorem d_D_init_67 : decode cc_D_init 67 = .ok (.new 24, 3) := by decide +kernel
theorem d_D_init_70 : decode cc_D_init 70 = .ok (.dup, 1) := by decide +kernel
theorem d_D_init_71 : decode cc_D_init 71 = .ok (.invokespecial 30, 3) := by decide +kernel
theorem d_D_init_74 : decode cc_D_init 74 = .ok (.aastore, 1) := by decide +kernel
theorem d_D_init_75 : decode cc_D_init 75 = .ok (.iinc 1 1, 3) := by decide +kernel
theorem d_D_init_78 : decode cc_D_init 78 = .ok (.goto (-22), 3) := by decide +kernel
theorem d_D_init_81 : decode cc_D_init 81 = .ok (.aload_n 0, 1) := by decide +kernel
theorem d_D_init_82 : decode cc_D_init 82 = .ok (.new 31, 3) := by decide +kernel
theorem d_D_init_85 : decode cc_D_init 85 = .ok (.dup, 1) := by decide +kernel
theorem d_D_init_86 : decode cc_D_init 86 = .ok (.invokespecial 33, 3) := by decide +kernel
theorem d_D_init_89 : decode cc_D_init 89 = .ok (.putfield 34, 3) := by decide +kernel
theorem d_D_init_92 : decode cc_D_init 92 = .ok (.aload_n 0, 1) := by decide +kernel
theorem d_D_init_93 : decode cc_D_init 93 = .ok (.iconst (-1), 1) := by decide +kernel
theorem d_D_init_94 : decode cc_D_init 94 = .ok (.putfield 38, 3) := by decide +kernel
theorem d_D_init_97 : decode cc_D_init 97 = .ok (.return_, 1) := by decide +kernel
theorem d_D_put_0 : decode cc_D_put 0 = .ok (.iload_n 3, 1) := by decide +kernel
theorem d_D_put_1 : decode cc_D_put 1 = .ok (.iconst 1, 1) := by decide +kernel
theorem d_D_put_2 : decode cc_D_put 2 = .ok (.if_icmp .lt 24, 3) := by decide +kernel
theorem d_D_put_5 : decode cc_D_put 5 = .ok (.iload_n 3, 1) := by decide +kernel
theorem d_D_put_6 : decode cc_D_put 6 = .ok (.bipush 8, 2) := by decide +kernel
theorem d_D_put_8 : decode cc_D_put 8 = .ok (.if_icmp .gt 18, 3) := by decide +kernel
theorem d_D_put_11 : decode cc_D_put 11 = .ok (.aload_n 0, 1) := by decide +kernel
theorem d_D_put_12 : decode cc_D_put 12 = .ok (.getfield 14, 3) := by decide +kernel
theorem d_D_put_15 : decode cc_D_put 15 = .ok (.invokevirtual 42, 3) := by decide +kernel
theorem d_D_put_18 : decode cc_D_put 18 = .ok (.iload_n 3, 1) := by decide +kernel
theorem d_D_put_19 : decode cc_D_put 19 = .ok (.iadd, 1) := by decide +kernel
theorem d_D_put_20 : decode cc_D_put 20 = .ok (.sipush 200, 3) := by decide +kernel
theorem d_D_put_23 : decode cc_D_put 23 = .ok (.if_icmp .le 5, 3) := by decide +kernel
theorem d_D_put_26 : decode cc_D_put 26 = .ok (.iconst 0, 1) := by decide +kernel
theorem d_D_put_27 : decode cc_D_put 27 = .ok (.ireturn, 1) := by decide +kernel
theorem d_D_put_28 : decode cc_D_put 28 = .ok (.iload_n 3, 1) := by decide +kernel
theorem d_D_put_29 : decode cc_D_put 29 = .ok (.iconst 1, 1) := by decide +kernel
theorem d_D_put_30 : decode cc_D_put 30 = .ok (.isub, 1) := by decide +kernel
theorem d_D_put_31 : decode cc_D_put 31 = .ok (.istore 4, 2) := by decide +kernel
theorem d_D_put_33 : decode cc_D_put 33 = .ok (.iload 4, 2) := by decide +kernel
theorem d_D_put_35 : decode cc_D_put 35 = .ok (.ifCond .lt 29, 3) := by decide +kernel
theorem d_D_put_38 : decode cc_D_put 38 = .ok (.aload_n 0, 1) := by decide +kernel
theorem d_D_put_39 : decode cc_D_put 39 = .ok (.getfield 14, 3) := by decide +kernel
theorem d_D_put_42 : decode cc_D_put 42 = .ok (.lload_n 1, 1) := by decide +kernel
theorem d_D_put_43 : decode cc_D_put 43 = .ok (.bipush 8, 2) := by decide +kernel
theorem d_D_put_45 : decode cc_D_put 45 = .ok (.iload 4, 2) := by decide +kernel
theorem d_D_put_47 : decode cc_D_put 47 = .ok (.imul, 1) := by decide +kernel
theorem d_D_put_48 : decode cc_D_put 48 = .ok (.lushr, 1) := by decide +kernel
theorem d_D_put_49 : decode cc_D_put 49 = .ok (.l2i, 1) := by decide +kernel
theorem d_D_put_50 : decode cc_D_put 50 = .ok (.sipush 255, 3) := by decide +kernel
theorem d_D_put_53 : decode cc_D_put 53 = .ok (.iand, 1) := by decide +kernel
theorem d_D_put_54 : decode cc_D_put 54 = .ok (.invokevirtual 46, 3) := by decide +kernel
theorem d_D_put_57 : decode cc_D_put 57 = .ok (.pop, 1) := by decide +kernel
theorem d_D_put_58 : decode cc_D_put 58 = .ok (.iinc 4 (-1), 3) := by decide +kernel
theorem d_D_put_61 : decode cc_D_put 61 = .ok (.goto (-28), 3) := by decide +kernel
theorem d_D_put_64 : decode cc_D_put 64 = .ok (.iconst 1, 1) := by decide +kernel
theorem d_D_put_65 : decode cc_D_put 65 = .ok (.ireturn, 1) := by decide +kernel
theorem d_D_define_0 : decode cc_D_define 0 = .ok (.aload_n 0, 1) := by decide +kernel
theorem d_D_define_1 : decode cc_D_define 1 = .ok (.iload_n 1, 1) := by decide +kernel
theorem d_D_define_2 : decode cc_D_define 2 = .ok (.invokevirtual 50, 3) := by decide +kernel
theorem d_D_define_5 : decode cc_D_define 5 = .ok (.astore_n 2, 1) := by decide +kernel
theorem d_D_define_6 : decode cc_D_define 6 = .ok (.aload_n 2, 1) := by decide +kernel
theorem d_D_define_7 : decode cc_D_define 7 = .ok (.ifnonnull 6, 3) := by decide +kernel
theorem d_D_define_10 : decode cc_D_define 10 = .ok (.bipush (-10), 2) := by decide +kernel
theorem d_D_define_12 : decode cc_D_define 12 = .ok (.ireturn, 1) := by decide +kernel
theorem d_D_define_13 : decode cc_D_define 13 = .ok (.aload_n 0, 1) := by decide +kernel
theorem d_D_define_14 : decode cc_D_define 14 = .ok (.iconst (-1), 1) := by decide +kernel
theorem d_D_define_15 : decode cc_D_define 15 = .ok (.putfield 38, 3) := by decide +kernel
theorem d_D_define_18 : decode cc_D_define 18 = .ok (.aload_n 0, 1) := by decide +kernel
theorem d_D_define_19 : decode cc_D_define 19 = .ok (.invokevirtual 54, 3) := by decide +kernel
theorem d_D_define_22 : decode cc_D_define 22 = .ok (.istore_n 3, 1) := by decide +kernel
theorem d_D_define_23 : decode cc_D_define 23 = .ok (.aload_n 0, 1) := by decide +kernel
theorem d_D_define_24 : decode cc_D_define 24 = .ok (.getfield 14, 3) := by decide +kernel
theorem d_D_define_27 : decode cc_D_define 27 = .ok (.invokevirtual 57, 3) := by decide +kernel
theorem d_D_define_30 : decode cc_D_define 30 = .ok (.iload_n 3, 1) := by decide +kernel
theorem d_D_define_31 : decode cc_D_define 31 = .ok (.ifCond .eq 6, 3) := by decide +kernel
theorem d_D_define_34 : decode cc_D_define 34 = .ok (.iload_n 3, 1) := by decide +kernel
theorem d_D_define_35 : decode cc_D_define 35 = .ok (.ineg, 1) := by decide +kernel
theorem d_D_define_36 : decode cc_D_define 36 = .ok (.ireturn, 1) := by decide +kernel
theorem d_D_define_37 : decode cc_D_define 37 = .ok (.aload_n 2, 1) := by decide +kernel
theorem d_D_define_38 : decode cc_D_define 38 = .ok (.getfield 60, 3) := by decide +kernel
theorem d_D_define_41 : decode cc_D_define 41 = .ok (.ifCond .eq 6, 3) := by decide +kernel
theorem d_D_define_44 : decode cc_D_define 44 = .ok (.bipush (-9), 2) := by decide +kernel
theorem d_D_define_46 : decode cc_D_define 46 = .ok (.ireturn, 1) := by decide +kernel
theorem d_D_define_47 : decode cc_D_define 47 = .ok (.aload_n 2, 1) := by decide +kernel
theorem d_D_define_48 : decode cc_D_define 48 = .ok (.aload_n 0, 1) := by decide +kernel
theorem d_D_define_49 : decode cc_D_define 49 = .ok (.getfield 18, 3) := by decide +kernel
theorem d_D_define_52 : decode cc_D_define 52 = .ok (.invokevirtual 64, 3) := by decide +kernel
theorem d_D_define_55 : decode cc_D_define 55 = .ok (.aload_n 0, 1) := by decide +kernel
theorem d_D_define_56 : decode cc_D_define 56 = .ok (.getfield 18, 3) := by decide +kernel
theorem d_D_define_59 : decode cc_D_define 59 = .ok (.invokevirtual 42, 3) := by decide +kernel
theorem d_D_define_62 : decode cc_D_define 62 = .ok (.ireturn, 1) := by decide +kernel
theorem d_D_value_0 : decode cc_D_value 0 = .ok (.iload_n 1, 1) := by decide +kernel
theorem d_D_value_1 : decode cc_D_value 1 = .ok (.ifCond .lt 18, 3) := by decide +kernel
theorem d_D_value_4 : decode cc_D_value 4 = .ok (.iload_n 1, 1) := by decide +kernel
theorem d_D_value_5 : decode cc_D_value 5 = .ok (.iconst 1, 1) := by decide +kernel
theorem d_D_value_6 : decode cc_D_value 6 = .ok (.if_icmp .gt 13, 3) := by decide +kernel
theorem d_D_value_9 : decode cc_D_value 9 = .ok (.iload_n 2, 1) := by decide +kernel
theorem d_D_value_10 : decode cc_D_value 10 = .ok (.ifCond .lt 9, 3) := by decide +kernel
theorem d_D_value_13 : decode cc_D_value 13 = .ok (.iload_n 2, 1) := by decide +kernel
theorem d_D_value_14 : decode cc_D_value 14 = .ok (.ldc 68, 2) := by decide +kernel
theorem d_D_value_16 : decode cc_D_value 16 = .ok (.if_icmp .le 6, 3) := by decide +kernel
theorem d_D_value_19 : decode cc_D_value 19 = .ok (.bipush (-10), 2) := by decide +kernel
theorem d_D_value_21 : decode cc_D_value 21 = .ok (.ireturn, 1) := by decide +kernel
theorem d_D_value_22 : decode cc_D_value 22 = .ok (.aload_n 0, 1) := by decide +kernel
theorem d_D_value_23 : decode cc_D_value 23 = .ok (.iconst (-1), 1) := by decide +kernel
theorem d_D_value_24 : decode cc_D_value 24 = .ok (.putfield 38, 3) := by decide +kernel
theorem d_D_value_27 : decode cc_D_value 27 = .ok (.aload_n 0, 1) := by decide +kernel
theorem d_D_value_28 : decode cc_D_value 28 = .ok (.iload_n 2, 1) := by decide +kernel
theorem d_D_value_29 : decode cc_D_value 29 = .ok (.putfield 69, 3) := by decide +kernel
theorem d_D_value_32 : decode cc_D_value 32 = .ok (.aload_n 0, 1) := by decide +kernel
theorem d_D_value_33 : decode cc_D_value 33 = .ok (.iconst 0, 1) := by decide +kernel
theorem d_D_value_34 : decode cc_D_value 34 = .ok (.putfield 72, 3) := by decide +kernel
theorem d_D_value_37 : decode cc_D_value 37 = .ok (.aload_n 0, 1) := by decide +kernel
theorem d_D_value_38 : decode cc_D_value 38 = .ok (.iconst 0, 1) := by decide +kernel
theorem d_D_value_39 : decode cc_D_value 39 = .ok (.putfield 75, 3) := by decide +kernel
theorem d_D_value_42 : decode cc_D_value 42 = .ok (.aload_n 0, 1) := by decide +kernel
theorem d_D_value_43 : decode cc_D_value 43 = .ok (.getfield 21, 3) := by decide +kernel
theorem d_D_value_46 : decode cc_D_value 46 = .ok (.invokevirtual 57, 3) := by decide +kernel
theorem d_D_value_49 : decode cc_D_value 49 = .ok (.aload_n 0, 1) := by decide +kernel
theorem d_D_value_50 : decode cc_D_value 50 = .ok (.aload_n 0, 1) := by decide +kernel
theorem d_D_value_51 : decode cc_D_value 51 = .ok (.getfield 14, 3) := by decide +kernel
theorem d_D_value_54 : decode cc_D_value 54 = .ok (.iconst 0, 1) := by decide +kernel
theorem d_D_value_55 : decode cc_D_value 55 = .ok (.iconst (-1), 1) := by decide +kernel
theorem d_D_value_56 : decode cc_D_value 56 = .ok (.invokevirtual 78, 3) := by decide +kernel
theorem d_D_value_59 : decode cc_D_value 59 = .ok (.istore_n 3, 1) := by decide +kernel
theorem d_D_value_60 : decode cc_D_value 60 = .ok (.aload_n 0, 1) := by decide +kernel
theorem d_D_value_61 : decode cc_D_value 61 = .ok (.getfield 14, 3) := by decide +kernel
theorem d_D_value_64 : decode cc_D_value 64 = .ok (.invokevirtual 57, 3) := by decide +kernel
theorem d_D_value_67 : decode cc_D_value 67 = .ok (.iload_n 3, 1) := by decide +kernel
theorem d_D_value_68 : decode cc_D_value 68 = .ok (.ifCond .eq 13, 3) := by decide +kernel
theorem d_D_value_71 : decode cc_D_value 71 = .ok (.aload_n 0, 1) := by decide +kernel
theorem d_D_value_72 : decode cc_D_value 72 = .ok (.getfield 21, 3) := by decide +kernel
theorem d_D_value_75 : decode cc_D_value 75 = .ok (.invokevirtual 57, 3) := by decide +kernel
theorem d_D_value_78 : decode cc_D_value 78 = .ok (.iload_n 3, 1) := by decide +kernel
theorem d_D_value_79 : decode cc_D_value 79 = .ok (.ineg, 1) := by decide +kernel
theorem d_D_value_80 : decode cc_D_value 80 = .ok (.ireturn, 1) := by decide +kernel
theorem d_D_value_81 : decode cc_D_value 81 = .ok (.iload_n 1, 1) := by decide +kernel
theorem d_D_value_82 : decode cc_D_value 82 = .ok (.iconst 1, 1) := by decide +kernel
theorem d_D_value_83 : decode cc_D_value 83 = .ok (.if_icmp .ne 10, 3) := by decide +kernel
theorem d_D_value_86 : decode cc_D_value 86 = .ok (.aload_n 0, 1) := by decide +kernel
theorem d_D_value_87 : decode cc_D_value 87 = .ok (.getfield 21, 3) := by decide +kernel
theorem d_D_value_90 : decode cc_D_value 90 = .ok (.invokevirtual 82, 3) := by decide +kernel
theorem d_D_value_93 : decode cc_D_value 93 = .ok (.aload_n 0, 1) := by decide +kernel
theorem d_D_value_94 : decode cc_D_value 94 = .ok (.getfield 21, 3) := by decide +kernel
theorem d_D_value_97 : decode cc_D_value 97 = .ok (.invokevirtual 42, 3) := by decide +kernel
theorem d_D_value_100 : decode cc_D_value 100 = .ok (.ireturn, 1) := by decide +kernel
theorem d_D_place_0 : decode cc_D_place 0 = .ok (.aload_n 0, 1) := by decide +kernel
theorem d_D_place_1 : decode cc_D_place 1 = .ok (.getfield 38, 3) := by decide +kernel
theorem d_D_place_4 : decode cc_D_place 4 = .ok (.ireturn, 1) := by decide +kernel
theorem d_D_characters_0 : decode cc_D_characters 0 = .ok (.aload_n 0, 1) := by decide +kernel
theorem d_D_characters_1 : decode cc_D_characters 1 = .ok (.getfield 21, 3) := by decide +kernel
theorem d_D_characters_4 : decode cc_D_characters 4 = .ok (.iload_n 1, 1) := by decide +kernel
theorem d_D_characters_5 : decode cc_D_characters 5 = .ok (.invokevirtual 85, 3) := by decide +kernel
theorem d_D_characters_8 : decode cc_D_characters 8 = .ok (.lreturn, 1) := by decide +kernel
theorem d_D_text_0 : decode cc_D_text 0 = .ok (.aload_n 0, 1) := by decide +kernel
theorem d_D_text_1 : decode cc_D_text 1 = .ok (.iload_n 1, 1) := by decide +kernel
theorem d_D_text_2 : decode cc_D_text 2 = .ok (.invokevirtual 50, 3) := by decide +kernel
theorem d_D_text_5 : decode cc_D_text 5 = .ok (.astore_n 3, 1) := by decide +kernel
theorem d_D_text_6 : decode cc_D_text 6 = .ok (.aload_n 3, 1) := by decide +kernel
theorem d_D_text_7 : decode cc_D_text 7 = .ok (.ifnull 10, 3) := by decide +kernel
theorem d_D_text_10 : decode cc_D_text 10 = .ok (.aload_n 3, 1) := by decide +kernel
theorem d_D_text_11 : decode cc_D_text 11 = .ok (.getfield 60, 3) := by decide +kernel
theorem d_D_text_14 : decode cc_D_text 14 = .ok (.ifCond .ne 9, 3) := by decide +kernel
theorem d_D_text_17 : decode cc_D_text 17 = .ok (.ldc2_w 89, 3) := by decide +kernel
theorem d_D_text_20 : decode cc_D_text 20 = .ok (.goto 11, 3) := by decide +kernel
theorem d_D_text_23 : decode cc_D_text 23 = .ok (.aload_n 3, 1) := by decide +kernel
theorem d_D_text_24 : decode cc_D_text 24 = .ok (.getfield 91, 3) := by decide +kernel
theorem d_D_text_27 : decode cc_D_text 27 = .ok (.iload_n 2, 1) := by decide +kernel
theorem d_D_text_28 : decode cc_D_text 28 = .ok (.invokevirtual 85, 3) := by decide +kernel
theorem d_D_text_31 : decode cc_D_text 31 = .ok (.lreturn, 1) := by decide +kernel
theorem d_D_clear_0 : decode cc_D_clear 0 = .ok (.aload_n 0, 1) := by decide +kernel
theorem d_D_clear_1 : decode cc_D_clear 1 = .ok (.invokevirtual 94, 3) := by decide +kernel
theorem d_D_clear_4 : decode cc_D_clear 4 = .ok (.istore_n 1, 1) := by decide +kernel
theorem d_D_clear_5 : decode cc_D_clear 5 = .ok (.iconst 0, 1) := by decide +kernel
theorem d_D_clear_6 : decode cc_D_clear 6 = .ok (.istore_n 2, 1) := by decide +kernel
theorem d_D_clear_7 : decode cc_D_clear 7 = .ok (.iload_n 2, 1) := by decide +kernel
theorem d_D_clear_8 : decode cc_D_clear 8 = .ok (.bipush 26, 2) := by decide +kernel
theorem d_D_clear_10 : decode cc_D_clear 10 = .ok (.if_icmp .ge 19, 3) := by decide +kernel
theorem d_D_clear_13 : decode cc_D_clear 13 = .ok (.aload_n 0, 1) := by decide +kernel
theorem d_D_clear_14 : decode cc_D_clear 14 = .ok (.getfield 26, 3) := by decide +kernel
theorem d_D_clear_17 : decode cc_D_clear 17 = .ok (.iload_n 2, 1) := by decide +kernel
theorem d_D_clear_18 : decode cc_D_clear 18 = .ok (.aaload, 1) := by decide +kernel
theorem d_D_clear_19 : decode cc_D_clear 19 = .ok (.iconst 0, 1) := by decide +kernel
theorem d_D_clear_20 : decode cc_D_clear 20 = .ok (.putfield 60, 3) := by decide +kernel
theorem d_D_clear_23 : decode cc_D_clear 23 = .ok (.iinc 2 1, 3) := by decide +kernel
theorem d_D_clear_26 : decode cc_D_clear 26 = .ok (.goto (-19), 3) := by decide +kernel
theorem d_D_clear_29 : decode cc_D_clear 29 = .ok (.iload_n 1, 1) := by decide +kernel
theorem d_D_clear_30 : decode cc_D_clear 30 = .ok (.ireturn, 1) := by decide +kernel
theorem d_D_count_0 : decode cc_D_count 0 = .ok (.iload_n 1, 1) := by decide +kernel
theorem d_D_count_1 : decode cc_D_count 1 = .ok (.tableswitch 66 0 4 #[35, 43, 48, 56, 61], 35) := by decide +kernel
theorem d_D_count_36 : decode cc_D_count 36 = .ok (.aload_n 0, 1) := by decide +kernel
theorem d_D_count_37 : decode cc_D_count 37 = .ok (.getfield 14, 3) := by decide +kernel
theorem d_D_count_40 : decode cc_D_count 40 = .ok (.invokevirtual 42, 3) := by decide +kernel
theorem d_D_count_43 : decode cc_D_count 43 = .ok (.ireturn, 1) := by decide +kernel
theorem d_D_count_44 : decode cc_D_count 44 = .ok (.aload_n 0, 1) := by decide +kernel
theorem d_D_count_45 : decode cc_D_count 45 = .ok (.invokevirtual 94, 3) := by decide +kernel
theorem d_D_count_48 : decode cc_D_count 48 = .ok (.ireturn, 1) := by decide +kernel
theorem d_D_count_49 : decode cc_D_count 49 = .ok (.aload_n 0, 1) := by decide +kernel
theorem d_D_count_50 : decode cc_D_count 50 = .ok (.getfield 21, 3) := by decide +kernel
theorem d_D_count_53 : decode cc_D_count 53 = .ok (.invokevirtual 42, 3) := by decide +kernel
theorem d_D_count_56 : decode cc_D_count 56 = .ok (.ireturn, 1) := by decide +kernel
theorem d_D_count_57 : decode cc_D_count 57 = .ok (.aload_n 0, 1) := by decide +kernel
theorem d_D_count_58 : decode cc_D_count 58 = .ok (.getfield 72, 3) := by decide +kernel
theorem d_D_count_61 : decode cc_D_count 61 = .ok (.ireturn, 1) := by decide +kernel
theorem d_D_count_62 : decode cc_D_count 62 = .ok (.aload_n 0, 1) := by decide +kernel
theorem d_D_count_63 : decode cc_D_count 63 = .ok (.getfield 75, 3) := by decide +kernel
theorem d_D_count_66 : decode cc_D_count 66 = .ok (.ireturn, 1) := by decide +kernel
theorem d_D_count_67 : decode cc_D_count 67 = .ok (.iconst (-1), 1) := by decide +kernel
theorem d_D_count_68 : decode cc_D_count 68 = .ok (.ireturn, 1) := by decide +kernel
theorem d_D_known_0 : decode cc_D_known 0 = .ok (.iconst 0, 1) := by decide +kernel
theorem d_D_known_1 : decode cc_D_known 1 = .ok (.istore_n 1, 1) := by decide +kernel
theorem d_D_known_2 : decode cc_D_known 2 = .ok (.iconst 0, 1) := by decide +kernel
theorem d_D_known_3 : decode cc_D_known 3 = .ok (.istore_n 2, 1) := by decide +kernel
theorem d_D_known_4 : decode cc_D_known 4 = .ok (.iload_n 2, 1) := by decide +kernel
theorem d_D_known_5 : decode cc_D_known 5 = .ok (.bipush 26, 2) := by decide +kernel
theorem d_D_known_7 : decode cc_D_known 7 = .ok (.if_icmp .ge 24, 3) := by decide +kernel
theorem d_D_known_10 : decode cc_D_known 10 = .ok (.aload_n 0, 1) := by decide +kernel
theorem d_D_known_11 : decode cc_D_known 11 = .ok (.getfield 26, 3) := by decide +kernel
theorem d_D_known_14 : decode cc_D_known 14 = .ok (.iload_n 2, 1) := by decide +kernel
theorem d_D_known_15 : decode cc_D_known 15 = .ok (.aaload, 1) := by decide +kernel
theorem d_D_known_16 : decode cc_D_known 16 = .ok (.getfield 60, 3) := by decide +kernel
theorem d_D_known_19 : decode cc_D_known 19 = .ok (.ifCond .eq 6, 3) := by decide +kernel
theorem d_D_known_22 : decode cc_D_known 22 = .ok (.iinc 1 1, 3) := by decide +kernel
theorem d_D_known_25 : decode cc_D_known 25 = .ok (.iinc 2 1, 3) := by decide +kernel
theorem d_D_known_28 : decode cc_D_known 28 = .ok (.goto (-24), 3) := by decide +kernel
theorem d_D_known_31 : decode cc_D_known 31 = .ok (.iload_n 1, 1) := by decide +kernel
theorem d_D_known_32 : decode cc_D_known 32 = .ok (.ireturn, 1) := by decide +kernel
theorem d_D_entityOf_0 : decode cc_D_entityOf 0 = .ok (.iload_n 1, 1) := by decide +kernel
theorem d_D_entityOf_1 : decode cc_D_entityOf 1 = .ok (.ifCond .lt 9, 3) := by decide +kernel
theorem d_D_entityOf_4 : decode cc_D_entityOf 4 = .ok (.iload_n 1, 1) := by decide +kernel
theorem d_D_entityOf_5 : decode cc_D_entityOf 5 = .ok (.bipush 26, 2) := by decide +kernel
theorem d_D_entityOf_7 : decode cc_D_entityOf 7 = .ok (.if_icmp .lt 7, 3) := by decide +kernel
theorem d_D_entityOf_10 : decode cc_D_entityOf 10 = .ok (.aconst_null, 1) := by decide +kernel
theorem d_D_entityOf_11 : decode cc_D_entityOf 11 = .ok (.goto 9, 3) := by decide +kernel
theorem d_D_entityOf_14 : decode cc_D_entityOf 14 = .ok (.aload_n 0, 1) := by decide +kernel
theorem d_D_entityOf_15 : decode cc_D_entityOf 15 = .ok (.getfield 26, 3) := by decide +kernel
theorem d_D_entityOf_18 : decode cc_D_entityOf 18 = .ok (.iload_n 1, 1) := by decide +kernel
theorem d_D_entityOf_19 : decode cc_D_entityOf 19 = .ok (.aaload, 1) := by decide +kernel
theorem d_D_entityOf_20 : decode cc_D_entityOf 20 = .ok (.areturn, 1) := by decide +kernel
theorem d_D_fail_0 : decode cc_D_fail 0 = .ok (.aload_n 0, 1) := by decide +kernel
theorem d_D_fail_1 : decode cc_D_fail 1 = .ok (.iload_n 2, 1) := by decide +kernel
theorem d_D_fail_2 : decode cc_D_fail 2 = .ok (.putfield 38, 3) := by decide +kernel
theorem d_D_fail_5 : decode cc_D_fail 5 = .ok (.iload_n 1, 1) := by decide +kernel
theorem d_D_fail_6 : decode cc_D_fail 6 = .ok (.ireturn, 1) := by decide +kernel
theorem d_D_addTo_0 : decode cc_D_addTo 0 = .ok (.aload_n 1, 1) := by decide +kernel
theorem d_D_addTo_1 : decode cc_D_addTo 1 = .ok (.iload_n 2, 1) := by decide +kernel
theorem d_D_addTo_2 : decode cc_D_addTo 2 = .ok (.invokevirtual 46, 3) := by decide +kernel
theorem d_D_addTo_5 : decode cc_D_addTo 5 = .ok (.ifCond .eq 7, 3) := by decide +kernel
theorem d_D_addTo_8 : decode cc_D_addTo 8 = .ok (.iconst 0, 1) := by decide +kernel
theorem d_D_addTo_9 : decode cc_D_addTo 9 = .ok (.goto 10, 3) := by decide +kernel
theorem d_D_addTo_12 : decode cc_D_addTo 12 = .ok (.aload_n 0, 1) := by decide +kernel
theorem d_D_addTo_13 : decode cc_D_addTo 13 = .ok (.bipush 8, 2) := by decide +kernel
theorem d_D_addTo_15 : decode cc_D_addTo 15 = .ok (.iload_n 3, 1) := by decide +kernel
theorem d_D_addTo_16 : decode cc_D_addTo 16 = .ok (.invokevirtual 96, 3) := by decide +kernel
theorem d_D_addTo_19 : decode cc_D_addTo 19 = .ok (.ireturn, 1) := by decide +kernel
theorem d_D_readDraft_0 : decode cc_D_readDraft 0 = .ok (.aload_n 0, 1) := by decide +kernel
theorem d_D_readDraft_1 : decode cc_D_readDraft 1 = .ok (.getfield 18, 3) := by decide +kernel
theorem d_D_readDraft_4 : decode cc_D_readDraft 4 = .ok (.invokevirtual 57, 3) := by decide +kernel
theorem d_D_readDraft_7 : decode cc_D_readDraft 7 = .ok (.iconst 0, 1) := by decide +kernel
theorem d_D_readDraft_8 : decode cc_D_readDraft 8 = .ok (.istore_n 1, 1) := by decide +kernel
theorem d_D_readDraft_9 : decode cc_D_readDraft 9 = .ok (.iconst 0, 1) := by decide +kernel
theorem d_D_readDraft_10 : decode cc_D_readDraft 10 = .ok (.istore_n 2, 1) := by decide +kernel
theorem d_D_readDraft_11 : decode cc_D_readDraft 11 = .ok (.iload_n 2, 1) := by decide +kernel
theorem d_D_readDraft_12 : decode cc_D_readDraft 12 = .ok (.aload_n 0, 1) := by decide +kernel
theorem d_D_readDraft_13 : decode cc_D_readDraft 13 = .ok (.getfield 14, 3) := by decide +kernel
theorem d_D_readDraft_16 : decode cc_D_readDraft 16 = .ok (.invokevirtual 42, 3) := by decide +kernel
theorem d_D_readDraft_19 : decode cc_D_readDraft 19 = .ok (.if_icmp .ge 71, 3) := by decide +kernel
theorem d_D_readDraft_22 : decode cc_D_readDraft 22 = .ok (.iload_n 2, 1) := by decide +kernel
theorem d_D_readDraft_23 : decode cc_D_readDraft 23 = .ok (.iload_n 1, 1) := by decide +kernel
theorem d_D_readDraft_24 : decode cc_D_readDraft 24 = .ok (.if_icmp .ge 6, 3) := by decide +kernel
theorem d_D_readDraft_27 : decode cc_D_readDraft 27 = .ok (.goto 57, 3) := by decide +kernel
theorem d_D_readDraft_30 : decode cc_D_readDraft 30 = .ok (.aload_n 0, 1) := by decide +kernel
theorem d_D_readDraft_31 : decode cc_D_readDraft 31 = .ok (.getfield 14, 3) := by decide +kernel
theorem d_D_readDraft_34 : decode cc_D_readDraft 34 = .ok (.iload_n 2, 1) := by decide +kernel
theorem d_D_readDraft_35 : decode cc_D_readDraft 35 = .ok (.invokevirtual 100, 3) := by decide +kernel
theorem d_D_readDraft_38 : decode cc_D_readDraft 38 = .ok (.bipush 38, 2) := by decide +kernel
theorem d_D_readDraft_40 : decode cc_D_readDraft 40 = .ok (.if_icmp .ne 32, 3) := by decide +kernel
theorem d_D_readDraft_43 : decode cc_D_readDraft 43 = .ok (.aload_n 0, 1) := by decide +kernel
theorem d_D_readDraft_44 : decode cc_D_readDraft 44 = .ok (.getfield 34, 3) := by decide +kernel
theorem d_D_readDraft_47 : decode cc_D_readDraft 47 = .ok (.aload_n 0, 1) := by decide +kernel
theorem d_D_readDraft_48 : decode cc_D_readDraft 48 = .ok (.getfield 14, 3) := by decide +kernel
theorem d_D_readDraft_51 : decode cc_D_readDraft 51 = .ok (.iload_n 2, 1) := by decide +kernel
theorem d_D_readDraft_52 : decode cc_D_readDraft 52 = .ok (.invokevirtual 104, 3) := by decide +kernel
theorem d_D_readDraft_55 : decode cc_D_readDraft 55 = .ok (.aload_n 0, 1) := by decide +kernel
theorem d_D_readDraft_56 : decode cc_D_readDraft 56 = .ok (.getfield 34, 3) := by decide +kernel
theorem d_D_readDraft_59 : decode cc_D_readDraft 59 = .ok (.getfield 108, 3) := by decide +kernel
theorem d_D_readDraft_62 : decode cc_D_readDraft 62 = .ok (.istore_n 1, 1) := by decide +kernel
theorem d_D_readDraft_63 : decode cc_D_readDraft 63 = .ok (.aload_n 0, 1) := by decide +kernel
theorem d_D_readDraft_64 : decode cc_D_readDraft 64 = .ok (.iload_n 2, 1) := by decide +kernel
theorem d_D_readDraft_65 : decode cc_D_readDraft 65 = .ok (.invokevirtual 111, 3) := by decide +kernel
theorem d_D_readDraft_68 : decode cc_D_readDraft 68 = .ok (.istore_n 3, 1) := by decide +kernel
theorem d_D_readDraft_69 : decode cc_D_readDraft 69 = .ok (.goto 9, 3) := by decide +kernel
theorem d_D_readDraft_72 : decode cc_D_readDraft 72 = .ok (.aload_n 0, 1) := by decide +kernel
theorem d_D_readDraft_73 : decode cc_D_readDraft 73 = .ok (.iload_n 2, 1) := by decide +kernel
theorem d_D_readDraft_74 : decode cc_D_readDraft 74 = .ok (.invokevirtual 114, 3) := by decide +kernel
theorem d_D_readDraft_77 : decode cc_D_readDraft 77 = .ok (.istore_n 3, 1) := by decide +kernel
theorem d_D_readDraft_78 : decode cc_D_readDraft 78 = .ok (.iload_n 3, 1) := by decide +kernel
theorem d_D_readDraft_79 : decode cc_D_readDraft 79 = .ok (.ifCond .eq 5, 3) := by decide +kernel
theorem d_D_readDraft_82 : decode cc_D_readDraft 82 = .ok (.iload_n 3, 1) := by decide +kernel
theorem d_D_readDraft_83 : decode cc_D_readDraft 83 = .ok (.ireturn, 1) := by decide +kernel
theorem d_D_readDraft_84 : decode cc_D_readDraft 84 = .ok (.iinc 2 1, 3) := by decide +kernel
theorem d_D_readDraft_87 : decode cc_D_readDraft 87 = .ok (.goto (-76), 3) := by decide +kernel
theorem d_D_readDraft_90 : decode cc_D_readDraft 90 = .ok (.iconst 0, 1) := by decide +kernel
theorem d_D_readDraft_91 : decode cc_D_readDraft 91 = .ok (.ireturn, 1) := by decide +kernel
theorem d_D_draftByte_0 : decode cc_D_draftByte 0 = .ok (.aload_n 0, 1) := by decide +kernel
theorem d_D_draftByte_1 : decode cc_D_draftByte 1 = .ok (.getfield 14, 3) := by decide +kernel
theorem d_D_draftByte_4 : decode cc_D_draftByte 4 = .ok (.iload_n 1, 1) := by decide +kernel
theorem d_D_draftByte_5 : decode cc_D_draftByte 5 = .ok (.invokevirtual 100, 3) := by decide +kernel
theorem d_D_draftByte_8 : decode cc_D_draftByte 8 = .ok (.istore_n 2, 1) := by decide +kernel
theorem d_D_draftByte_9 : decode cc_D_draftByte 9 = .ok (.iload_n 2, 1) := by decide +kernel
theorem d_D_draftByte_10 : decode cc_D_draftByte 10 = .ok (.invokestatic 117, 3) := by decide +kernel
theorem d_D_draftByte_13 : decode cc_D_draftByte 13 = .ok (.ifCond .eq 16, 3) := by decide +kernel
theorem d_D_draftByte_16 : decode cc_D_draftByte 16 = .ok (.aload_n 0, 1) := by decide +kernel
theorem d_D_draftByte_17 : decode cc_D_draftByte 17 = .ok (.aload_n 0, 1) := by decide +kernel
theorem d_D_draftByte_18 : decode cc_D_draftByte 18 = .ok (.getfield 18, 3) := by decide +kernel
theorem d_D_draftByte_21 : decode cc_D_draftByte 21 = .ok (.iload_n 2, 1) := by decide +kernel
theorem d_D_draftByte_22 : decode cc_D_draftByte 22 = .ok (.iload_n 1, 1) := by decide +kernel
theorem d_D_draftByte_23 : decode cc_D_draftByte 23 = .ok (.invokevirtual 120, 3) := by decide +kernel
theorem d_D_draftByte_26 : decode cc_D_draftByte 26 = .ok (.goto 9, 3) := by decide +kernel
theorem d_D_draftByte_29 : decode cc_D_draftByte 29 = .ok (.aload_n 0, 1) := by decide +kernel
theorem d_D_draftByte_30 : decode cc_D_draftByte 30 = .ok (.iconst 1, 1) := by decide +kernel
theorem d_D_draftByte_31 : decode cc_D_draftByte 31 = .ok (.iload_n 1, 1) := by decide +kernel
theorem d_D_draftByte_32 : decode cc_D_draftByte 32 = .ok (.invokevirtual 96, 3) := by decide +kernel
theorem d_D_draftByte_35 : decode cc_D_draftByte 35 = .ok (.ireturn, 1) := by decide +kernel
theorem d_D_draftReference_0 : decode cc_D_draftReference 0 = .ok (.aload_n 0, 1) := by decide +kernel
theorem d_D_draftReference_1 : decode cc_D_draftReference 1 = .ok (.getfield 34, 3) := by decide +kernel
theorem d_D_draftReference_4 : decode cc_D_draftReference 4 = .ok (.getfield 123, 3) := by decide +kernel
theorem d_D_draftReference_7 : decode cc_D_draftReference 7 = .ok (.ifCond .ne 16, 3) := by decide +kernel
theorem d_D_draftReference_10 : decode cc_D_draftReference 10 = .ok (.aload_n 0, 1) := by decide +kernel
theorem d_D_draftReference_11 : decode cc_D_draftReference 11 = .ok (.iconst 1, 1) := by decide +kernel
theorem d_D_draftReference_12 : decode cc_D_draftReference 12 = .ok (.aload_n 0, 1) := by decide +kernel
theorem d_D_draftReference_13 : decode cc_D_draftReference 13 = .ok (.getfield 34, 3) := by decide +kernel
theorem d_D_draftReference_16 : decode cc_D_draftReference 16 = .ok (.getfield 108, 3) := by decide +kernel
theorem d_D_draftReference_19 : decode cc_D_draftReference 19 = .ok (.invokevirtual 96, 3) := by decide +kernel
theorem d_D_draftReference_22 : decode cc_D_draftReference 22 = .ok (.ireturn, 1) := by decide +kernel
theorem d_D_draftReference_23 : decode cc_D_draftReference 23 = .ok (.aload_n 0, 1) := by decide +kernel
theorem d_D_draftReference_24 : decode cc_D_draftReference 24 = .ok (.getfield 34, 3) := by decide +kernel
theorem d_D_draftReference_27 : decode cc_D_draftReference 27 = .ok (.getfield 126, 3) := by decide +kernel
theorem d_D_draftReference_30 : decode cc_D_draftReference 30 = .ok (.ifCond .eq 16, 3) := by decide +kernel
theorem d_D_draftReference_33 : decode cc_D_draftReference 33 = .ok (.aload_n 0, 1) := by decide +kernel
theorem d_D_draftReference_34 : decode cc_D_draftReference 34 = .ok (.iload_n 1, 1) := by decide +kernel
theorem d_D_draftReference_35 : decode cc_D_draftReference 35 = .ok (.aload_n 0, 1) := by decide +kernel
theorem d_D_draftReference_36 : decode cc_D_draftReference 36 = .ok (.getfield 34, 3) := by decide +kernel
theorem d_D_draftReference_39 : decode cc_D_draftReference 39 = .ok (.getfield 108, 3) := by decide +kernel
theorem d_D_draftReference_42 : decode cc_D_draftReference 42 = .ok (.invokevirtual 129, 3) := by decide +kernel
theorem d_D_draftReference_45 : decode cc_D_draftReference 45 = .ok (.ireturn, 1) := by decide +kernel
theorem d_D_draftReference_46 : decode cc_D_draftReference 46 = .ok (.aload_n 0, 1) := by decide +kernel
theorem d_D_draftReference_47 : decode cc_D_draftReference 47 = .ok (.aload_n 0, 1) := by decide +kernel
theorem d_D_draftReference_48 : decode cc_D_draftReference 48 = .ok (.getfield 18, 3) := by decide +kernel
theorem d_D_draftReference_51 : decode cc_D_draftReference 51 = .ok (.iload_n 1, 1) := by decide +kernel
theorem d_D_draftReference_52 : decode cc_D_draftReference 52 = .ok (.invokevirtual 132, 3) := by decide +kernel
theorem d_D_draftReference_55 : decode cc_D_draftReference 55 = .ok (.ireturn, 1) := by decide +kernel
theorem d_D_draftAsItStands_0 : decode cc_D_draftAsItStands 0 = .ok (.iload_n 1, 1) := by decide +kernel
theorem d_D_draftAsItStands_1 : decode cc_D_draftAsItStands 1 = .ok (.istore_n 3, 1) := by decide +kernel
theorem d_D_draftAsItStands_2 : decode cc_D_draftAsItStands 2 = .ok (.iload_n 3, 1) := by decide +kernel
theorem d_D_draftAsItStands_3 : decode cc_D_draftAsItStands 3 = .ok (.iload_n 2, 1) := by decide +kernel
theorem d_D_draftAsItStands_4 : decode cc_D_draftAsItStands 4 = .ok (.if_icmp .ge 35, 3) := by decide +kernel
theorem d_D_draftAsItStands_7 : decode cc_D_draftAsItStands 7 = .ok (.aload_n 0, 1) := by decide +kernel
theorem d_D_draftAsItStands_8 : decode cc_D_draftAsItStands 8 = .ok (.getfield 18, 3) := by decide +kernel
theorem d_D_draftAsItStands_11 : decode cc_D_draftAsItStands 11 = .ok (.aload_n 0, 1) := by decide +kernel
theorem d_D_draftAsItStands_12 : decode cc_D_draftAsItStands 12 = .ok (.getfield 14, 3) := by decide +kernel
theorem d_D_draftAsItStands_15 : decode cc_D_draftAsItStands 15 = .ok (.iload_n 3, 1) := by decide +kernel
theorem d_D_draftAsItStands_16 : decode cc_D_draftAsItStands 16 = .ok (.invokevirtual 100, 3) := by decide +kernel
theorem d_D_draftAsItStands_19 : decode cc_D_draftAsItStands 19 = .ok (.invokevirtual 46, 3) := by decide +kernel
theorem d_D_draftAsItStands_22 : decode cc_D_draftAsItStands 22 = .ok (.ifCond .ne 11, 3) := by decide +kernel
theorem d_D_draftAsItStands_25 : decode cc_D_draftAsItStands 25 = .ok (.aload_n 0, 1) := by decide +kernel
theorem d_D_draftAsItStands_26 : decode cc_D_draftAsItStands 26 = .ok (.bipush 8, 2) := by decide +kernel
theorem d_D_draftAsItStands_28 : decode cc_D_draftAsItStands 28 = .ok (.iload_n 1, 1) := by decide +kernel
theorem d_D_draftAsItStands_29 : decode cc_D_draftAsItStands 29 = .ok (.invokevirtual 96, 3) := by decide +kernel
theorem d_D_draftAsItStands_32 : decode cc_D_draftAsItStands 32 = .ok (.ireturn, 1) := by decide +kernel
theorem d_D_draftAsItStands_33 : decode cc_D_draftAsItStands 33 = .ok (.iinc 3 1, 3) := by decide +kernel
theorem d_D_draftAsItStands_36 : decode cc_D_draftAsItStands 36 = .ok (.goto (-34), 3) := by decide +kernel
theorem d_D_draftAsItStands_39 : decode cc_D_draftAsItStands 39 = .ok (.iconst 0, 1) := by decide +kernel
theorem d_D_draftAsItStands_40 : decode cc_D_draftAsItStands 40 = .ok (.ireturn, 1) := by decide +kernel
theorem d_D_addByNumber_0 : decode cc_D_addByNumber 0 = .ok (.aload_n 0, 1) := by decide +kernel
theorem d_D_addByNumber_1 : decode cc_D_addByNumber 1 = .ok (.getfield 34, 3) := by decide +kernel
theorem d_D_addByNumber_4 : decode cc_D_addByNumber 4 = .ok (.getfield 136, 3) := by decide +kernel
theorem d_D_addByNumber_7 : decode cc_D_addByNumber 7 = .ok (.istore_n 3, 1) := by decide +kernel
theorem d_D_addByNumber_8 : decode cc_D_addByNumber 8 = .ok (.iload_n 3, 1) := by decide +kernel
theorem d_D_addByNumber_9 : decode cc_D_addByNumber 9 = .ok (.invokestatic 117, 3) := by decide +kernel
theorem d_D_addByNumber_12 : decode cc_D_addByNumber 12 = .ok (.ifCond .eq 13, 3) := by decide +kernel
theorem d_D_addByNumber_15 : decode cc_D_addByNumber 15 = .ok (.aload_n 0, 1) := by decide +kernel
theorem d_D_addByNumber_16 : decode cc_D_addByNumber 16 = .ok (.aload_n 1, 1) := by decide +kernel
theorem d_D_addByNumber_17 : decode cc_D_addByNumber 17 = .ok (.iload_n 3, 1) := by decide +kernel
theorem d_D_addByNumber_18 : decode cc_D_addByNumber 18 = .ok (.iload_n 2, 1) := by decide +kernel
theorem d_D_addByNumber_19 : decode cc_D_addByNumber 19 = .ok (.invokevirtual 120, 3) := by decide +kernel
theorem d_D_addByNumber_22 : decode cc_D_addByNumber 22 = .ok (.goto 9, 3) := by decide +kernel
theorem d_D_addByNumber_25 : decode cc_D_addByNumber 25 = .ok (.aload_n 0, 1) := by decide +kernel
theorem d_D_addByNumber_26 : decode cc_D_addByNumber 26 = .ok (.iconst 5, 1) := by decide +kernel
theorem d_D_addByNumber_27 : decode cc_D_addByNumber 27 = .ok (.iload_n 2, 1) := by decide +kernel
theorem d_D_addByNumber_28 : decode cc_D_addByNumber 28 = .ok (.invokevirtual 96, 3) := by decide +kernel
theorem d_D_addByNumber_31 : decode cc_D_addByNumber 31 = .ok (.ireturn, 1) := by decide +kernel
theorem d_D_readValue_0 : decode cc_D_readValue 0 = .ok (.iconst 0, 1) := by decide +kernel
theorem d_D_readValue_1 : decode cc_D_readValue 1 = .ok (.istore 4, 2) := by decide +kernel
theorem d_D_readValue_3 : decode cc_D_readValue 3 = .ok (.iconst 0, 1) := by decide +kernel
theorem d_D_readValue_4 : decode cc_D_readValue 4 = .ok (.istore 5, 2) := by decide +kernel
theorem d_D_readValue_6 : decode cc_D_readValue 6 = .ok (.iload 5, 2) := by decide +kernel
theorem d_D_readValue_8 : decode cc_D_readValue 8 = .ok (.aload_n 1, 1) := by decide +kernel
theorem d_D_readValue_9 : decode cc_D_readValue 9 = .ok (.invokevirtual 42, 3) := by decide +kernel
theorem d_D_readValue_12 : decode cc_D_readValue 12 = .ok (.if_icmp .ge 115, 3) := by decide +kernel
theorem d_D_readValue_15 : decode cc_D_readValue 15 = .ok (.iload 5, 2) := by decide +kernel
theorem d_D_readValue_17 : decode cc_D_readValue 17 = .ok (.iload 4, 2) := by decide +kernel
theorem d_D_readValue_19 : decode cc_D_readValue 19 = .ok (.if_icmp .ge 6, 3) := by decide +kernel
theorem d_D_readValue_22 : decode cc_D_readValue 22 = .ok (.goto 99, 3) := by decide +kernel
theorem d_D_readValue_25 : decode cc_D_readValue 25 = .ok (.iload_n 2, 1) := by decide +kernel
theorem d_D_readValue_26 : decode cc_D_readValue 26 = .ok (.ifCond .ne 8, 3) := by decide +kernel
theorem d_D_readValue_29 : decode cc_D_readValue 29 = .ok (.iload 5, 2) := by decide +kernel
theorem d_D_readValue_31 : decode cc_D_readValue 31 = .ok (.goto 4, 3) := by decide +kernel
theorem d_D_readValue_34 : decode cc_D_readValue 34 = .ok (.iload_n 3, 1) := by decide +kernel
theorem d_D_readValue_35 : decode cc_D_readValue 35 = .ok (.istore 6, 2) := by decide +kernel
theorem d_D_readValue_37 : decode cc_D_readValue 37 = .ok (.aload_n 1, 1) := by decide +kernel
theorem d_D_readValue_38 : decode cc_D_readValue 38 = .ok (.iload 5, 2) := by decide +kernel
theorem d_D_readValue_40 : decode cc_D_readValue 40 = .ok (.invokevirtual 100, 3) := by decide +kernel
theorem d_D_readValue_43 : decode cc_D_readValue 43 = .ok (.bipush 38, 2) := by decide +kernel
theorem d_D_readValue_45 : decode cc_D_readValue 45 = .ok (.if_icmp .ne 54, 3) := by decide +kernel
theorem d_D_readValue_48 : decode cc_D_readValue 48 = .ok (.aload_n 0, 1) := by decide +kernel
theorem d_D_readValue_49 : decode cc_D_readValue 49 = .ok (.getfield 34, 3) := by decide +kernel
theorem d_D_readValue_52 : decode cc_D_readValue 52 = .ok (.aload_n 1, 1) := by decide +kernel
theorem d_D_readValue_53 : decode cc_D_readValue 53 = .ok (.iload 5, 2) := by decide +kernel
theorem d_D_readValue_55 : decode cc_D_readValue 55 = .ok (.invokevirtual 104, 3) := by decide +kernel
theorem d_D_readValue_58 : decode cc_D_readValue 58 = .ok (.aload_n 0, 1) := by decide +kernel
theorem d_D_readValue_59 : decode cc_D_readValue 59 = .ok (.getfield 34, 3) := by decide +kernel
theorem d_D_readValue_62 : decode cc_D_readValue 62 = .ok (.getfield 108, 3) := by decide +kernel
theorem d_D_readValue_65 : decode cc_D_readValue 65 = .ok (.istore 4, 2) := by decide +kernel
theorem d_D_readValue_67 : decode cc_D_readValue 67 = .ok (.aload_n 0, 1) := by decide +kernel
theorem d_D_readValue_68 : decode cc_D_readValue 68 = .ok (.getfield 34, 3) := by decide +kernel
theorem d_D_readValue_71 : decode cc_D_readValue 71 = .ok (.getfield 123, 3) := by decide +kernel
theorem d_D_readValue_74 : decode cc_D_readValue 74 = .ok (.ifCond .eq 13, 3) := by decide +kernel
theorem d_D_readValue_77 : decode cc_D_readValue 77 = .ok (.aload_n 0, 1) := by decide +kernel
theorem d_D_readValue_78 : decode cc_D_readValue 78 = .ok (.iload_n 2, 1) := by decide +kernel
theorem d_D_readValue_79 : decode cc_D_readValue 79 = .ok (.iload 6, 2) := by decide +kernel
theorem d_D_readValue_81 : decode cc_D_readValue 81 = .ok (.invokevirtual 139, 3) := by decide +kernel
theorem d_D_readValue_84 : decode cc_D_readValue 84 = .ok (.goto 10, 3) := by decide +kernel
theorem d_D_readValue_87 : decode cc_D_readValue 87 = .ok (.aload_n 0, 1) := by decide +kernel
theorem d_D_readValue_88 : decode cc_D_readValue 88 = .ok (.aload_n 1, 1) := by decide +kernel
theorem d_D_readValue_89 : decode cc_D_readValue 89 = .ok (.iload_n 2, 1) := by decide +kernel
theorem d_D_readValue_90 : decode cc_D_readValue 90 = .ok (.iload_n 3, 1) := by decide +kernel
theorem d_D_readValue_91 : decode cc_D_readValue 91 = .ok (.invokevirtual 142, 3) := by decide +kernel
theorem d_D_readValue_94 : decode cc_D_readValue 94 = .ok (.istore 7, 2) := by decide +kernel
theorem d_D_readValue_96 : decode cc_D_readValue 96 = .ok (.goto 17, 3) := by decide +kernel
theorem d_D_readValue_99 : decode cc_D_readValue 99 = .ok (.aload_n 0, 1) := by decide +kernel
theorem d_D_readValue_100 : decode cc_D_readValue 100 = .ok (.aload_n 1, 1) := by decide +kernel
theorem d_D_readValue_101 : decode cc_D_readValue 101 = .ok (.iload 5, 2) := by decide +kernel
theorem d_D_readValue_103 : decode cc_D_readValue 103 = .ok (.invokevirtual 100, 3) := by decide +kernel
theorem d_D_readValue_106 : decode cc_D_readValue 106 = .ok (.iload 6, 2) := by decide +kernel
theorem d_D_readValue_108 : decode cc_D_readValue 108 = .ok (.invokevirtual 145, 3) := by decide +kernel
theorem d_D_readValue_111 : decode cc_D_readValue 111 = .ok (.istore 7, 2) := by decide +kernel
theorem d_D_readValue_113 : decode cc_D_readValue 113 = .ok (.iload 7, 2) := by decide +kernel
theorem d_D_readValue_115 : decode cc_D_readValue 115 = .ok (.ifCond .eq 6, 3) := by decide +kernel
theorem d_D_readValue_118 : decode cc_D_readValue 118 = .ok (.iload 7, 2) := by decide +kernel
theorem d_D_readValue_120 : decode cc_D_readValue 120 = .ok (.ireturn, 1) := by decide +kernel
theorem d_D_readValue_121 : decode cc_D_readValue 121 = .ok (.iinc 5 1, 3) := by decide +kernel
theorem d_D_readValue_124 : decode cc_D_readValue 124 = .ok (.goto (-118), 3) := by decide +kernel
theorem d_D_readValue_127 : decode cc_D_readValue 127 = .ok (.iconst 0, 1) := by decide +kernel
theorem d_D_readValue_128 : decode cc_D_readValue 128 = .ok (.ireturn, 1) := by decide +kernel
theorem d_D_failBroken_0 : decode cc_D_failBroken 0 = .ok (.iload_n 2, 1) := by decide +kernel
theorem d_D_failBroken_1 : decode cc_D_failBroken 1 = .ok (.ifCond .ne 16, 3) := by decide +kernel
theorem d_D_failBroken_4 : decode cc_D_failBroken 4 = .ok (.aload_n 0, 1) := by decide +kernel
theorem d_D_failBroken_5 : decode cc_D_failBroken 5 = .ok (.iconst 1, 1) := by decide +kernel
theorem d_D_failBroken_6 : decode cc_D_failBroken 6 = .ok (.aload_n 0, 1) := by decide +kernel
theorem d_D_failBroken_7 : decode cc_D_failBroken 7 = .ok (.getfield 34, 3) := by decide +kernel
theorem d_D_failBroken_10 : decode cc_D_failBroken 10 = .ok (.getfield 108, 3) := by decide +kernel
theorem d_D_failBroken_13 : decode cc_D_failBroken 13 = .ok (.invokevirtual 96, 3) := by decide +kernel
theorem d_D_failBroken_16 : decode cc_D_failBroken 16 = .ok (.ireturn, 1) := by decide +kernel
theorem d_D_failBroken_17 : decode cc_D_failBroken 17 = .ok (.aload_n 0, 1) := by decide +kernel
theorem d_D_failBroken_18 : decode cc_D_failBroken 18 = .ok (.aload_n 0, 1) := by decide +kernel
theorem d_D_failBroken_19 : decode cc_D_failBroken 19 = .ok (.getfield 34, 3) := by decide +kernel
theorem d_D_failBroken_22 : decode cc_D_failBroken 22 = .ok (.getfield 108, 3) := by decide +kernel
theorem d_D_failBroken_25 : decode cc_D_failBroken 25 = .ok (.aload_n 1, 1) := by decide +kernel
theorem d_D_failBroken_26 : decode cc_D_failBroken 26 = .ok (.invokevirtual 42, 3) := by decide +kernel
theorem d_D_failBroken_29 : decode cc_D_failBroken 29 = .ok (.if_icmp .ge 7, 3) := by decide +kernel
theorem d_D_failBroken_32 : decode cc_D_failBroken 32 = .ok (.iconst 1, 1) := by decide +kernel
theorem d_D_failBroken_33 : decode cc_D_failBroken 33 = .ok (.goto 5, 3) := by decide +kernel
theorem d_D_failBroken_36 : decode cc_D_failBroken 36 = .ok (.bipush 7, 2) := by decide +kernel
theorem d_D_failBroken_38 : decode cc_D_failBroken 38 = .ok (.iload_n 3, 1) := by decide +kernel
theorem d_D_failBroken_39 : decode cc_D_failBroken 39 = .ok (.invokevirtual 96, 3) := by decide +kernel
theorem d_D_failBroken_42 : decode cc_D_failBroken 42 = .ok (.ireturn, 1) := by decide +kernel
theorem d_D_takeByte_0 : decode cc_D_takeByte 0 = .ok (.iload_n 1, 1) := by decide +kernel
theorem d_D_takeByte_1 : decode cc_D_takeByte 1 = .ok (.bipush 60, 2) := by decide +kernel
theorem d_D_takeByte_3 : decode cc_D_takeByte 3 = .ok (.if_icmp .ne 10, 3) := by decide +kernel
theorem d_D_takeByte_6 : decode cc_D_takeByte 6 = .ok (.aload_n 0, 1) := by decide +kernel
theorem d_D_takeByte_7 : decode cc_D_takeByte 7 = .ok (.iconst 4, 1) := by decide +kernel
theorem d_D_takeByte_8 : decode cc_D_takeByte 8 = .ok (.iload_n 2, 1) := by decide +kernel
theorem d_D_takeByte_9 : decode cc_D_takeByte 9 = .ok (.invokevirtual 96, 3) := by decide +kernel
theorem d_D_takeByte_12 : decode cc_D_takeByte 12 = .ok (.ireturn, 1) := by decide +kernel
theorem d_D_takeByte_13 : decode cc_D_takeByte 13 = .ok (.iload_n 1, 1) := by decide +kernel
theorem d_D_takeByte_14 : decode cc_D_takeByte 14 = .ok (.invokestatic 117, 3) := by decide +kernel
theorem d_D_takeByte_17 : decode cc_D_takeByte 17 = .ok (.ifCond .ne 10, 3) := by decide +kernel
theorem d_D_takeByte_20 : decode cc_D_takeByte 20 = .ok (.aload_n 0, 1) := by decide +kernel
theorem d_D_takeByte_21 : decode cc_D_takeByte 21 = .ok (.iconst 1, 1) := by decide +kernel
theorem d_D_takeByte_22 : decode cc_D_takeByte 22 = .ok (.iload_n 2, 1) := by decide +kernel
theorem d_D_takeByte_23 : decode cc_D_takeByte 23 = .ok (.invokevirtual 96, 3) := by decide +kernel
theorem d_D_takeByte_26 : decode cc_D_takeByte 26 = .ok (.ireturn, 1) := by decide +kernel
theorem d_D_takeByte_27 : decode cc_D_takeByte 27 = .ok (.aload_n 0, 1) := by decide +kernel
theorem d_D_takeByte_28 : decode cc_D_takeByte 28 = .ok (.aload_n 0, 1) := by decide +kernel
theorem d_D_takeByte_29 : decode cc_D_takeByte 29 = .ok (.getfield 21, 3) := by decide +kernel
theorem d_D_takeByte_32 : decode cc_D_takeByte 32 = .ok (.iload_n 1, 1) := by decide +kernel
theorem d_D_takeByte_33 : decode cc_D_takeByte 33 = .ok (.bipush 32, 2) := by decide +kernel
theorem d_D_takeByte_35 : decode cc_D_takeByte 35 = .ok (.if_icmp .ge 8, 3) := by decide +kernel
theorem d_D_takeByte_38 : decode cc_D_takeByte 38 = .ok (.bipush 32, 2) := by decide +kernel
theorem d_D_takeByte_40 : decode cc_D_takeByte 40 = .ok (.goto 4, 3) := by decide +kernel
theorem d_D_takeByte_43 : decode cc_D_takeByte 43 = .ok (.iload_n 1, 1) := by decide +kernel
theorem d_D_takeByte_44 : decode cc_D_takeByte 44 = .ok (.iload_n 2, 1) := by decide +kernel
theorem d_D_takeByte_45 : decode cc_D_takeByte 45 = .ok (.invokevirtual 120, 3) := by decide +kernel
theorem d_D_takeByte_48 : decode cc_D_takeByte 48 = .ok (.ireturn, 1) := by decide +kernel
theorem d_D_takeReference_0 : decode cc_D_takeReference 0 = .ok (.aload_n 0, 1) := by decide +kernel
theorem d_D_takeReference_1 : decode cc_D_takeReference 1 = .ok (.getfield 34, 3) := by decide +kernel
theorem d_D_takeReference_4 : decode cc_D_takeReference 4 = .ok (.getfield 126, 3) := by decide +kernel
theorem d_D_takeReference_7 : decode cc_D_takeReference 7 = .ok (.ifCond .eq 19, 3) := by decide +kernel
theorem d_D_takeReference_10 : decode cc_D_takeReference 10 = .ok (.aload_n 0, 1) := by decide +kernel
theorem d_D_takeReference_11 : decode cc_D_takeReference 11 = .ok (.aload_n 0, 1) := by decide +kernel
theorem d_D_takeReference_12 : decode cc_D_takeReference 12 = .ok (.getfield 34, 3) := by decide +kernel
theorem d_D_takeReference_15 : decode cc_D_takeReference 15 = .ok (.getfield 136, 3) := by decide +kernel
theorem d_D_takeReference_18 : decode cc_D_takeReference 18 = .ok (.iload_n 1, 1) := by decide +kernel
theorem d_D_takeReference_19 : decode cc_D_takeReference 19 = .ok (.iload_n 2, 1) := by decide +kernel
theorem d_D_takeReference_20 : decode cc_D_takeReference 20 = .ok (.invokevirtual 148, 3) := by decide +kernel
theorem d_D_takeReference_23 : decode cc_D_takeReference 23 = .ok (.goto 12, 3) := by decide +kernel
theorem d_D_takeReference_26 : decode cc_D_takeReference 26 = .ok (.aload_n 0, 1) := by decide +kernel
theorem d_D_takeReference_27 : decode cc_D_takeReference 27 = .ok (.aload_n 0, 1) := by decide +kernel
theorem d_D_takeReference_28 : decode cc_D_takeReference 28 = .ok (.getfield 21, 3) := by decide +kernel
theorem d_D_takeReference_31 : decode cc_D_takeReference 31 = .ok (.iload_n 2, 1) := by decide +kernel
theorem d_D_takeReference_32 : decode cc_D_takeReference 32 = .ok (.invokevirtual 132, 3) := by decide +kernel
theorem d_D_takeReference_35 : decode cc_D_takeReference 35 = .ok (.ireturn, 1) := by decide +kernel
theorem d_D_takeEntity_0 : decode cc_D_takeEntity 0 = .ok (.aload_n 0, 1) := by decide +kernel
theorem d_D_takeEntity_1 : decode cc_D_takeEntity 1 = .ok (.iload_n 1, 1) := by decide +kernel
theorem d_D_takeEntity_2 : decode cc_D_takeEntity 2 = .ok (.invokevirtual 50, 3) := by decide +kernel
theorem d_D_takeEntity_5 : decode cc_D_takeEntity 5 = .ok (.astore 4, 2) := by decide +kernel
theorem d_D_takeEntity_7 : decode cc_D_takeEntity 7 = .ok (.aload 4, 2) := by decide +kernel
theorem d_D_takeEntity_9 : decode cc_D_takeEntity 9 = .ok (.ifnull 11, 3) := by decide +kernel
theorem d_D_takeEntity_12 : decode cc_D_takeEntity 12 = .ok (.aload 4, 2) := by decide +kernel
theorem d_D_takeEntity_14 : decode cc_D_takeEntity 14 = .ok (.getfield 60, 3) := by decide +kernel
theorem d_D_takeEntity_17 : decode cc_D_takeEntity 17 = .ok (.ifCond .ne 10, 3) := by decide +kernel
theorem d_D_takeEntity_20 : decode cc_D_takeEntity 20 = .ok (.aload_n 0, 1) := by decide +kernel
theorem d_D_takeEntity_21 : decode cc_D_takeEntity 21 = .ok (.iconst 2, 1) := by decide +kernel
theorem d_D_takeEntity_22 : decode cc_D_takeEntity 22 = .ok (.iload_n 3, 1) := by decide +kernel
theorem d_D_takeEntity_23 : decode cc_D_takeEntity 23 = .ok (.invokevirtual 96, 3) := by decide +kernel
theorem d_D_takeEntity_26 : decode cc_D_takeEntity 26 = .ok (.ireturn, 1) := by decide +kernel
theorem d_D_takeEntity_27 : decode cc_D_takeEntity 27 = .ok (.aload 4, 2) := by decide +kernel
theorem d_D_takeEntity_29 : decode cc_D_takeEntity 29 = .ok (.getfield 152, 3) := by decide +kernel
theorem d_D_takeEntity_32 : decode cc_D_takeEntity 32 = .ok (.ifCond .ne 9, 3) := by decide +kernel
theorem d_D_takeEntity_35 : decode cc_D_takeEntity 35 = .ok (.iload_n 2, 1) := by decide +kernel
theorem d_D_takeEntity_36 : decode cc_D_takeEntity 36 = .ok (.bipush 26, 2) := by decide +kernel
theorem d_D_takeEntity_38 : decode cc_D_takeEntity 38 = .ok (.if_icmp .lt 10, 3) := by decide +kernel
theorem d_D_takeEntity_41 : decode cc_D_takeEntity 41 = .ok (.aload_n 0, 1) := by decide +kernel
theorem d_D_takeEntity_42 : decode cc_D_takeEntity 42 = .ok (.iconst 3, 1) := by decide +kernel
theorem d_D_takeEntity_43 : decode cc_D_takeEntity 43 = .ok (.iload_n 3, 1) := by decide +kernel
theorem d_D_takeEntity_44 : decode cc_D_takeEntity 44 = .ok (.invokevirtual 96, 3) := by decide +kernel
theorem d_D_takeEntity_47 : decode cc_D_takeEntity 47 = .ok (.ireturn, 1) := by decide +kernel
theorem d_D_takeEntity_48 : decode cc_D_takeEntity 48 = .ok (.aload 4, 2) := by decide +kernel
theorem d_D_takeEntity_50 : decode cc_D_takeEntity 50 = .ok (.getfield 91, 3) := by decide +kernel
theorem d_D_takeEntity_53 : decode cc_D_takeEntity 53 = .ok (.invokevirtual 42, 3) := by decide +kernel
theorem d_D_takeEntity_56 : decode cc_D_takeEntity 56 = .ok (.aload_n 0, 1) := by decide +kernel
theorem d_D_takeEntity_57 : decode cc_D_takeEntity 57 = .ok (.getfield 69, 3) := by decide +kernel
theorem d_D_takeEntity_60 : decode cc_D_takeEntity 60 = .ok (.aload_n 0, 1) := by decide +kernel
theorem d_D_takeEntity_61 : decode cc_D_takeEntity 61 = .ok (.getfield 72, 3) := by decide +kernel
theorem d_D_takeEntity_64 : decode cc_D_takeEntity 64 = .ok (.isub, 1) := by decide +kernel
theorem d_D_takeEntity_65 : decode cc_D_takeEntity 65 = .ok (.if_icmp .le 11, 3) := by decide +kernel
theorem d_D_takeEntity_68 : decode cc_D_takeEntity 68 = .ok (.aload_n 0, 1) := by decide +kernel
theorem d_D_takeEntity_69 : decode cc_D_takeEntity 69 = .ok (.bipush 6, 2) := by decide +kernel
theorem d_D_takeEntity_71 : decode cc_D_takeEntity 71 = .ok (.iload_n 3, 1) := by decide +kernel
theorem d_D_takeEntity_72 : decode cc_D_takeEntity 72 = .ok (.invokevirtual 96, 3) := by decide +kernel
theorem d_D_takeEntity_75 : decode cc_D_takeEntity 75 = .ok (.ireturn, 1) := by decide +kernel
theorem d_D_takeEntity_76 : decode cc_D_takeEntity 76 = .ok (.aload_n 0, 1) := by decide +kernel
theorem d_D_takeEntity_77 : decode cc_D_takeEntity 77 = .ok (.dup, 1) := by decide +kernel
theorem d_D_takeEntity_78 : decode cc_D_takeEntity 78 = .ok (.getfield 72, 3) := by decide +kernel
theorem d_D_takeEntity_81 : decode cc_D_takeEntity 81 = .ok (.aload 4, 2) := by decide +kernel
theorem d_D_takeEntity_83 : decode cc_D_takeEntity 83 = .ok (.getfield 91, 3) := by decide +kernel
theorem d_D_takeEntity_86 : decode cc_D_takeEntity 86 = .ok (.invokevirtual 42, 3) := by decide +kernel
theorem d_D_takeEntity_89 : decode cc_D_takeEntity 89 = .ok (.iadd, 1) := by decide +kernel
theorem d_D_takeEntity_90 : decode cc_D_takeEntity 90 = .ok (.putfield 72, 3) := by decide +kernel
theorem d_D_takeEntity_93 : decode cc_D_takeEntity 93 = .ok (.aload_n 0, 1) := by decide +kernel
theorem d_D_takeEntity_94 : decode cc_D_takeEntity 94 = .ok (.aload_n 0, 1) := by decide +kernel
theorem d_D_takeEntity_95 : decode cc_D_takeEntity 95 = .ok (.getfield 75, 3) := by decide +kernel
theorem d_D_takeEntity_98 : decode cc_D_takeEntity 98 = .ok (.iload_n 2, 1) := by decide +kernel
theorem d_D_takeEntity_99 : decode cc_D_takeEntity 99 = .ok (.iconst 1, 1) := by decide +kernel
theorem d_D_takeEntity_100 : decode cc_D_takeEntity 100 = .ok (.iadd, 1) := by decide +kernel
theorem d_D_takeEntity_101 : decode cc_D_takeEntity 101 = .ok (.invokestatic 155, 3) := by decide +kernel
theorem d_D_takeEntity_104 : decode cc_D_takeEntity 104 = .ok (.putfield 75, 3) := by decide +kernel
theorem d_D_takeEntity_107 : decode cc_D_takeEntity 107 = .ok (.aload 4, 2) := by decide +kernel
theorem d_D_takeEntity_109 : decode cc_D_takeEntity 109 = .ok (.iconst 1, 1) := by decide +kernel
theorem d_D_takeEntity_110 : decode cc_D_takeEntity 110 = .ok (.putfield 152, 3) := by decide +kernel
theorem d_D_takeEntity_113 : decode cc_D_takeEntity 113 = .ok (.aload_n 0, 1) := by decide +kernel
theorem d_D_takeEntity_114 : decode cc_D_takeEntity 114 = .ok (.aload 4, 2) := by decide +kernel
theorem d_D_takeEntity_116 : decode cc_D_takeEntity 116 = .ok (.getfield 91, 3) := by decide +kernel
theorem d_D_takeEntity_119 : decode cc_D_takeEntity 119 = .ok (.iload_n 2, 1) := by decide +kernel
theorem d_D_takeEntity_120 : decode cc_D_takeEntity 120 = .ok (.iconst 1, 1) := by decide +kernel
theorem d_D_takeEntity_121 : decode cc_D_takeEntity 121 = .ok (.iadd, 1) := by decide +kernel
theorem d_D_takeEntity_122 : decode cc_D_takeEntity 122 = .ok (.iload_n 3, 1) := by decide +kernel
theorem d_D_takeEntity_123 : decode cc_D_takeEntity 123 = .ok (.invokevirtual 78, 3) := by decide +kernel
theorem d_D_takeEntity_126 : decode cc_D_takeEntity 126 = .ok (.istore 5, 2) := by decide +kernel
theorem d_D_takeEntity_128 : decode cc_D_takeEntity 128 = .ok (.aload 4, 2) := by decide +kernel
theorem d_D_takeEntity_130 : decode cc_D_takeEntity 130 = .ok (.iconst 0, 1) := by decide +kernel
theorem d_D_takeEntity_131 : decode cc_D_takeEntity 131 = .ok (.putfield 152, 3) := by decide +kernel
theorem d_D_takeEntity_134 : decode cc_D_takeEntity 134 = .ok (.iload 5, 2) := by decide +kernel
theorem d_D_takeEntity_136 : decode cc_D_takeEntity 136 = .ok (.ireturn, 1) := by decide +kernel
theorem d_D_isCharacter_0 : decode cc_D_isCharacter 0 = .ok (.iload_n 0, 1) := by decide +kernel
theorem d_D_isCharacter_1 : decode cc_D_isCharacter 1 = .ok (.bipush 9, 2) := by decide +kernel
theorem d_D_isCharacter_3 : decode cc_D_isCharacter 3 = .ok (.if_icmp .eq 27, 3) := by decide +kernel
theorem d_D_isCharacter_6 : decode cc_D_isCharacter 6 = .ok (.iload_n 0, 1) := by decide +kernel
theorem d_D_isCharacter_7 : decode cc_D_isCharacter 7 = .ok (.bipush 10, 2) := by decide +kernel
theorem d_D_isCharacter_9 : decode cc_D_isCharacter 9 = .ok (.if_icmp .eq 21, 3) := by decide +kernel
theorem d_D_isCharacter_12 : decode cc_D_isCharacter 12 = .ok (.iload_n 0, 1) := by decide +kernel
theorem d_D_isCharacter_13 : decode cc_D_isCharacter 13 = .ok (.bipush 13, 2) := by decide +kernel
theorem d_D_isCharacter_15 : decode cc_D_isCharacter 15 = .ok (.if_icmp .eq 15, 3) := by decide +kernel
theorem d_D_isCharacter_18 : decode cc_D_isCharacter 18 = .ok (.iload_n 0, 1) := by decide +kernel
theorem d_D_isCharacter_19 : decode cc_D_isCharacter 19 = .ok (.bipush 32, 2) := by decide +kernel
theorem d_D_isCharacter_21 : decode cc_D_isCharacter 21 = .ok (.if_icmp .lt 13, 3) := by decide +kernel
theorem d_D_isCharacter_24 : decode cc_D_isCharacter 24 = .ok (.iload_n 0, 1) := by decide +kernel
theorem d_D_isCharacter_25 : decode cc_D_isCharacter 25 = .ok (.bipush 126, 2) := by decide +kernel
theorem d_D_isCharacter_27 : decode cc_D_isCharacter 27 = .ok (.if_icmp .gt 7, 3) := by decide +kernel
theorem d_D_isCharacter_30 : decode cc_D_isCharacter 30 = .ok (.iconst 1, 1) := by decide +kernel
theorem d_D_isCharacter_31 : decode cc_D_isCharacter 31 = .ok (.goto 4, 3) := by decide +kernel
theorem d_D_isCharacter_34 : decode cc_D_isCharacter 34 = .ok (.iconst 0, 1) := by decide +kernel
theorem d_D_isCharacter_35 : decode cc_D_isCharacter 35 = .ok (.ireturn, 1) := by decide +kernel

theorem d_M_init_0 : decode cc_M_init 0 = .ok (.aload_n 0, 1) := by decide +kernel
theorem d_M_init_1 : decode cc_M_init 1 = .ok (.invokespecial 1, 3) := by decide +kernel
theorem d_M_init_4 : decode cc_M_init 4 = .ok (.aload_n 0, 1) := by decide +kernel
theorem d_M_init_5 : decode cc_M_init 5 = .ok (.iconst 0, 1) := by decide +kernel
theorem d_M_init_6 : decode cc_M_init 6 = .ok (.putfield 7, 3) := by decide +kernel
theorem d_M_init_9 : decode cc_M_init 9 = .ok (.aload_n 0, 1) := by decide +kernel
theorem d_M_init_10 : decode cc_M_init 10 = .ok (.sipush 200, 3) := by decide +kernel
theorem d_M_init_13 : decode cc_M_init 13 = .ok (.newarray .int, 2) := by decide +kernel
theorem d_M_init_15 : decode cc_M_init 15 = .ok (.putfield 13, 3) := by decide +kernel
theorem d_M_init_18 : decode cc_M_init 18 = .ok (.aload_n 0, 1) := by decide +kernel
theorem d_M_init_19 : decode cc_M_init 19 = .ok (.iconst 0, 1) := by decide +kernel
theorem d_M_init_20 : decode cc_M_init 20 = .ok (.putfield 17, 3) := by decide +kernel
theorem d_M_init_23 : decode cc_M_init 23 = .ok (.aload_n 0, 1) := by decide +kernel
theorem d_M_init_24 : decode cc_M_init 24 = .ok (.bipush 26, 2) := by decide +kernel
theorem d_M_init_26 : decode cc_M_init 26 = .ok (.newarray .boolean, 2) := by decide +kernel
theorem d_M_init_28 : decode cc_M_init 28 = .ok (.putfield 20, 3) := by decide +kernel
theorem d_M_init_31 : decode cc_M_init 31 = .ok (.aload_n 0, 1) := by decide +kernel
theorem d_M_init_32 : decode cc_M_init 32 = .ok (.bipush 26, 2) := by decide +kernel
theorem d_M_init_34 : decode cc_M_init 34 = .ok (.newarray .int, 2) := by decide +kernel
theorem d_M_init_36 : decode cc_M_init 36 = .ok (.putfield 24, 3) := by decide +kernel
theorem d_M_init_39 : decode cc_M_init 39 = .ok (.aload_n 0, 1) := by decide +kernel
theorem d_M_init_40 : decode cc_M_init 40 = .ok (.sipush 2600, 3) := by decide +kernel
theorem d_M_init_43 : decode cc_M_init 43 = .ok (.newarray .int, 2) := by decide +kernel
theorem d_M_init_45 : decode cc_M_init 45 = .ok (.putfield 27, 3) := by decide +kernel
theorem d_M_init_48 : decode cc_M_init 48 = .ok (.aload_n 0, 1) := by decide +kernel
theorem d_M_init_49 : decode cc_M_init 49 = .ok (.sipush 301, 3) := by decide +kernel
theorem d_M_init_52 : decode cc_M_init 52 = .ok (.newarray .int, 2) := by decide +kernel
theorem d_M_init_54 : decode cc_M_init 54 = .ok (.putfield 30, 3) := by decide +kernel
theorem d_M_init_57 : decode cc_M_init 57 = .ok (.aload_n 0, 1) := by decide +kernel
theorem d_M_init_58 : decode cc_M_init 58 = .ok (.iconst 0, 1) := by decide +kernel
theorem d_M_init_59 : decode cc_M_init 59 = .ok (.putfield 33, 3) := by decide +kernel
theorem d_M_init_62 : decode cc_M_init 62 = .ok (.aload_n 0, 1) := by decide +kernel
theorem d_M_init_63 : decode cc_M_init 63 = .ok (.iconst (-1), 1) := by decide +kernel
theorem d_M_init_64 : decode cc_M_init 64 = .ok (.putfield 36, 3) := by decide +kernel
theorem d_M_init_67 : decode cc_M_init 67 = .ok (.aload_n 0, 1) := by decide +kernel
theorem d_M_init_68 : decode cc_M_init 68 = .ok (.iconst 0, 1) := by decide +kernel
theorem d_M_init_69 : decode cc_M_init 69 = .ok (.putfield 39, 3) := by decide +kernel
theorem d_M_init_72 : decode cc_M_init 72 = .ok (.aload_n 0, 1) := by decide +kernel
theorem d_M_init_73 : decode cc_M_init 73 = .ok (.iconst 0, 1) := by decide +kernel
theorem d_M_init_74 : decode cc_M_init 74 = .ok (.putfield 42, 3) := by decide +kernel
theorem d_M_init_77 : decode cc_M_init 77 = .ok (.aload_n 0, 1) := by decide +kernel
theorem d_M_init_78 : decode cc_M_init 78 = .ok (.iconst 0, 1) := by decide +kernel
theorem d_M_init_79 : decode cc_M_init 79 = .ok (.putfield 45, 3) := by decide +kernel
theorem d_M_init_82 : decode cc_M_init 82 = .ok (.aload_n 0, 1) := by decide +kernel
theorem d_M_init_83 : decode cc_M_init 83 = .ok (.bipush 28, 2) := by decide +kernel
theorem d_M_init_85 : decode cc_M_init 85 = .ok (.newarray .int, 2) := by decide +kernel
theorem d_M_init_87 : decode cc_M_init 87 = .ok (.putfield 48, 3) := by decide +kernel
theorem d_M_init_90 : decode cc_M_init 90 = .ok (.aload_n 0, 1) := by decide +kernel
theorem d_M_init_91 : decode cc_M_init 91 = .ok (.bipush 28, 2) := by decide +kernel
theorem d_M_init_93 : decode cc_M_init 93 = .ok (.newarray .int, 2) := by decide +kernel
theorem d_M_init_95 : decode cc_M_init 95 = .ok (.putfield 51, 3) := by decide +kernel
theorem d_M_init_98 : decode cc_M_init 98 = .ok (.aload_n 0, 1) := by decide +kernel
theorem d_M_init_99 : decode cc_M_init 99 = .ok (.iconst 0, 1) := by decide +kernel
theorem d_M_init_100 : decode cc_M_init 100 = .ok (.putfield 54, 3) := by decide +kernel
theorem d_M_init_103 : decode cc_M_init 103 = .ok (.aload_n 0, 1) := by decide +kernel
theorem d_M_init_104 : decode cc_M_init 104 = .ok (.iconst 0, 1) := by decide +kernel
theorem d_M_init_105 : decode cc_M_init 105 = .ok (.putfield 57, 3) := by decide +kernel
theorem d_M_init_108 : decode cc_M_init 108 = .ok (.aload_n 0, 1) := by decide +kernel
theorem d_M_init_109 : decode cc_M_init 109 = .ok (.iconst 0, 1) := by decide +kernel
theorem d_M_init_110 : decode cc_M_init 110 = .ok (.putfield 60, 3) := by decide +kernel
theorem d_M_init_113 : decode cc_M_init 113 = .ok (.aload_n 0, 1) := by decide +kernel
theorem d_M_init_114 : decode cc_M_init 114 = .ok (.iconst 0, 1) := by decide +kernel
theorem d_M_init_115 : decode cc_M_init 115 = .ok (.putfield 63, 3) := by decide +kernel
theorem d_M_init_118 : decode cc_M_init 118 = .ok (.aload_n 0, 1) := by decide +kernel
theorem d_M_init_119 : decode cc_M_init 119 = .ok (.iconst 0, 1) := by decide +kernel
theorem d_M_init_120 : decode cc_M_init 120 = .ok (.putfield 66, 3) := by decide +kernel
theorem d_M_init_123 : decode cc_M_init 123 = .ok (.aload_n 0, 1) := by decide +kernel
theorem d_M_init_124 : decode cc_M_init 124 = .ok (.sipush 204, 3) := by decide +kernel
theorem d_M_init_127 : decode cc_M_init 127 = .ok (.newarray .int, 2) := by decide +kernel
theorem d_M_init_129 : decode cc_M_init 129 = .ok (.putfield 69, 3) := by decide +kernel
theorem d_M_init_132 : decode cc_M_init 132 = .ok (.aload_n 0, 1) := by decide +kernel
theorem d_M_init_133 : decode cc_M_init 133 = .ok (.iconst 0, 1) := by decide +kernel
theorem d_M_init_134 : decode cc_M_init 134 = .ok (.putfield 72, 3) := by decide +kernel
theorem d_M_init_137 : decode cc_M_init 137 = .ok (.return_, 1) := by decide +kernel
theorem d_M_isCharacter_0 : decode cc_M_isCharacter 0 = .ok (.iload_n 0, 1) := by decide +kernel
theorem d_M_isCharacter_1 : decode cc_M_isCharacter 1 = .ok (.bipush 9, 2) := by decide +kernel
theorem d_M_isCharacter_3 : decode cc_M_isCharacter 3 = .ok (.if_icmp .eq 27, 3) := by decide +kernel
theorem d_M_isCharacter_6 : decode cc_M_isCharacter 6 = .ok (.iload_n 0, 1) := by decide +kernel
theorem d_M_isCharacter_7 : decode cc_M_isCharacter 7 = .ok (.bipush 10, 2) := by decide +kernel
theorem d_M_isCharacter_9 : decode cc_M_isCharacter 9 = .ok (.if_icmp .eq 21, 3) := by decide +kernel
theorem d_M_isCharacter_12 : decode cc_M_isCharacter 12 = .ok (.iload_n 0, 1) := by decide +kernel
theorem d_M_isCharacter_13 : decode cc_M_isCharacter 13 = .ok (.bipush 13, 2) := by decide +kernel
theorem d_M_isCharacter_15 : decode cc_M_isCharacter 15 = .ok (.if_icmp .eq 15, 3) := by decide +kernel
theorem d_M_isCharacter_18 : decode cc_M_isCharacter 18 = .ok (.iload_n 0, 1) := by decide +kernel
theorem d_M_isCharacter_19 : decode cc_M_isCharacter 19 = .ok (.bipush 32, 2) := by decide +kernel
theorem d_M_isCharacter_21 : decode cc_M_isCharacter 21 = .ok (.if_icmp .lt 13, 3) := by decide +kernel
theorem d_M_isCharacter_24 : decode cc_M_isCharacter 24 = .ok (.iload_n 0, 1) := by decide +kernel
theorem d_M_isCharacter_25 : decode cc_M_isCharacter 25 = .ok (.bipush 126, 2) := by decide +kernel
theorem d_M_isCharacter_27 : decode cc_M_isCharacter 27 = .ok (.if_icmp .gt 7, 3) := by decide +kernel
theorem d_M_isCharacter_30 : decode cc_M_isCharacter 30 = .ok (.iconst 1, 1) := by decide +kernel
theorem d_M_isCharacter_31 : decode cc_M_isCharacter 31 = .ok (.goto 4, 3) := by decide +kernel
theorem d_M_isCharacter_34 : decode cc_M_isCharacter 34 = .ok (.iconst 0, 1) := by decide +kernel
theorem d_M_isCharacter_35 : decode cc_M_isCharacter 35 = .ok (.ireturn, 1) := by decide +kernel
theorem d_M_length_0 : decode cc_M_length 0 = .ok (.aload_n 0, 1) := by decide +kernel
theorem d_M_length_1 : decode cc_M_length 1 = .ok (.getfield 45, 3) := by decide +kernel
theorem d_M_length_4 : decode cc_M_length 4 = .ok (.ifCond .ne 10, 3) := by decide +kernel
theorem d_M_length_7 : decode cc_M_length 7 = .ok (.aload_n 0, 1) := by decide +kernel
theorem d_M_length_8 : decode cc_M_length 8 = .ok (.getfield 17, 3) := by decide +kernel
theorem d_M_length_11 : decode cc_M_length 11 = .ok (.goto 17, 3) := by decide +kernel
theorem d_M_length_14 : decode cc_M_length 14 = .ok (.aload_n 0, 1) := by decide +kernel
theorem d_M_length_15 : decode cc_M_length 15 = .ok (.getfield 24, 3) := by decide +kernel
theorem d_M_length_18 : decode cc_M_length 18 = .ok (.aload_n 0, 1) := by decide +kernel
theorem d_M_length_19 : decode cc_M_length 19 = .ok (.getfield 48, 3) := by decide +kernel
theorem d_M_length_22 : decode cc_M_length 22 = .ok (.aload_n 0, 1) := by decide +kernel
theorem d_M_length_23 : decode cc_M_length 23 = .ok (.getfield 45, 3) := by decide +kernel
theorem d_M_length_26 : decode cc_M_length 26 = .ok (.iaload, 1) := by decide +kernel
theorem d_M_length_27 : decode cc_M_length 27 = .ok (.iaload, 1) := by decide +kernel
theorem d_M_length_28 : decode cc_M_length 28 = .ok (.ireturn, 1) := by decide +kernel
theorem d_M_byteOf_0 : decode cc_M_byteOf 0 = .ok (.iload_n 1, 1) := by decide +kernel
theorem d_M_byteOf_1 : decode cc_M_byteOf 1 = .ok (.aload_n 0, 1) := by decide +kernel
theorem d_M_byteOf_2 : decode cc_M_byteOf 2 = .ok (.invokevirtual 75, 3) := by decide +kernel
theorem d_M_byteOf_5 : decode cc_M_byteOf 5 = .ok (.if_icmp .lt 5, 3) := by decide +kernel
theorem d_M_byteOf_8 : decode cc_M_byteOf 8 = .ok (.iconst (-1), 1) := by decide +kernel
theorem d_M_byteOf_9 : decode cc_M_byteOf 9 = .ok (.ireturn, 1) := by decide +kernel
theorem d_M_byteOf_10 : decode cc_M_byteOf 10 = .ok (.aload_n 0, 1) := by decide +kernel
theorem d_M_byteOf_11 : decode cc_M_byteOf 11 = .ok (.getfield 45, 3) := by decide +kernel
theorem d_M_byteOf_14 : decode cc_M_byteOf 14 = .ok (.ifCond .ne 12, 3) := by decide +kernel
theorem d_M_byteOf_17 : decode cc_M_byteOf 17 = .ok (.aload_n 0, 1) := by decide +kernel
theorem d_M_byteOf_18 : decode cc_M_byteOf 18 = .ok (.getfield 13, 3) := by decide +kernel
theorem d_M_byteOf_21 : decode cc_M_byteOf 21 = .ok (.iload_n 1, 1) := by decide +kernel
theorem d_M_byteOf_22 : decode cc_M_byteOf 22 = .ok (.iaload, 1) := by decide +kernel
theorem d_M_byteOf_23 : decode cc_M_byteOf 23 = .ok (.goto 22, 3) := by decide +kernel
theorem d_M_byteOf_26 : decode cc_M_byteOf 26 = .ok (.aload_n 0, 1) := by decide +kernel
theorem d_M_byteOf_27 : decode cc_M_byteOf 27 = .ok (.getfield 27, 3) := by decide +kernel
theorem d_M_byteOf_30 : decode cc_M_byteOf 30 = .ok (.bipush 100, 2) := by decide +kernel
theorem d_M_byteOf_32 : decode cc_M_byteOf 32 = .ok (.aload_n 0, 1) := by decide +kernel
theorem d_M_byteOf_33 : decode cc_M_byteOf 33 = .ok (.getfield 48, 3) := by decide +kernel
theorem d_M_byteOf_36 : decode cc_M_byteOf 36 = .ok (.aload_n 0, 1) := by decide +kernel
theorem d_M_byteOf_37 : decode cc_M_byteOf 37 = .ok (.getfield 45, 3) := by decide +kernel
theorem d_M_byteOf_40 : decode cc_M_byteOf 40 = .ok (.iaload, 1) := by decide +kernel
theorem d_M_byteOf_41 : decode cc_M_byteOf 41 = .ok (.imul, 1) := by decide +kernel
theorem d_M_byteOf_42 : decode cc_M_byteOf 42 = .ok (.iload_n 1, 1) := by decide +kernel
theorem d_M_byteOf_43 : decode cc_M_byteOf 43 = .ok (.iadd, 1) := by decide +kernel
theorem d_M_byteOf_44 : decode cc_M_byteOf 44 = .ok (.iaload, 1) := by decide +kernel
theorem d_M_byteOf_45 : decode cc_M_byteOf 45 = .ok (.ireturn, 1) := by decide +kernel
theorem d_M_fails_0 : decode cc_M_fails 0 = .ok (.aload_n 0, 1) := by decide +kernel
theorem d_M_fails_1 : decode cc_M_fails 1 = .ok (.iload_n 1, 1) := by decide +kernel
theorem d_M_fails_2 : decode cc_M_fails 2 = .ok (.putfield 54, 3) := by decide +kernel
theorem d_M_fails_5 : decode cc_M_fails 5 = .ok (.aload_n 0, 1) := by decide +kernel
theorem d_M_fails_6 : decode cc_M_fails 6 = .ok (.aload_n 0, 1) := by decide +kernel
theorem d_M_fails_7 : decode cc_M_fails 7 = .ok (.getfield 45, 3) := by decide +kernel
theorem d_M_fails_10 : decode cc_M_fails 10 = .ok (.ifCond .ne 7, 3) := by decide +kernel
theorem d_M_fails_13 : decode cc_M_fails 13 = .ok (.iload_n 2, 1) := by decide +kernel
theorem d_M_fails_14 : decode cc_M_fails 14 = .ok (.goto 7, 3) := by decide +kernel
theorem d_M_fails_17 : decode cc_M_fails 17 = .ok (.aload_n 0, 1) := by decide +kernel
theorem d_M_fails_18 : decode cc_M_fails 18 = .ok (.getfield 57, 3) := by decide +kernel
theorem d_M_fails_21 : decode cc_M_fails 21 = .ok (.putfield 36, 3) := by decide +kernel
theorem d_M_fails_24 : decode cc_M_fails 24 = .ok (.return_, 1) := by decide +kernel
theorem d_M_digit_0 : decode cc_M_digit 0 = .ok (.iload_n 0, 1) := by decide +kernel
theorem d_M_digit_1 : decode cc_M_digit 1 = .ok (.bipush 48, 2) := by decide +kernel
theorem d_M_digit_3 : decode cc_M_digit 3 = .ok (.if_icmp .lt 14, 3) := by decide +kernel
theorem d_M_digit_6 : decode cc_M_digit 6 = .ok (.iload_n 0, 1) := by decide +kernel
theorem d_M_digit_7 : decode cc_M_digit 7 = .ok (.bipush 57, 2) := by decide +kernel
theorem d_M_digit_9 : decode cc_M_digit 9 = .ok (.if_icmp .gt 8, 3) := by decide +kernel
theorem d_M_digit_12 : decode cc_M_digit 12 = .ok (.iload_n 0, 1) := by decide +kernel
theorem d_M_digit_13 : decode cc_M_digit 13 = .ok (.bipush 48, 2) := by decide +kernel
theorem d_M_digit_15 : decode cc_M_digit 15 = .ok (.isub, 1) := by decide +kernel
theorem d_M_digit_16 : decode cc_M_digit 16 = .ok (.ireturn, 1) := by decide +kernel
theorem d_M_digit_17 : decode cc_M_digit 17 = .ok (.iload_n 1, 1) := by decide +kernel
theorem d_M_digit_18 : decode cc_M_digit 18 = .ok (.ifCond .eq 20, 3) := by decide +kernel
theorem d_M_digit_21 : decode cc_M_digit 21 = .ok (.iload_n 0, 1) := by decide +kernel
theorem d_M_digit_22 : decode cc_M_digit 22 = .ok (.bipush 97, 2) := by decide +kernel
theorem d_M_digit_24 : decode cc_M_digit 24 = .ok (.if_icmp .lt 14, 3) := by decide +kernel
theorem d_M_digit_27 : decode cc_M_digit 27 = .ok (.iload_n 0, 1) := by decide +kernel
theorem d_M_digit_28 : decode cc_M_digit 28 = .ok (.bipush 102, 2) := by decide +kernel
theorem d_M_digit_30 : decode cc_M_digit 30 = .ok (.if_icmp .gt 8, 3) := by decide +kernel
theorem d_M_digit_33 : decode cc_M_digit 33 = .ok (.iload_n 0, 1) := by decide +kernel
theorem d_M_digit_34 : decode cc_M_digit 34 = .ok (.bipush 87, 2) := by decide +kernel
theorem d_M_digit_36 : decode cc_M_digit 36 = .ok (.isub, 1) := by decide +kernel
theorem d_M_digit_37 : decode cc_M_digit 37 = .ok (.ireturn, 1) := by decide +kernel
theorem d_M_digit_38 : decode cc_M_digit 38 = .ok (.iload_n 1, 1) := by decide +kernel
theorem d_M_digit_39 : decode cc_M_digit 39 = .ok (.ifCond .eq 20, 3) := by decide +kernel
theorem d_M_digit_42 : decode cc_M_digit 42 = .ok (.iload_n 0, 1) := by decide +kernel
theorem d_M_digit_43 : decode cc_M_digit 43 = .ok (.bipush 65, 2) := by decide +kernel
theorem d_M_digit_45 : decode cc_M_digit 45 = .ok (.if_icmp .lt 14, 3) := by decide +kernel
theorem d_M_digit_48 : decode cc_M_digit 48 = .ok (.iload_n 0, 1) := by decide +kernel
theorem d_M_digit_49 : decode cc_M_digit 49 = .ok (.bipush 70, 2) := by decide +kernel
theorem d_M_digit_51 : decode cc_M_digit 51 = .ok (.if_icmp .gt 8, 3) := by decide +kernel
theorem d_M_digit_54 : decode cc_M_digit 54 = .ok (.iload_n 0, 1) := by decide +kernel
theorem d_M_digit_55 : decode cc_M_digit 55 = .ok (.bipush 55, 2) := by decide +kernel
theorem d_M_digit_57 : decode cc_M_digit 57 = .ok (.isub, 1) := by decide +kernel
theorem d_M_digit_58 : decode cc_M_digit 58 = .ok (.ireturn, 1) := by decide +kernel
theorem d_M_digit_59 : decode cc_M_digit 59 = .ok (.iconst (-1), 1) := by decide +kernel
theorem d_M_digit_60 : decode cc_M_digit 60 = .ok (.ireturn, 1) := by decide +kernel
theorem d_M_stops_0 : decode cc_M_stops 0 = .ok (.aload_n 0, 1) := by decide +kernel
theorem d_M_stops_1 : decode cc_M_stops 1 = .ok (.aload_n 0, 1) := by decide +kernel
theorem d_M_stops_2 : decode cc_M_stops 2 = .ok (.getfield 45, 3) := by decide +kernel
theorem d_M_stops_5 : decode cc_M_stops 5 = .ok (.ifCond .le 16, 3) := by decide +kernel
theorem d_M_stops_8 : decode cc_M_stops 8 = .ok (.iload_n 1, 1) := by decide +kernel
theorem d_M_stops_9 : decode cc_M_stops 9 = .ok (.aload_n 0, 1) := by decide +kernel
theorem d_M_stops_10 : decode cc_M_stops 10 = .ok (.invokevirtual 75, 3) := by decide +kernel
theorem d_M_stops_13 : decode cc_M_stops 13 = .ok (.if_icmp .lt 8, 3) := by decide +kernel
theorem d_M_stops_16 : decode cc_M_stops 16 = .ok (.bipush 7, 2) := by decide +kernel
theorem d_M_stops_18 : decode cc_M_stops 18 = .ok (.goto 4, 3) := by decide +kernel
theorem d_M_stops_21 : decode cc_M_stops 21 = .ok (.iconst 1, 1) := by decide +kernel
theorem d_M_stops_22 : decode cc_M_stops 22 = .ok (.iload_n 1, 1) := by decide +kernel
theorem d_M_stops_23 : decode cc_M_stops 23 = .ok (.invokevirtual 79, 3) := by decide +kernel
theorem d_M_stops_26 : decode cc_M_stops 26 = .ok (.return_, 1) := by decide +kernel
theorem d_M_look_0 : decode cc_M_look 0 = .ok (.aload_n 0, 1) := by decide +kernel
theorem d_M_look_1 : decode cc_M_look 1 = .ok (.iload_n 1, 1) := by decide +kernel
theorem d_M_look_2 : decode cc_M_look 2 = .ok (.iconst 1, 1) := by decide +kernel
theorem d_M_look_3 : decode cc_M_look 3 = .ok (.iadd, 1) := by decide +kernel
theorem d_M_look_4 : decode cc_M_look 4 = .ok (.invokevirtual 83, 3) := by decide +kernel
theorem d_M_look_7 : decode cc_M_look 7 = .ok (.istore_n 2, 1) := by decide +kernel
theorem d_M_look_8 : decode cc_M_look 8 = .ok (.iload_n 1, 1) := by decide +kernel
theorem d_M_look_9 : decode cc_M_look 9 = .ok (.iconst 2, 1) := by decide +kernel
theorem d_M_look_10 : decode cc_M_look 10 = .ok (.iadd, 1) := by decide +kernel
theorem d_M_look_11 : decode cc_M_look 11 = .ok (.istore_n 3, 1) := by decide +kernel
theorem d_M_look_12 : decode cc_M_look 12 = .ok (.iload_n 2, 1) := by decide +kernel
theorem d_M_look_13 : decode cc_M_look 13 = .ok (.bipush 97, 2) := by decide +kernel
theorem d_M_look_15 : decode cc_M_look 15 = .ok (.if_icmp .lt 25, 3) := by decide +kernel
theorem d_M_look_18 : decode cc_M_look 18 = .ok (.iload_n 2, 1) := by decide +kernel
theorem d_M_look_19 : decode cc_M_look 19 = .ok (.bipush 122, 2) := by decide +kernel
theorem d_M_look_21 : decode cc_M_look 21 = .ok (.if_icmp .gt 19, 3) := by decide +kernel
theorem d_M_look_24 : decode cc_M_look 24 = .ok (.aload_n 0, 1) := by decide +kernel
theorem d_M_look_25 : decode cc_M_look 25 = .ok (.iconst 1, 1) := by decide +kernel
theorem d_M_look_26 : decode cc_M_look 26 = .ok (.putfield 60, 3) := by decide +kernel
theorem d_M_look_29 : decode cc_M_look 29 = .ok (.aload_n 0, 1) := by decide +kernel
theorem d_M_look_30 : decode cc_M_look 30 = .ok (.iload_n 2, 1) := by decide +kernel
theorem d_M_look_31 : decode cc_M_look 31 = .ok (.bipush 97, 2) := by decide +kernel
theorem d_M_look_33 : decode cc_M_look 33 = .ok (.isub, 1) := by decide +kernel
theorem d_M_look_34 : decode cc_M_look 34 = .ok (.putfield 63, 3) := by decide +kernel
theorem d_M_look_37 : decode cc_M_look 37 = .ok (.goto 130, 3) := by decide +kernel
theorem d_M_look_40 : decode cc_M_look 40 = .ok (.iload_n 2, 1) := by decide +kernel
theorem d_M_look_41 : decode cc_M_look 41 = .ok (.bipush 35, 2) := by decide +kernel
theorem d_M_look_43 : decode cc_M_look 43 = .ok (.if_icmp .ne 116, 3) := by decide +kernel
theorem d_M_look_46 : decode cc_M_look 46 = .ok (.aload_n 0, 1) := by decide +kernel
theorem d_M_look_47 : decode cc_M_look 47 = .ok (.iconst 2, 1) := by decide +kernel
theorem d_M_look_48 : decode cc_M_look 48 = .ok (.putfield 60, 3) := by decide +kernel
theorem d_M_look_51 : decode cc_M_look 51 = .ok (.aload_n 0, 1) := by decide +kernel
theorem d_M_look_52 : decode cc_M_look 52 = .ok (.iload_n 3, 1) := by decide +kernel
theorem d_M_look_53 : decode cc_M_look 53 = .ok (.invokevirtual 83, 3) := by decide +kernel
theorem d_M_look_56 : decode cc_M_look 56 = .ok (.bipush 120, 2) := by decide +kernel
theorem d_M_look_58 : decode cc_M_look 58 = .ok (.if_icmp .ne 7, 3) := by decide +kernel
theorem d_M_look_61 : decode cc_M_look 61 = .ok (.iconst 1, 1) := by decide +kernel
theorem d_M_look_62 : decode cc_M_look 62 = .ok (.goto 4, 3) := by decide +kernel
theorem d_M_look_65 : decode cc_M_look 65 = .ok (.iconst 0, 1) := by decide +kernel
theorem d_M_look_66 : decode cc_M_look 66 = .ok (.istore 4, 2) := by decide +kernel
theorem d_M_look_68 : decode cc_M_look 68 = .ok (.iload 4, 2) := by decide +kernel
theorem d_M_look_70 : decode cc_M_look 70 = .ok (.ifCond .eq 6, 3) := by decide +kernel
theorem d_M_look_73 : decode cc_M_look 73 = .ok (.iinc 3 1, 3) := by decide +kernel
theorem d_M_look_76 : decode cc_M_look 76 = .ok (.iconst 0, 1) := by decide +kernel
theorem d_M_look_77 : decode cc_M_look 77 = .ok (.istore 5, 2) := by decide +kernel
theorem d_M_look_79 : decode cc_M_look 79 = .ok (.aload_n 0, 1) := by decide +kernel
theorem d_M_look_80 : decode cc_M_look 80 = .ok (.iconst 0, 1) := by decide +kernel
theorem d_M_look_81 : decode cc_M_look 81 = .ok (.putfield 63, 3) := by decide +kernel
theorem d_M_look_84 : decode cc_M_look 84 = .ok (.iload 5, 2) := by decide +kernel
theorem d_M_look_86 : decode cc_M_look 86 = .ok (.bipush 6, 2) := by decide +kernel
theorem d_M_look_88 : decode cc_M_look 88 = .ok (.if_icmp .ge 57, 3) := by decide +kernel
theorem d_M_look_91 : decode cc_M_look 91 = .ok (.aload_n 0, 1) := by decide +kernel
theorem d_M_look_92 : decode cc_M_look 92 = .ok (.iload_n 3, 1) := by decide +kernel
theorem d_M_look_93 : decode cc_M_look 93 = .ok (.invokevirtual 83, 3) := by decide +kernel
theorem d_M_look_96 : decode cc_M_look 96 = .ok (.iload 4, 2) := by decide +kernel
theorem d_M_look_98 : decode cc_M_look 98 = .ok (.invokestatic 87, 3) := by decide +kernel
theorem d_M_look_101 : decode cc_M_look 101 = .ok (.ifCond .lt 44, 3) := by decide +kernel
theorem d_M_look_104 : decode cc_M_look 104 = .ok (.aload_n 0, 1) := by decide +kernel
theorem d_M_look_105 : decode cc_M_look 105 = .ok (.aload_n 0, 1) := by decide +kernel
theorem d_M_look_106 : decode cc_M_look 106 = .ok (.getfield 63, 3) := by decide +kernel
theorem d_M_look_109 : decode cc_M_look 109 = .ok (.iload 4, 2) := by decide +kernel
theorem d_M_look_111 : decode cc_M_look 111 = .ok (.ifCond .eq 8, 3) := by decide +kernel
theorem d_M_look_114 : decode cc_M_look 114 = .ok (.bipush 16, 2) := by decide +kernel
theorem d_M_look_116 : decode cc_M_look 116 = .ok (.goto 5, 3) := by decide +kernel
theorem d_M_look_119 : decode cc_M_look 119 = .ok (.bipush 10, 2) := by decide +kernel
theorem d_M_look_121 : decode cc_M_look 121 = .ok (.imul, 1) := by decide +kernel
theorem d_M_look_122 : decode cc_M_look 122 = .ok (.aload_n 0, 1) := by decide +kernel
theorem d_M_look_123 : decode cc_M_look 123 = .ok (.iload_n 3, 1) := by decide +kernel
theorem d_M_look_124 : decode cc_M_look 124 = .ok (.invokevirtual 83, 3) := by decide +kernel
theorem d_M_look_127 : decode cc_M_look 127 = .ok (.iload 4, 2) := by decide +kernel
theorem d_M_look_129 : decode cc_M_look 129 = .ok (.invokestatic 87, 3) := by decide +kernel
theorem d_M_look_132 : decode cc_M_look 132 = .ok (.iadd, 1) := by decide +kernel
theorem d_M_look_133 : decode cc_M_look 133 = .ok (.putfield 63, 3) := by decide +kernel
theorem d_M_look_136 : decode cc_M_look 136 = .ok (.iinc 5 1, 3) := by decide +kernel
theorem d_M_look_139 : decode cc_M_look 139 = .ok (.iinc 3 1, 3) := by decide +kernel
theorem d_M_look_142 : decode cc_M_look 142 = .ok (.goto (-58), 3) := by decide +kernel
theorem d_M_look_145 : decode cc_M_look 145 = .ok (.iload 5, 2) := by decide +kernel
theorem d_M_look_147 : decode cc_M_look 147 = .ok (.ifCond .ne 9, 3) := by decide +kernel
theorem d_M_look_150 : decode cc_M_look 150 = .ok (.aload_n 0, 1) := by decide +kernel
theorem d_M_look_151 : decode cc_M_look 151 = .ok (.iload_n 3, 1) := by decide +kernel
theorem d_M_look_152 : decode cc_M_look 152 = .ok (.invokevirtual 91, 3) := by decide +kernel
theorem d_M_look_155 : decode cc_M_look 155 = .ok (.return_, 1) := by decide +kernel
theorem d_M_look_156 : decode cc_M_look 156 = .ok (.goto 11, 3) := by decide +kernel
theorem d_M_look_159 : decode cc_M_look 159 = .ok (.aload_n 0, 1) := by decide +kernel
theorem d_M_look_160 : decode cc_M_look 160 = .ok (.iload_n 1, 1) := by decide +kernel
theorem d_M_look_161 : decode cc_M_look 161 = .ok (.iconst 1, 1) := by decide +kernel
theorem d_M_look_162 : decode cc_M_look 162 = .ok (.iadd, 1) := by decide +kernel
theorem d_M_look_163 : decode cc_M_look 163 = .ok (.invokevirtual 91, 3) := by decide +kernel
theorem d_M_look_166 : decode cc_M_look 166 = .ok (.return_, 1) := by decide +kernel
theorem d_M_look_167 : decode cc_M_look 167 = .ok (.aload_n 0, 1) := by decide +kernel
theorem d_M_look_168 : decode cc_M_look 168 = .ok (.iload_n 3, 1) := by decide +kernel
theorem d_M_look_169 : decode cc_M_look 169 = .ok (.invokevirtual 83, 3) := by decide +kernel
theorem d_M_look_172 : decode cc_M_look 172 = .ok (.bipush 59, 2) := by decide +kernel
theorem d_M_look_174 : decode cc_M_look 174 = .ok (.if_icmp .eq 9, 3) := by decide +kernel
theorem d_M_look_177 : decode cc_M_look 177 = .ok (.aload_n 0, 1) := by decide +kernel
theorem d_M_look_178 : decode cc_M_look 178 = .ok (.iload_n 3, 1) := by decide +kernel
theorem d_M_look_179 : decode cc_M_look 179 = .ok (.invokevirtual 91, 3) := by decide +kernel
theorem d_M_look_182 : decode cc_M_look 182 = .ok (.return_, 1) := by decide +kernel
theorem d_M_look_183 : decode cc_M_look 183 = .ok (.aload_n 0, 1) := by decide +kernel
theorem d_M_look_184 : decode cc_M_look 184 = .ok (.iload_n 3, 1) := by decide +kernel
theorem d_M_look_185 : decode cc_M_look 185 = .ok (.iconst 1, 1) := by decide +kernel
theorem d_M_look_186 : decode cc_M_look 186 = .ok (.iadd, 1) := by decide +kernel
theorem d_M_look_187 : decode cc_M_look 187 = .ok (.putfield 66, 3) := by decide +kernel
theorem d_M_look_190 : decode cc_M_look 190 = .ok (.aload_n 0, 1) := by decide +kernel
theorem d_M_look_191 : decode cc_M_look 191 = .ok (.getfield 60, 3) := by decide +kernel
theorem d_M_look_194 : decode cc_M_look 194 = .ok (.iconst 2, 1) := by decide +kernel
theorem d_M_look_195 : decode cc_M_look 195 = .ok (.if_icmp .ne 19, 3) := by decide +kernel
theorem d_M_look_198 : decode cc_M_look 198 = .ok (.aload_n 0, 1) := by decide +kernel
theorem d_M_look_199 : decode cc_M_look 199 = .ok (.getfield 63, 3) := by decide +kernel
theorem d_M_look_202 : decode cc_M_look 202 = .ok (.invokestatic 95, 3) := by decide +kernel
theorem d_M_look_205 : decode cc_M_look 205 = .ok (.ifCond .ne 9, 3) := by decide +kernel
theorem d_M_look_208 : decode cc_M_look 208 = .ok (.aload_n 0, 1) := by decide +kernel
theorem d_M_look_209 : decode cc_M_look 209 = .ok (.iconst 5, 1) := by decide +kernel
theorem d_M_look_210 : decode cc_M_look 210 = .ok (.iload_n 1, 1) := by decide +kernel
theorem d_M_look_211 : decode cc_M_look 211 = .ok (.invokevirtual 79, 3) := by decide +kernel
theorem d_M_look_214 : decode cc_M_look 214 = .ok (.return_, 1) := by decide +kernel
theorem d_M_add_0 : decode cc_M_add 0 = .ok (.aload_n 0, 1) := by decide +kernel
theorem d_M_add_1 : decode cc_M_add 1 = .ok (.getfield 33, 3) := by decide +kernel
theorem d_M_add_4 : decode cc_M_add 4 = .ok (.sipush 300, 3) := by decide +kernel
theorem d_M_add_7 : decode cc_M_add 7 = .ok (.if_icmp .ne 11, 3) := by decide +kernel
theorem d_M_add_10 : decode cc_M_add 10 = .ok (.aload_n 0, 1) := by decide +kernel
theorem d_M_add_11 : decode cc_M_add 11 = .ok (.bipush 8, 2) := by decide +kernel
theorem d_M_add_13 : decode cc_M_add 13 = .ok (.iload_n 2, 1) := by decide +kernel
theorem d_M_add_14 : decode cc_M_add 14 = .ok (.invokevirtual 79, 3) := by decide +kernel
theorem d_M_add_17 : decode cc_M_add 17 = .ok (.return_, 1) := by decide +kernel
theorem d_M_add_18 : decode cc_M_add 18 = .ok (.aload_n 0, 1) := by decide +kernel
theorem d_M_add_19 : decode cc_M_add 19 = .ok (.getfield 30, 3) := by decide +kernel
theorem d_M_add_22 : decode cc_M_add 22 = .ok (.aload_n 0, 1) := by decide +kernel
theorem d_M_add_23 : decode cc_M_add 23 = .ok (.getfield 33, 3) := by decide +kernel
theorem d_M_add_26 : decode cc_M_add 26 = .ok (.iload_n 1, 1) := by decide +kernel
theorem d_M_add_27 : decode cc_M_add 27 = .ok (.iastore, 1) := by decide +kernel
theorem d_M_add_28 : decode cc_M_add 28 = .ok (.aload_n 0, 1) := by decide +kernel
theorem d_M_add_29 : decode cc_M_add 29 = .ok (.dup, 1) := by decide +kernel
theorem d_M_add_30 : decode cc_M_add 30 = .ok (.getfield 33, 3) := by decide +kernel
theorem d_M_add_33 : decode cc_M_add 33 = .ok (.iconst 1, 1) := by decide +kernel
theorem d_M_add_34 : decode cc_M_add 34 = .ok (.iadd, 1) := by decide +kernel
theorem d_M_add_35 : decode cc_M_add 35 = .ok (.putfield 33, 3) := by decide +kernel
theorem d_M_add_38 : decode cc_M_add 38 = .ok (.return_, 1) := by decide +kernel
theorem d_M_isOpen_0 : decode cc_M_isOpen 0 = .ok (.iconst 1, 1) := by decide +kernel
theorem d_M_isOpen_1 : decode cc_M_isOpen 1 = .ok (.istore_n 2, 1) := by decide +kernel
theorem d_M_isOpen_2 : decode cc_M_isOpen 2 = .ok (.iload_n 2, 1) := by decide +kernel
theorem d_M_isOpen_3 : decode cc_M_isOpen 3 = .ok (.aload_n 0, 1) := by decide +kernel
theorem d_M_isOpen_4 : decode cc_M_isOpen 4 = .ok (.getfield 45, 3) := by decide +kernel
theorem d_M_isOpen_7 : decode cc_M_isOpen 7 = .ok (.if_icmp .gt 21, 3) := by decide +kernel
theorem d_M_isOpen_10 : decode cc_M_isOpen 10 = .ok (.aload_n 0, 1) := by decide +kernel
theorem d_M_isOpen_11 : decode cc_M_isOpen 11 = .ok (.getfield 48, 3) := by decide +kernel
theorem d_M_isOpen_14 : decode cc_M_isOpen 14 = .ok (.iload_n 2, 1) := by decide +kernel
theorem d_M_isOpen_15 : decode cc_M_isOpen 15 = .ok (.iaload, 1) := by decide +kernel
theorem d_M_isOpen_16 : decode cc_M_isOpen 16 = .ok (.iload_n 1, 1) := by decide +kernel
theorem d_M_isOpen_17 : decode cc_M_isOpen 17 = .ok (.if_icmp .ne 5, 3) := by decide +kernel
theorem d_M_isOpen_20 : decode cc_M_isOpen 20 = .ok (.iconst 1, 1) := by decide +kernel
theorem d_M_isOpen_21 : decode cc_M_isOpen 21 = .ok (.ireturn, 1) := by decide +kernel
theorem d_M_isOpen_22 : decode cc_M_isOpen 22 = .ok (.iinc 2 1, 3) := by decide +kernel
theorem d_M_isOpen_25 : decode cc_M_isOpen 25 = .ok (.goto (-23), 3) := by decide +kernel
theorem d_M_isOpen_28 : decode cc_M_isOpen 28 = .ok (.iconst 0, 1) := by decide +kernel
theorem d_M_isOpen_29 : decode cc_M_isOpen 29 = .ok (.ireturn, 1) := by decide +kernel
theorem d_M_open_0 : decode cc_M_open 0 = .ok (.aload_n 0, 1) := by decide +kernel
theorem d_M_open_1 : decode cc_M_open 1 = .ok (.getfield 20, 3) := by decide +kernel
theorem d_M_open_4 : decode cc_M_open 4 = .ok (.iload_n 1, 1) := by decide +kernel
theorem d_M_open_5 : decode cc_M_open 5 = .ok (.baload, 1) := by decide +kernel
theorem d_M_open_6 : decode cc_M_open 6 = .ok (.ifCond .ne 12, 3) := by decide +kernel
theorem d_M_open_9 : decode cc_M_open 9 = .ok (.aload_n 0, 1) := by decide +kernel
theorem d_M_open_10 : decode cc_M_open 10 = .ok (.iconst 2, 1) := by decide +kernel
theorem d_M_open_11 : decode cc_M_open 11 = .ok (.iload_n 2, 1) := by decide +kernel
theorem d_M_open_12 : decode cc_M_open 12 = .ok (.invokevirtual 79, 3) := by decide +kernel
theorem d_M_open_15 : decode cc_M_open 15 = .ok (.goto 134, 3) := by decide +kernel
theorem d_M_open_18 : decode cc_M_open 18 = .ok (.aload_n 0, 1) := by decide +kernel
theorem d_M_open_19 : decode cc_M_open 19 = .ok (.iload_n 1, 1) := by decide +kernel
theorem d_M_open_20 : decode cc_M_open 20 = .ok (.invokevirtual 99, 3) := by decide +kernel
theorem d_M_open_23 : decode cc_M_open 23 = .ok (.ifCond .eq 12, 3) := by decide +kernel
theorem d_M_open_26 : decode cc_M_open 26 = .ok (.aload_n 0, 1) := by decide +kernel
theorem d_M_open_27 : decode cc_M_open 27 = .ok (.iconst 3, 1) := by decide +kernel
theorem d_M_open_28 : decode cc_M_open 28 = .ok (.iload_n 2, 1) := by decide +kernel
theorem d_M_open_29 : decode cc_M_open 29 = .ok (.invokevirtual 79, 3) := by decide +kernel
theorem d_M_open_32 : decode cc_M_open 32 = .ok (.goto 117, 3) := by decide +kernel
theorem d_M_open_35 : decode cc_M_open 35 = .ok (.aload_n 0, 1) := by decide +kernel
theorem d_M_open_36 : decode cc_M_open 36 = .ok (.getfield 39, 3) := by decide +kernel
theorem d_M_open_39 : decode cc_M_open 39 = .ok (.aload_n 0, 1) := by decide +kernel
theorem d_M_open_40 : decode cc_M_open 40 = .ok (.getfield 24, 3) := by decide +kernel
theorem d_M_open_43 : decode cc_M_open 43 = .ok (.iload_n 1, 1) := by decide +kernel
theorem d_M_open_44 : decode cc_M_open 44 = .ok (.iaload, 1) := by decide +kernel
theorem d_M_open_45 : decode cc_M_open 45 = .ok (.iadd, 1) := by decide +kernel
theorem d_M_open_46 : decode cc_M_open 46 = .ok (.iload_n 3, 1) := by decide +kernel
theorem d_M_open_47 : decode cc_M_open 47 = .ok (.if_icmp .le 13, 3) := by decide +kernel
theorem d_M_open_50 : decode cc_M_open 50 = .ok (.aload_n 0, 1) := by decide +kernel
theorem d_M_open_51 : decode cc_M_open 51 = .ok (.bipush 6, 2) := by decide +kernel
theorem d_M_open_53 : decode cc_M_open 53 = .ok (.iload_n 2, 1) := by decide +kernel
theorem d_M_open_54 : decode cc_M_open 54 = .ok (.invokevirtual 79, 3) := by decide +kernel
theorem d_M_open_57 : decode cc_M_open 57 = .ok (.goto 92, 3) := by decide +kernel
theorem d_M_open_60 : decode cc_M_open 60 = .ok (.aload_n 0, 1) := by decide +kernel
theorem d_M_open_61 : decode cc_M_open 61 = .ok (.getfield 45, 3) := by decide +kernel
theorem d_M_open_64 : decode cc_M_open 64 = .ok (.ifCond .ne 8, 3) := by decide +kernel
theorem d_M_open_67 : decode cc_M_open 67 = .ok (.aload_n 0, 1) := by decide +kernel
theorem d_M_open_68 : decode cc_M_open 68 = .ok (.iload_n 2, 1) := by decide +kernel
theorem d_M_open_69 : decode cc_M_open 69 = .ok (.putfield 57, 3) := by decide +kernel
theorem d_M_open_72 : decode cc_M_open 72 = .ok (.aload_n 0, 1) := by decide +kernel
theorem d_M_open_73 : decode cc_M_open 73 = .ok (.getfield 51, 3) := by decide +kernel
theorem d_M_open_76 : decode cc_M_open 76 = .ok (.aload_n 0, 1) := by decide +kernel
theorem d_M_open_77 : decode cc_M_open 77 = .ok (.getfield 45, 3) := by decide +kernel
theorem d_M_open_80 : decode cc_M_open 80 = .ok (.aload_n 0, 1) := by decide +kernel
theorem d_M_open_81 : decode cc_M_open 81 = .ok (.getfield 66, 3) := by decide +kernel
theorem d_M_open_84 : decode cc_M_open 84 = .ok (.iastore, 1) := by decide +kernel
theorem d_M_open_85 : decode cc_M_open 85 = .ok (.aload_n 0, 1) := by decide +kernel
theorem d_M_open_86 : decode cc_M_open 86 = .ok (.dup, 1) := by decide +kernel
theorem d_M_open_87 : decode cc_M_open 87 = .ok (.getfield 39, 3) := by decide +kernel
theorem d_M_open_90 : decode cc_M_open 90 = .ok (.aload_n 0, 1) := by decide +kernel
theorem d_M_open_91 : decode cc_M_open 91 = .ok (.getfield 24, 3) := by decide +kernel
theorem d_M_open_94 : decode cc_M_open 94 = .ok (.iload_n 1, 1) := by decide +kernel
theorem d_M_open_95 : decode cc_M_open 95 = .ok (.iaload, 1) := by decide +kernel
theorem d_M_open_96 : decode cc_M_open 96 = .ok (.iadd, 1) := by decide +kernel
theorem d_M_open_97 : decode cc_M_open 97 = .ok (.putfield 39, 3) := by decide +kernel
theorem d_M_open_100 : decode cc_M_open 100 = .ok (.aload_n 0, 1) := by decide +kernel
theorem d_M_open_101 : decode cc_M_open 101 = .ok (.dup, 1) := by decide +kernel
theorem d_M_open_102 : decode cc_M_open 102 = .ok (.getfield 45, 3) := by decide +kernel
theorem d_M_open_105 : decode cc_M_open 105 = .ok (.iconst 1, 1) := by decide +kernel
theorem d_M_open_106 : decode cc_M_open 106 = .ok (.iadd, 1) := by decide +kernel
theorem d_M_open_107 : decode cc_M_open 107 = .ok (.putfield 45, 3) := by decide +kernel
theorem d_M_open_110 : decode cc_M_open 110 = .ok (.aload_n 0, 1) := by decide +kernel
theorem d_M_open_111 : decode cc_M_open 111 = .ok (.getfield 48, 3) := by decide +kernel
theorem d_M_open_114 : decode cc_M_open 114 = .ok (.aload_n 0, 1) := by decide +kernel
theorem d_M_open_115 : decode cc_M_open 115 = .ok (.getfield 45, 3) := by decide +kernel
theorem d_M_open_118 : decode cc_M_open 118 = .ok (.iload_n 1, 1) := by decide +kernel
theorem d_M_open_119 : decode cc_M_open 119 = .ok (.iastore, 1) := by decide +kernel
theorem d_M_open_120 : decode cc_M_open 120 = .ok (.aload_n 0, 1) := by decide +kernel
theorem d_M_open_121 : decode cc_M_open 121 = .ok (.getfield 51, 3) := by decide +kernel
theorem d_M_open_124 : decode cc_M_open 124 = .ok (.aload_n 0, 1) := by decide +kernel
theorem d_M_open_125 : decode cc_M_open 125 = .ok (.getfield 45, 3) := by decide +kernel
theorem d_M_open_128 : decode cc_M_open 128 = .ok (.iconst 0, 1) := by decide +kernel
theorem d_M_open_129 : decode cc_M_open 129 = .ok (.iastore, 1) := by decide +kernel
theorem d_M_open_130 : decode cc_M_open 130 = .ok (.aload_n 0, 1) := by decide +kernel
theorem d_M_open_131 : decode cc_M_open 131 = .ok (.getfield 45, 3) := by decide +kernel
theorem d_M_open_134 : decode cc_M_open 134 = .ok (.aload_n 0, 1) := by decide +kernel
theorem d_M_open_135 : decode cc_M_open 135 = .ok (.getfield 42, 3) := by decide +kernel
theorem d_M_open_138 : decode cc_M_open 138 = .ok (.if_icmp .le 11, 3) := by decide +kernel
theorem d_M_open_141 : decode cc_M_open 141 = .ok (.aload_n 0, 1) := by decide +kernel
theorem d_M_open_142 : decode cc_M_open 142 = .ok (.aload_n 0, 1) := by decide +kernel
theorem d_M_open_143 : decode cc_M_open 143 = .ok (.getfield 45, 3) := by decide +kernel
theorem d_M_open_146 : decode cc_M_open 146 = .ok (.putfield 42, 3) := by decide +kernel
theorem d_M_open_149 : decode cc_M_open 149 = .ok (.return_, 1) := by decide +kernel
theorem d_M_step_0 : decode cc_M_step 0 = .ok (.aload_n 0, 1) := by decide +kernel
theorem d_M_step_1 : decode cc_M_step 1 = .ok (.getfield 51, 3) := by decide +kernel
theorem d_M_step_4 : decode cc_M_step 4 = .ok (.aload_n 0, 1) := by decide +kernel
theorem d_M_step_5 : decode cc_M_step 5 = .ok (.getfield 45, 3) := by decide +kernel
theorem d_M_step_8 : decode cc_M_step 8 = .ok (.iaload, 1) := by decide +kernel
theorem d_M_step_9 : decode cc_M_step 9 = .ok (.istore_n 2, 1) := by decide +kernel
theorem d_M_step_10 : decode cc_M_step 10 = .ok (.aload_n 0, 1) := by decide +kernel
theorem d_M_step_11 : decode cc_M_step 11 = .ok (.iload_n 2, 1) := by decide +kernel
theorem d_M_step_12 : decode cc_M_step 12 = .ok (.invokevirtual 83, 3) := by decide +kernel
theorem d_M_step_15 : decode cc_M_step 15 = .ok (.istore_n 3, 1) := by decide +kernel
theorem d_M_step_16 : decode cc_M_step 16 = .ok (.iload_n 3, 1) := by decide +kernel
theorem d_M_step_17 : decode cc_M_step 17 = .ok (.bipush 38, 2) := by decide +kernel
theorem d_M_step_19 : decode cc_M_step 19 = .ok (.if_icmp .ne 68, 3) := by decide +kernel
theorem d_M_step_22 : decode cc_M_step 22 = .ok (.aload_n 0, 1) := by decide +kernel
theorem d_M_step_23 : decode cc_M_step 23 = .ok (.iload_n 2, 1) := by decide +kernel
theorem d_M_step_24 : decode cc_M_step 24 = .ok (.invokevirtual 102, 3) := by decide +kernel
theorem d_M_step_27 : decode cc_M_step 27 = .ok (.aload_n 0, 1) := by decide +kernel
theorem d_M_step_28 : decode cc_M_step 28 = .ok (.getfield 54, 3) := by decide +kernel
theorem d_M_step_31 : decode cc_M_step 31 = .ok (.ifCond .ne 24, 3) := by decide +kernel
theorem d_M_step_34 : decode cc_M_step 34 = .ok (.aload_n 0, 1) := by decide +kernel
theorem d_M_step_35 : decode cc_M_step 35 = .ok (.getfield 60, 3) := by decide +kernel
theorem d_M_step_38 : decode cc_M_step 38 = .ok (.iconst 1, 1) := by decide +kernel
theorem d_M_step_39 : decode cc_M_step 39 = .ok (.if_icmp .ne 16, 3) := by decide +kernel
theorem d_M_step_42 : decode cc_M_step 42 = .ok (.aload_n 0, 1) := by decide +kernel
theorem d_M_step_43 : decode cc_M_step 43 = .ok (.aload_n 0, 1) := by decide +kernel
theorem d_M_step_44 : decode cc_M_step 44 = .ok (.getfield 63, 3) := by decide +kernel
theorem d_M_step_47 : decode cc_M_step 47 = .ok (.iload_n 2, 1) := by decide +kernel
theorem d_M_step_48 : decode cc_M_step 48 = .ok (.iload_n 1, 1) := by decide +kernel
theorem d_M_step_49 : decode cc_M_step 49 = .ok (.invokevirtual 105, 3) := by decide +kernel
theorem d_M_step_52 : decode cc_M_step 52 = .ok (.goto 95, 3) := by decide +kernel
theorem d_M_step_55 : decode cc_M_step 55 = .ok (.aload_n 0, 1) := by decide +kernel
theorem d_M_step_56 : decode cc_M_step 56 = .ok (.getfield 54, 3) := by decide +kernel
theorem d_M_step_59 : decode cc_M_step 59 = .ok (.ifCond .ne 88, 3) := by decide +kernel
theorem d_M_step_62 : decode cc_M_step 62 = .ok (.aload_n 0, 1) := by decide +kernel
theorem d_M_step_63 : decode cc_M_step 63 = .ok (.aload_n 0, 1) := by decide +kernel
theorem d_M_step_64 : decode cc_M_step 64 = .ok (.getfield 63, 3) := by decide +kernel
theorem d_M_step_67 : decode cc_M_step 67 = .ok (.iload_n 2, 1) := by decide +kernel
theorem d_M_step_68 : decode cc_M_step 68 = .ok (.invokevirtual 109, 3) := by decide +kernel
theorem d_M_step_71 : decode cc_M_step 71 = .ok (.aload_n 0, 1) := by decide +kernel
theorem d_M_step_72 : decode cc_M_step 72 = .ok (.getfield 51, 3) := by decide +kernel
theorem d_M_step_75 : decode cc_M_step 75 = .ok (.aload_n 0, 1) := by decide +kernel
theorem d_M_step_76 : decode cc_M_step 76 = .ok (.getfield 45, 3) := by decide +kernel
theorem d_M_step_79 : decode cc_M_step 79 = .ok (.aload_n 0, 1) := by decide +kernel
theorem d_M_step_80 : decode cc_M_step 80 = .ok (.getfield 66, 3) := by decide +kernel
theorem d_M_step_83 : decode cc_M_step 83 = .ok (.iastore, 1) := by decide +kernel
theorem d_M_step_84 : decode cc_M_step 84 = .ok (.goto 63, 3) := by decide +kernel
theorem d_M_step_87 : decode cc_M_step 87 = .ok (.iload_n 3, 1) := by decide +kernel
theorem d_M_step_88 : decode cc_M_step 88 = .ok (.bipush 60, 2) := by decide +kernel
theorem d_M_step_90 : decode cc_M_step 90 = .ok (.if_icmp .ne 12, 3) := by decide +kernel
theorem d_M_step_93 : decode cc_M_step 93 = .ok (.aload_n 0, 1) := by decide +kernel
theorem d_M_step_94 : decode cc_M_step 94 = .ok (.iconst 4, 1) := by decide +kernel
theorem d_M_step_95 : decode cc_M_step 95 = .ok (.iload_n 2, 1) := by decide +kernel
theorem d_M_step_96 : decode cc_M_step 96 = .ok (.invokevirtual 79, 3) := by decide +kernel
theorem d_M_step_99 : decode cc_M_step 99 = .ok (.goto 48, 3) := by decide +kernel
theorem d_M_step_102 : decode cc_M_step 102 = .ok (.iload_n 3, 1) := by decide +kernel
theorem d_M_step_103 : decode cc_M_step 103 = .ok (.invokestatic 95, 3) := by decide +kernel
theorem d_M_step_106 : decode cc_M_step 106 = .ok (.ifCond .ne 12, 3) := by decide +kernel
theorem d_M_step_109 : decode cc_M_step 109 = .ok (.aload_n 0, 1) := by decide +kernel
theorem d_M_step_110 : decode cc_M_step 110 = .ok (.iconst 1, 1) := by decide +kernel
theorem d_M_step_111 : decode cc_M_step 111 = .ok (.iload_n 2, 1) := by decide +kernel
theorem d_M_step_112 : decode cc_M_step 112 = .ok (.invokevirtual 79, 3) := by decide +kernel
theorem d_M_step_115 : decode cc_M_step 115 = .ok (.goto 32, 3) := by decide +kernel
theorem d_M_step_118 : decode cc_M_step 118 = .ok (.aload_n 0, 1) := by decide +kernel
theorem d_M_step_119 : decode cc_M_step 119 = .ok (.iload_n 3, 1) := by decide +kernel
theorem d_M_step_120 : decode cc_M_step 120 = .ok (.bipush 32, 2) := by decide +kernel
theorem d_M_step_122 : decode cc_M_step 122 = .ok (.if_icmp .ge 8, 3) := by decide +kernel
theorem d_M_step_125 : decode cc_M_step 125 = .ok (.bipush 32, 2) := by decide +kernel
theorem d_M_step_127 : decode cc_M_step 127 = .ok (.goto 4, 3) := by decide +kernel
theorem d_M_step_130 : decode cc_M_step 130 = .ok (.iload_n 3, 1) := by decide +kernel
theorem d_M_step_131 : decode cc_M_step 131 = .ok (.iload_n 2, 1) := by decide +kernel
theorem d_M_step_132 : decode cc_M_step 132 = .ok (.invokevirtual 109, 3) := by decide +kernel
theorem d_M_step_135 : decode cc_M_step 135 = .ok (.aload_n 0, 1) := by decide +kernel
theorem d_M_step_136 : decode cc_M_step 136 = .ok (.getfield 51, 3) := by decide +kernel
theorem d_M_step_139 : decode cc_M_step 139 = .ok (.aload_n 0, 1) := by decide +kernel
theorem d_M_step_140 : decode cc_M_step 140 = .ok (.getfield 45, 3) := by decide +kernel
theorem d_M_step_143 : decode cc_M_step 143 = .ok (.iload_n 2, 1) := by decide +kernel
theorem d_M_step_144 : decode cc_M_step 144 = .ok (.iconst 1, 1) := by decide +kernel
theorem d_M_step_145 : decode cc_M_step 145 = .ok (.iadd, 1) := by decide +kernel
theorem d_M_step_146 : decode cc_M_step 146 = .ok (.iastore, 1) := by decide +kernel
theorem d_M_step_147 : decode cc_M_step 147 = .ok (.return_, 1) := by decide +kernel
theorem d_M_trim_0 : decode cc_M_trim 0 = .ok (.iconst 0, 1) := by decide +kernel
theorem d_M_trim_1 : decode cc_M_trim 1 = .ok (.istore_n 1, 1) := by decide +kernel
theorem d_M_trim_2 : decode cc_M_trim 2 = .ok (.iconst 0, 1) := by decide +kernel
theorem d_M_trim_3 : decode cc_M_trim 3 = .ok (.istore_n 2, 1) := by decide +kernel
theorem d_M_trim_4 : decode cc_M_trim 4 = .ok (.iload_n 2, 1) := by decide +kernel
theorem d_M_trim_5 : decode cc_M_trim 5 = .ok (.aload_n 0, 1) := by decide +kernel
theorem d_M_trim_6 : decode cc_M_trim 6 = .ok (.getfield 33, 3) := by decide +kernel
theorem d_M_trim_9 : decode cc_M_trim 9 = .ok (.if_icmp .ge 62, 3) := by decide +kernel
theorem d_M_trim_12 : decode cc_M_trim 12 = .ok (.aload_n 0, 1) := by decide +kernel
theorem d_M_trim_13 : decode cc_M_trim 13 = .ok (.getfield 30, 3) := by decide +kernel
theorem d_M_trim_16 : decode cc_M_trim 16 = .ok (.iload_n 2, 1) := by decide +kernel
theorem d_M_trim_17 : decode cc_M_trim 17 = .ok (.iaload, 1) := by decide +kernel
theorem d_M_trim_18 : decode cc_M_trim 18 = .ok (.bipush 32, 2) := by decide +kernel
theorem d_M_trim_20 : decode cc_M_trim 20 = .ok (.if_icmp .ne 7, 3) := by decide +kernel
theorem d_M_trim_23 : decode cc_M_trim 23 = .ok (.iconst 1, 1) := by decide +kernel
theorem d_M_trim_24 : decode cc_M_trim 24 = .ok (.goto 4, 3) := by decide +kernel
theorem d_M_trim_27 : decode cc_M_trim 27 = .ok (.iconst 0, 1) := by decide +kernel
theorem d_M_trim_28 : decode cc_M_trim 28 = .ok (.istore_n 3, 1) := by decide +kernel
theorem d_M_trim_29 : decode cc_M_trim 29 = .ok (.iload_n 3, 1) := by decide +kernel
theorem d_M_trim_30 : decode cc_M_trim 30 = .ok (.ifCond .eq 20, 3) := by decide +kernel
theorem d_M_trim_33 : decode cc_M_trim 33 = .ok (.iload_n 1, 1) := by decide +kernel
theorem d_M_trim_34 : decode cc_M_trim 34 = .ok (.ifCond .le 31, 3) := by decide +kernel
theorem d_M_trim_37 : decode cc_M_trim 37 = .ok (.aload_n 0, 1) := by decide +kernel
theorem d_M_trim_38 : decode cc_M_trim 38 = .ok (.getfield 30, 3) := by decide +kernel
theorem d_M_trim_41 : decode cc_M_trim 41 = .ok (.iload_n 1, 1) := by decide +kernel
theorem d_M_trim_42 : decode cc_M_trim 42 = .ok (.iconst 1, 1) := by decide +kernel
theorem d_M_trim_43 : decode cc_M_trim 43 = .ok (.isub, 1) := by decide +kernel
theorem d_M_trim_44 : decode cc_M_trim 44 = .ok (.iaload, 1) := by decide +kernel
theorem d_M_trim_45 : decode cc_M_trim 45 = .ok (.bipush 32, 2) := by decide +kernel
theorem d_M_trim_47 : decode cc_M_trim 47 = .ok (.if_icmp .eq 18, 3) := by decide +kernel
theorem d_M_trim_50 : decode cc_M_trim 50 = .ok (.aload_n 0, 1) := by decide +kernel
theorem d_M_trim_51 : decode cc_M_trim 51 = .ok (.getfield 30, 3) := by decide +kernel
theorem d_M_trim_54 : decode cc_M_trim 54 = .ok (.iload_n 1, 1) := by decide +kernel
theorem d_M_trim_55 : decode cc_M_trim 55 = .ok (.aload_n 0, 1) := by decide +kernel
theorem d_M_trim_56 : decode cc_M_trim 56 = .ok (.getfield 30, 3) := by decide +kernel
theorem d_M_trim_59 : decode cc_M_trim 59 = .ok (.iload_n 2, 1) := by decide +kernel
theorem d_M_trim_60 : decode cc_M_trim 60 = .ok (.iaload, 1) := by decide +kernel
theorem d_M_trim_61 : decode cc_M_trim 61 = .ok (.iastore, 1) := by decide +kernel
theorem d_M_trim_62 : decode cc_M_trim 62 = .ok (.iinc 1 1, 3) := by decide +kernel
theorem d_M_trim_65 : decode cc_M_trim 65 = .ok (.iinc 2 1, 3) := by decide +kernel
theorem d_M_trim_68 : decode cc_M_trim 68 = .ok (.goto (-64), 3) := by decide +kernel
theorem d_M_trim_71 : decode cc_M_trim 71 = .ok (.iload_n 1, 1) := by decide +kernel
theorem d_M_trim_72 : decode cc_M_trim 72 = .ok (.ifCond .le 19, 3) := by decide +kernel
theorem d_M_trim_75 : decode cc_M_trim 75 = .ok (.aload_n 0, 1) := by decide +kernel
theorem d_M_trim_76 : decode cc_M_trim 76 = .ok (.getfield 30, 3) := by decide +kernel
theorem d_M_trim_79 : decode cc_M_trim 79 = .ok (.iload_n 1, 1) := by decide +kernel
theorem d_M_trim_80 : decode cc_M_trim 80 = .ok (.iconst 1, 1) := by decide +kernel
theorem d_M_trim_81 : decode cc_M_trim 81 = .ok (.isub, 1) := by decide +kernel
theorem d_M_trim_82 : decode cc_M_trim 82 = .ok (.iaload, 1) := by decide +kernel
theorem d_M_trim_83 : decode cc_M_trim 83 = .ok (.bipush 32, 2) := by decide +kernel
theorem d_M_trim_85 : decode cc_M_trim 85 = .ok (.if_icmp .ne 6, 3) := by decide +kernel
theorem d_M_trim_88 : decode cc_M_trim 88 = .ok (.iinc 1 (-1), 3) := by decide +kernel
theorem d_M_trim_91 : decode cc_M_trim 91 = .ok (.aload_n 0, 1) := by decide +kernel
theorem d_M_trim_92 : decode cc_M_trim 92 = .ok (.iload_n 1, 1) := by decide +kernel
theorem d_M_trim_93 : decode cc_M_trim 93 = .ok (.putfield 33, 3) := by decide +kernel
theorem d_M_trim_96 : decode cc_M_trim 96 = .ok (.return_, 1) := by decide +kernel
theorem d_M_eight_0 : decode cc_M_eight 0 = .ok (.lconst 0, 1) := by decide +kernel
theorem d_M_eight_1 : decode cc_M_eight 1 = .ok (.lstore 4, 2) := by decide +kernel
theorem d_M_eight_3 : decode cc_M_eight 3 = .ok (.iconst 0, 1) := by decide +kernel
theorem d_M_eight_4 : decode cc_M_eight 4 = .ok (.istore 6, 2) := by decide +kernel
theorem d_M_eight_6 : decode cc_M_eight 6 = .ok (.iload 6, 2) := by decide +kernel
theorem d_M_eight_8 : decode cc_M_eight 8 = .ok (.bipush 8, 2) := by decide +kernel
theorem d_M_eight_10 : decode cc_M_eight 10 = .ok (.if_icmp .ge 38, 3) := by decide +kernel
theorem d_M_eight_13 : decode cc_M_eight 13 = .ok (.lload 4, 2) := by decide +kernel
theorem d_M_eight_15 : decode cc_M_eight 15 = .ok (.bipush 8, 2) := by decide +kernel
theorem d_M_eight_17 : decode cc_M_eight 17 = .ok (.lshl, 1) := by decide +kernel
theorem d_M_eight_18 : decode cc_M_eight 18 = .ok (.iload_n 3, 1) := by decide +kernel
theorem d_M_eight_19 : decode cc_M_eight 19 = .ok (.iload_n 2, 1) := by decide +kernel
theorem d_M_eight_20 : decode cc_M_eight 20 = .ok (.iload 6, 2) := by decide +kernel
theorem d_M_eight_22 : decode cc_M_eight 22 = .ok (.isub, 1) := by decide +kernel
theorem d_M_eight_23 : decode cc_M_eight 23 = .ok (.if_icmp .ge 14, 3) := by decide +kernel
theorem d_M_eight_26 : decode cc_M_eight 26 = .ok (.aload_n 0, 1) := by decide +kernel
theorem d_M_eight_27 : decode cc_M_eight 27 = .ok (.iload_n 1, 1) := by decide +kernel
theorem d_M_eight_28 : decode cc_M_eight 28 = .ok (.iload_n 3, 1) := by decide +kernel
theorem d_M_eight_29 : decode cc_M_eight 29 = .ok (.iadd, 1) := by decide +kernel
theorem d_M_eight_30 : decode cc_M_eight 30 = .ok (.iload 6, 2) := by decide +kernel
theorem d_M_eight_32 : decode cc_M_eight 32 = .ok (.iadd, 1) := by decide +kernel
theorem d_M_eight_33 : decode cc_M_eight 33 = .ok (.iaload, 1) := by decide +kernel
theorem d_M_eight_34 : decode cc_M_eight 34 = .ok (.goto 4, 3) := by decide +kernel
theorem d_M_eight_37 : decode cc_M_eight 37 = .ok (.iconst 0, 1) := by decide +kernel
theorem d_M_eight_38 : decode cc_M_eight 38 = .ok (.i2l, 1) := by decide +kernel
theorem d_M_eight_39 : decode cc_M_eight 39 = .ok (.lor, 1) := by decide +kernel
theorem d_M_eight_40 : decode cc_M_eight 40 = .ok (.lstore 4, 2) := by decide +kernel
theorem d_M_eight_42 : decode cc_M_eight 42 = .ok (.iinc 6 1, 3) := by decide +kernel
theorem d_M_eight_45 : decode cc_M_eight 45 = .ok (.goto (-39), 3) := by decide +kernel
theorem d_M_eight_48 : decode cc_M_eight 48 = .ok (.lload 4, 2) := by decide +kernel
theorem d_M_eight_50 : decode cc_M_eight 50 = .ok (.lreturn, 1) := by decide +kernel
theorem d_M_put_0 : decode cc_M_put 0 = .ok (.aload_n 0, 1) := by decide +kernel
theorem d_M_put_1 : decode cc_M_put 1 = .ok (.iconst 0, 1) := by decide +kernel
theorem d_M_put_2 : decode cc_M_put 2 = .ok (.putfield 7, 3) := by decide +kernel
theorem d_M_put_5 : decode cc_M_put 5 = .ok (.iload_n 3, 1) := by decide +kernel
theorem d_M_put_6 : decode cc_M_put 6 = .ok (.iconst 1, 1) := by decide +kernel
theorem d_M_put_7 : decode cc_M_put 7 = .ok (.if_icmp .lt 21, 3) := by decide +kernel
theorem d_M_put_10 : decode cc_M_put 10 = .ok (.iload_n 3, 1) := by decide +kernel
theorem d_M_put_11 : decode cc_M_put 11 = .ok (.bipush 8, 2) := by decide +kernel
theorem d_M_put_13 : decode cc_M_put 13 = .ok (.if_icmp .gt 15, 3) := by decide +kernel
theorem d_M_put_16 : decode cc_M_put 16 = .ok (.aload_n 0, 1) := by decide +kernel
theorem d_M_put_17 : decode cc_M_put 17 = .ok (.getfield 17, 3) := by decide +kernel
theorem d_M_put_20 : decode cc_M_put 20 = .ok (.iload_n 3, 1) := by decide +kernel
theorem d_M_put_21 : decode cc_M_put 21 = .ok (.iadd, 1) := by decide +kernel
theorem d_M_put_22 : decode cc_M_put 22 = .ok (.sipush 200, 3) := by decide +kernel
theorem d_M_put_25 : decode cc_M_put 25 = .ok (.if_icmp .le 5, 3) := by decide +kernel
theorem d_M_put_28 : decode cc_M_put 28 = .ok (.iconst 0, 1) := by decide +kernel
theorem d_M_put_29 : decode cc_M_put 29 = .ok (.ireturn, 1) := by decide +kernel
theorem d_M_put_30 : decode cc_M_put 30 = .ok (.iload_n 3, 1) := by decide +kernel
theorem d_M_put_31 : decode cc_M_put 31 = .ok (.iconst 1, 1) := by decide +kernel
theorem d_M_put_32 : decode cc_M_put 32 = .ok (.isub, 1) := by decide +kernel
theorem d_M_put_33 : decode cc_M_put 33 = .ok (.istore 4, 2) := by decide +kernel
theorem d_M_put_35 : decode cc_M_put 35 = .ok (.iload 4, 2) := by decide +kernel
theorem d_M_put_37 : decode cc_M_put 37 = .ok (.ifCond .lt 40, 3) := by decide +kernel
theorem d_M_put_40 : decode cc_M_put 40 = .ok (.aload_n 0, 1) := by decide +kernel
theorem d_M_put_41 : decode cc_M_put 41 = .ok (.getfield 13, 3) := by decide +kernel
theorem d_M_put_44 : decode cc_M_put 44 = .ok (.aload_n 0, 1) := by decide +kernel
theorem d_M_put_45 : decode cc_M_put 45 = .ok (.getfield 17, 3) := by decide +kernel
theorem d_M_put_48 : decode cc_M_put 48 = .ok (.lload_n 1, 1) := by decide +kernel
theorem d_M_put_49 : decode cc_M_put 49 = .ok (.bipush 8, 2) := by decide +kernel
theorem d_M_put_51 : decode cc_M_put 51 = .ok (.iload 4, 2) := by decide +kernel
theorem d_M_put_53 : decode cc_M_put 53 = .ok (.imul, 1) := by decide +kernel
theorem d_M_put_54 : decode cc_M_put 54 = .ok (.lushr, 1) := by decide +kernel
theorem d_M_put_55 : decode cc_M_put 55 = .ok (.l2i, 1) := by decide +kernel
theorem d_M_put_56 : decode cc_M_put 56 = .ok (.sipush 255, 3) := by decide +kernel
theorem d_M_put_59 : decode cc_M_put 59 = .ok (.iand, 1) := by decide +kernel
theorem d_M_put_60 : decode cc_M_put 60 = .ok (.iastore, 1) := by decide +kernel
theorem d_M_put_61 : decode cc_M_put 61 = .ok (.aload_n 0, 1) := by decide +kernel
theorem d_M_put_62 : decode cc_M_put 62 = .ok (.dup, 1) := by decide +kernel
theorem d_M_put_63 : decode cc_M_put 63 = .ok (.getfield 17, 3) := by decide +kernel
theorem d_M_put_66 : decode cc_M_put 66 = .ok (.iconst 1, 1) := by decide +kernel
theorem d_M_put_67 : decode cc_M_put 67 = .ok (.iadd, 1) := by decide +kernel
theorem d_M_put_68 : decode cc_M_put 68 = .ok (.putfield 17, 3) := by decide +kernel
theorem d_M_put_71 : decode cc_M_put 71 = .ok (.iinc 4 (-1), 3) := by decide +kernel
theorem d_M_put_74 : decode cc_M_put 74 = .ok (.goto (-39), 3) := by decide +kernel
theorem d_M_put_77 : decode cc_M_put 77 = .ok (.iconst 1, 1) := by decide +kernel
theorem d_M_put_78 : decode cc_M_put 78 = .ok (.ireturn, 1) := by decide +kernel
theorem d_M_begin_0 : decode cc_M_begin 0 = .ok (.aload_n 0, 1) := by decide +kernel
theorem d_M_begin_1 : decode cc_M_begin 1 = .ok (.iconst 0, 1) := by decide +kernel
theorem d_M_begin_2 : decode cc_M_begin 2 = .ok (.putfield 54, 3) := by decide +kernel
theorem d_M_begin_5 : decode cc_M_begin 5 = .ok (.aload_n 0, 1) := by decide +kernel
theorem d_M_begin_6 : decode cc_M_begin 6 = .ok (.iconst (-1), 1) := by decide +kernel
theorem d_M_begin_7 : decode cc_M_begin 7 = .ok (.putfield 36, 3) := by decide +kernel
theorem d_M_begin_10 : decode cc_M_begin 10 = .ok (.aload_n 0, 1) := by decide +kernel
theorem d_M_begin_11 : decode cc_M_begin 11 = .ok (.iconst 0, 1) := by decide +kernel
theorem d_M_begin_12 : decode cc_M_begin 12 = .ok (.putfield 45, 3) := by decide +kernel
theorem d_M_begin_15 : decode cc_M_begin 15 = .ok (.aload_n 0, 1) := by decide +kernel
theorem d_M_begin_16 : decode cc_M_begin 16 = .ok (.getfield 51, 3) := by decide +kernel
theorem d_M_begin_19 : decode cc_M_begin 19 = .ok (.iconst 0, 1) := by decide +kernel
theorem d_M_begin_20 : decode cc_M_begin 20 = .ok (.iconst 0, 1) := by decide +kernel
theorem d_M_begin_21 : decode cc_M_begin 21 = .ok (.iastore, 1) := by decide +kernel
theorem d_M_begin_22 : decode cc_M_begin 22 = .ok (.return_, 1) := by decide +kernel
theorem d_M_defining_0 : decode cc_M_defining 0 = .ok (.aload_n 0, 1) := by decide +kernel
theorem d_M_defining_1 : decode cc_M_defining 1 = .ok (.getfield 72, 3) := by decide +kernel
theorem d_M_defining_4 : decode cc_M_defining 4 = .ok (.bipush 100, 2) := by decide +kernel
theorem d_M_defining_6 : decode cc_M_defining 6 = .ok (.if_icmp .lt 18, 3) := by decide +kernel
theorem d_M_defining_9 : decode cc_M_defining 9 = .ok (.aload_n 0, 1) := by decide +kernel
theorem d_M_defining_10 : decode cc_M_defining 10 = .ok (.getfield 54, 3) := by decide +kernel
theorem d_M_defining_13 : decode cc_M_defining 13 = .ok (.ifCond .ne 10, 3) := by decide +kernel
theorem d_M_defining_16 : decode cc_M_defining 16 = .ok (.aload_n 0, 1) := by decide +kernel
theorem d_M_defining_17 : decode cc_M_defining 17 = .ok (.bipush 8, 2) := by decide +kernel
theorem d_M_defining_19 : decode cc_M_defining 19 = .ok (.iload_n 2, 1) := by decide +kernel
theorem d_M_defining_20 : decode cc_M_defining 20 = .ok (.invokevirtual 79, 3) := by decide +kernel
theorem d_M_defining_23 : decode cc_M_defining 23 = .ok (.return_, 1) := by decide +kernel
theorem d_M_defining_24 : decode cc_M_defining 24 = .ok (.aload_n 0, 1) := by decide +kernel
theorem d_M_defining_25 : decode cc_M_defining 25 = .ok (.getfield 69, 3) := by decide +kernel
theorem d_M_defining_28 : decode cc_M_defining 28 = .ok (.aload_n 0, 1) := by decide +kernel
theorem d_M_defining_29 : decode cc_M_defining 29 = .ok (.getfield 72, 3) := by decide +kernel
theorem d_M_defining_32 : decode cc_M_defining 32 = .ok (.iload_n 1, 1) := by decide +kernel
theorem d_M_defining_33 : decode cc_M_defining 33 = .ok (.iastore, 1) := by decide +kernel
theorem d_M_defining_34 : decode cc_M_defining 34 = .ok (.aload_n 0, 1) := by decide +kernel
theorem d_M_defining_35 : decode cc_M_defining 35 = .ok (.dup, 1) := by decide +kernel
theorem d_M_defining_36 : decode cc_M_defining 36 = .ok (.getfield 72, 3) := by decide +kernel
theorem d_M_defining_39 : decode cc_M_defining 39 = .ok (.iconst 1, 1) := by decide +kernel
theorem d_M_defining_40 : decode cc_M_defining 40 = .ok (.iadd, 1) := by decide +kernel
theorem d_M_defining_41 : decode cc_M_defining 41 = .ok (.putfield 72, 3) := by decide +kernel
theorem d_M_defining_44 : decode cc_M_defining 44 = .ok (.return_, 1) := by decide +kernel
theorem d_M_define_0 : decode cc_M_define 0 = .ok (.aload_n 0, 1) := by decide +kernel
theorem d_M_define_1 : decode cc_M_define 1 = .ok (.iconst 0, 1) := by decide +kernel
theorem d_M_define_2 : decode cc_M_define 2 = .ok (.putfield 7, 3) := by decide +kernel
theorem d_M_define_5 : decode cc_M_define 5 = .ok (.iload_n 1, 1) := by decide +kernel
theorem d_M_define_6 : decode cc_M_define 6 = .ok (.ifCond .lt 9, 3) := by decide +kernel
theorem d_M_define_9 : decode cc_M_define 9 = .ok (.iload_n 1, 1) := by decide +kernel
theorem d_M_define_10 : decode cc_M_define 10 = .ok (.bipush 25, 2) := by decide +kernel
theorem d_M_define_12 : decode cc_M_define 12 = .ok (.if_icmp .le 6, 3) := by decide +kernel
theorem d_M_define_15 : decode cc_M_define 15 = .ok (.bipush (-10), 2) := by decide +kernel
theorem d_M_define_17 : decode cc_M_define 17 = .ok (.ireturn, 1) := by decide +kernel
theorem d_M_define_18 : decode cc_M_define 18 = .ok (.aload_n 0, 1) := by decide +kernel
theorem d_M_define_19 : decode cc_M_define 19 = .ok (.invokevirtual 112, 3) := by decide +kernel
theorem d_M_define_22 : decode cc_M_define 22 = .ok (.aload_n 0, 1) := by decide +kernel
theorem d_M_define_23 : decode cc_M_define 23 = .ok (.iconst 0, 1) := by decide +kernel
theorem d_M_define_24 : decode cc_M_define 24 = .ok (.putfield 72, 3) := by decide +kernel
theorem d_M_define_27 : decode cc_M_define 27 = .ok (.iconst 0, 1) := by decide +kernel
theorem d_M_define_28 : decode cc_M_define 28 = .ok (.istore_n 2, 1) := by decide +kernel
theorem d_M_define_29 : decode cc_M_define 29 = .ok (.iload_n 2, 1) := by decide +kernel
theorem d_M_define_30 : decode cc_M_define 30 = .ok (.aload_n 0, 1) := by decide +kernel
theorem d_M_define_31 : decode cc_M_define 31 = .ok (.getfield 17, 3) := by decide +kernel
theorem d_M_define_34 : decode cc_M_define 34 = .ok (.if_icmp .ge 127, 3) := by decide +kernel
theorem d_M_define_37 : decode cc_M_define 37 = .ok (.aload_n 0, 1) := by decide +kernel
theorem d_M_define_38 : decode cc_M_define 38 = .ok (.getfield 54, 3) := by decide +kernel
theorem d_M_define_41 : decode cc_M_define 41 = .ok (.ifCond .ne 120, 3) := by decide +kernel
theorem d_M_define_44 : decode cc_M_define 44 = .ok (.aload_n 0, 1) := by decide +kernel
theorem d_M_define_45 : decode cc_M_define 45 = .ok (.getfield 13, 3) := by decide +kernel
theorem d_M_define_48 : decode cc_M_define 48 = .ok (.iload_n 2, 1) := by decide +kernel
theorem d_M_define_49 : decode cc_M_define 49 = .ok (.iaload, 1) := by decide +kernel
theorem d_M_define_50 : decode cc_M_define 50 = .ok (.istore_n 3, 1) := by decide +kernel
theorem d_M_define_51 : decode cc_M_define 51 = .ok (.iload_n 3, 1) := by decide +kernel
theorem d_M_define_52 : decode cc_M_define 52 = .ok (.bipush 38, 2) := by decide +kernel
theorem d_M_define_54 : decode cc_M_define 54 = .ok (.if_icmp .ne 79, 3) := by decide +kernel
theorem d_M_define_57 : decode cc_M_define 57 = .ok (.aload_n 0, 1) := by decide +kernel
theorem d_M_define_58 : decode cc_M_define 58 = .ok (.iload_n 2, 1) := by decide +kernel
theorem d_M_define_59 : decode cc_M_define 59 = .ok (.invokevirtual 102, 3) := by decide +kernel
theorem d_M_define_62 : decode cc_M_define 62 = .ok (.aload_n 0, 1) := by decide +kernel
theorem d_M_define_63 : decode cc_M_define 63 = .ok (.getfield 54, 3) := by decide +kernel
theorem d_M_define_66 : decode cc_M_define 66 = .ok (.ifCond .ne 23, 3) := by decide +kernel
theorem d_M_define_69 : decode cc_M_define 69 = .ok (.aload_n 0, 1) := by decide +kernel
theorem d_M_define_70 : decode cc_M_define 70 = .ok (.getfield 60, 3) := by decide +kernel
theorem d_M_define_73 : decode cc_M_define 73 = .ok (.iconst 2, 1) := by decide +kernel
theorem d_M_define_74 : decode cc_M_define 74 = .ok (.if_icmp .ne 15, 3) := by decide +kernel
theorem d_M_define_77 : decode cc_M_define 77 = .ok (.aload_n 0, 1) := by decide +kernel
theorem d_M_define_78 : decode cc_M_define 78 = .ok (.aload_n 0, 1) := by decide +kernel
theorem d_M_define_79 : decode cc_M_define 79 = .ok (.getfield 63, 3) := by decide +kernel
theorem d_M_define_82 : decode cc_M_define 82 = .ok (.iload_n 2, 1) := by decide +kernel
theorem d_M_define_83 : decode cc_M_define 83 = .ok (.invokevirtual 115, 3) := by decide +kernel
theorem d_M_define_86 : decode cc_M_define 86 = .ok (.goto 39, 3) := by decide +kernel
theorem d_M_define_89 : decode cc_M_define 89 = .ok (.aload_n 0, 1) := by decide +kernel
theorem d_M_define_90 : decode cc_M_define 90 = .ok (.getfield 54, 3) := by decide +kernel
theorem d_M_define_93 : decode cc_M_define 93 = .ok (.ifCond .ne 32, 3) := by decide +kernel
theorem d_M_define_96 : decode cc_M_define 96 = .ok (.iconst 0, 1) := by decide +kernel
theorem d_M_define_97 : decode cc_M_define 97 = .ok (.istore 4, 2) := by decide +kernel
theorem d_M_define_99 : decode cc_M_define 99 = .ok (.iload 4, 2) := by decide +kernel
theorem d_M_define_101 : decode cc_M_define 101 = .ok (.iconst 3, 1) := by decide +kernel
theorem d_M_define_102 : decode cc_M_define 102 = .ok (.if_icmp .ge 23, 3) := by decide +kernel
theorem d_M_define_105 : decode cc_M_define 105 = .ok (.aload_n 0, 1) := by decide +kernel
theorem d_M_define_106 : decode cc_M_define 106 = .ok (.aload_n 0, 1) := by decide +kernel
theorem d_M_define_107 : decode cc_M_define 107 = .ok (.getfield 13, 3) := by decide +kernel
theorem d_M_define_110 : decode cc_M_define 110 = .ok (.iload_n 2, 1) := by decide +kernel
theorem d_M_define_111 : decode cc_M_define 111 = .ok (.iload 4, 2) := by decide +kernel
theorem d_M_define_113 : decode cc_M_define 113 = .ok (.iadd, 1) := by decide +kernel
theorem d_M_define_114 : decode cc_M_define 114 = .ok (.iaload, 1) := by decide +kernel
theorem d_M_define_115 : decode cc_M_define 115 = .ok (.iload_n 2, 1) := by decide +kernel
theorem d_M_define_116 : decode cc_M_define 116 = .ok (.invokevirtual 115, 3) := by decide +kernel
theorem d_M_define_119 : decode cc_M_define 119 = .ok (.iinc 4 1, 3) := by decide +kernel
theorem d_M_define_122 : decode cc_M_define 122 = .ok (.goto (-23), 3) := by decide +kernel
theorem d_M_define_125 : decode cc_M_define 125 = .ok (.aload_n 0, 1) := by decide +kernel
theorem d_M_define_126 : decode cc_M_define 126 = .ok (.getfield 66, 3) := by decide +kernel
theorem d_M_define_129 : decode cc_M_define 129 = .ok (.istore_n 2, 1) := by decide +kernel
theorem d_M_define_130 : decode cc_M_define 130 = .ok (.goto 28, 3) := by decide +kernel
theorem d_M_define_133 : decode cc_M_define 133 = .ok (.iload_n 3, 1) := by decide +kernel
theorem d_M_define_134 : decode cc_M_define 134 = .ok (.invokestatic 95, 3) := by decide +kernel
theorem d_M_define_137 : decode cc_M_define 137 = .ok (.ifCond .ne 12, 3) := by decide +kernel
theorem d_M_define_140 : decode cc_M_define 140 = .ok (.aload_n 0, 1) := by decide +kernel
theorem d_M_define_141 : decode cc_M_define 141 = .ok (.iconst 1, 1) := by decide +kernel
theorem d_M_define_142 : decode cc_M_define 142 = .ok (.iload_n 2, 1) := by decide +kernel
theorem d_M_define_143 : decode cc_M_define 143 = .ok (.invokevirtual 79, 3) := by decide +kernel
theorem d_M_define_146 : decode cc_M_define 146 = .ok (.goto 12, 3) := by decide +kernel
theorem d_M_define_149 : decode cc_M_define 149 = .ok (.aload_n 0, 1) := by decide +kernel
theorem d_M_define_150 : decode cc_M_define 150 = .ok (.iload_n 3, 1) := by decide +kernel
theorem d_M_define_151 : decode cc_M_define 151 = .ok (.iload_n 2, 1) := by decide +kernel
theorem d_M_define_152 : decode cc_M_define 152 = .ok (.invokevirtual 115, 3) := by decide +kernel
theorem d_M_define_155 : decode cc_M_define 155 = .ok (.iinc 2 1, 3) := by decide +kernel
theorem d_M_define_158 : decode cc_M_define 158 = .ok (.goto (-129), 3) := by decide +kernel
theorem d_M_define_161 : decode cc_M_define 161 = .ok (.aload_n 0, 1) := by decide +kernel
theorem d_M_define_162 : decode cc_M_define 162 = .ok (.iconst 0, 1) := by decide +kernel
theorem d_M_define_163 : decode cc_M_define 163 = .ok (.putfield 17, 3) := by decide +kernel
theorem d_M_define_166 : decode cc_M_define 166 = .ok (.aload_n 0, 1) := by decide +kernel
theorem d_M_define_167 : decode cc_M_define 167 = .ok (.getfield 54, 3) := by decide +kernel
theorem d_M_define_170 : decode cc_M_define 170 = .ok (.ifCond .le 9, 3) := by decide +kernel
theorem d_M_define_173 : decode cc_M_define 173 = .ok (.aload_n 0, 1) := by decide +kernel
theorem d_M_define_174 : decode cc_M_define 174 = .ok (.getfield 54, 3) := by decide +kernel
theorem d_M_define_177 : decode cc_M_define 177 = .ok (.ineg, 1) := by decide +kernel
theorem d_M_define_178 : decode cc_M_define 178 = .ok (.ireturn, 1) := by decide +kernel
theorem d_M_define_179 : decode cc_M_define 179 = .ok (.aload_n 0, 1) := by decide +kernel
theorem d_M_define_180 : decode cc_M_define 180 = .ok (.getfield 20, 3) := by decide +kernel
theorem d_M_define_183 : decode cc_M_define 183 = .ok (.iload_n 1, 1) := by decide +kernel
theorem d_M_define_184 : decode cc_M_define 184 = .ok (.baload, 1) := by decide +kernel
theorem d_M_define_185 : decode cc_M_define 185 = .ok (.ifCond .eq 6, 3) := by decide +kernel
theorem d_M_define_188 : decode cc_M_define 188 = .ok (.bipush (-9), 2) := by decide +kernel
theorem d_M_define_190 : decode cc_M_define 190 = .ok (.ireturn, 1) := by decide +kernel
theorem d_M_define_191 : decode cc_M_define 191 = .ok (.aload_n 0, 1) := by decide +kernel
theorem d_M_define_192 : decode cc_M_define 192 = .ok (.getfield 20, 3) := by decide +kernel
theorem d_M_define_195 : decode cc_M_define 195 = .ok (.iload_n 1, 1) := by decide +kernel
theorem d_M_define_196 : decode cc_M_define 196 = .ok (.iconst 1, 1) := by decide +kernel
theorem d_M_define_197 : decode cc_M_define 197 = .ok (.bastore, 1) := by decide +kernel
theorem d_M_define_198 : decode cc_M_define 198 = .ok (.aload_n 0, 1) := by decide +kernel
theorem d_M_define_199 : decode cc_M_define 199 = .ok (.getfield 24, 3) := by decide +kernel
theorem d_M_define_202 : decode cc_M_define 202 = .ok (.iload_n 1, 1) := by decide +kernel
theorem d_M_define_203 : decode cc_M_define 203 = .ok (.aload_n 0, 1) := by decide +kernel
theorem d_M_define_204 : decode cc_M_define 204 = .ok (.getfield 72, 3) := by decide +kernel
theorem d_M_define_207 : decode cc_M_define 207 = .ok (.iastore, 1) := by decide +kernel
theorem d_M_define_208 : decode cc_M_define 208 = .ok (.iconst 0, 1) := by decide +kernel
theorem d_M_define_209 : decode cc_M_define 209 = .ok (.istore_n 3, 1) := by decide +kernel
theorem d_M_define_210 : decode cc_M_define 210 = .ok (.iload_n 3, 1) := by decide +kernel
theorem d_M_define_211 : decode cc_M_define 211 = .ok (.aload_n 0, 1) := by decide +kernel
theorem d_M_define_212 : decode cc_M_define 212 = .ok (.getfield 72, 3) := by decide +kernel
theorem d_M_define_215 : decode cc_M_define 215 = .ok (.if_icmp .ge 26, 3) := by decide +kernel
theorem d_M_define_218 : decode cc_M_define 218 = .ok (.aload_n 0, 1) := by decide +kernel
theorem d_M_define_219 : decode cc_M_define 219 = .ok (.getfield 27, 3) := by decide +kernel
theorem d_M_define_222 : decode cc_M_define 222 = .ok (.bipush 100, 2) := by decide +kernel
theorem d_M_define_224 : decode cc_M_define 224 = .ok (.iload_n 1, 1) := by decide +kernel
theorem d_M_define_225 : decode cc_M_define 225 = .ok (.imul, 1) := by decide +kernel
theorem d_M_define_226 : decode cc_M_define 226 = .ok (.iload_n 3, 1) := by decide +kernel
theorem d_M_define_227 : decode cc_M_define 227 = .ok (.iadd, 1) := by decide +kernel
theorem d_M_define_228 : decode cc_M_define 228 = .ok (.aload_n 0, 1) := by decide +kernel
theorem d_M_define_229 : decode cc_M_define 229 = .ok (.getfield 69, 3) := by decide +kernel
theorem d_M_define_232 : decode cc_M_define 232 = .ok (.iload_n 3, 1) := by decide +kernel
theorem d_M_define_233 : decode cc_M_define 233 = .ok (.iaload, 1) := by decide +kernel
theorem d_M_define_234 : decode cc_M_define 234 = .ok (.iastore, 1) := by decide +kernel
theorem d_M_define_235 : decode cc_M_define 235 = .ok (.iinc 3 1, 3) := by decide +kernel
theorem d_M_define_238 : decode cc_M_define 238 = .ok (.goto (-28), 3) := by decide +kernel
theorem d_M_define_241 : decode cc_M_define 241 = .ok (.aload_n 0, 1) := by decide +kernel
theorem d_M_define_242 : decode cc_M_define 242 = .ok (.getfield 72, 3) := by decide +kernel
theorem d_M_define_245 : decode cc_M_define 245 = .ok (.ireturn, 1) := by decide +kernel
theorem d_M_value_0 : decode cc_M_value 0 = .ok (.aload_n 0, 1) := by decide +kernel
theorem d_M_value_1 : decode cc_M_value 1 = .ok (.iconst 0, 1) := by decide +kernel
theorem d_M_value_2 : decode cc_M_value 2 = .ok (.putfield 7, 3) := by decide +kernel
theorem d_M_value_5 : decode cc_M_value 5 = .ok (.iload_n 1, 1) := by decide +kernel
theorem d_M_value_6 : decode cc_M_value 6 = .ok (.ifCond .lt 18, 3) := by decide +kernel
theorem d_M_value_9 : decode cc_M_value 9 = .ok (.iload_n 1, 1) := by decide +kernel
theorem d_M_value_10 : decode cc_M_value 10 = .ok (.iconst 1, 1) := by decide +kernel
theorem d_M_value_11 : decode cc_M_value 11 = .ok (.if_icmp .gt 13, 3) := by decide +kernel
theorem d_M_value_14 : decode cc_M_value 14 = .ok (.iload_n 2, 1) := by decide +kernel
theorem d_M_value_15 : decode cc_M_value 15 = .ok (.ifCond .lt 9, 3) := by decide +kernel
theorem d_M_value_18 : decode cc_M_value 18 = .ok (.iload_n 2, 1) := by decide +kernel
theorem d_M_value_19 : decode cc_M_value 19 = .ok (.ldc 118, 2) := by decide +kernel
theorem d_M_value_21 : decode cc_M_value 21 = .ok (.if_icmp .le 6, 3) := by decide +kernel
theorem d_M_value_24 : decode cc_M_value 24 = .ok (.bipush (-10), 2) := by decide +kernel
theorem d_M_value_26 : decode cc_M_value 26 = .ok (.ireturn, 1) := by decide +kernel
theorem d_M_value_27 : decode cc_M_value 27 = .ok (.aload_n 0, 1) := by decide +kernel
theorem d_M_value_28 : decode cc_M_value 28 = .ok (.invokevirtual 112, 3) := by decide +kernel
theorem d_M_value_31 : decode cc_M_value 31 = .ok (.aload_n 0, 1) := by decide +kernel
theorem d_M_value_32 : decode cc_M_value 32 = .ok (.iconst 0, 1) := by decide +kernel
theorem d_M_value_33 : decode cc_M_value 33 = .ok (.putfield 33, 3) := by decide +kernel
theorem d_M_value_36 : decode cc_M_value 36 = .ok (.aload_n 0, 1) := by decide +kernel
theorem d_M_value_37 : decode cc_M_value 37 = .ok (.iconst 0, 1) := by decide +kernel
theorem d_M_value_38 : decode cc_M_value 38 = .ok (.putfield 39, 3) := by decide +kernel
theorem d_M_value_41 : decode cc_M_value 41 = .ok (.aload_n 0, 1) := by decide +kernel
theorem d_M_value_42 : decode cc_M_value 42 = .ok (.iconst 0, 1) := by decide +kernel
theorem d_M_value_43 : decode cc_M_value 43 = .ok (.putfield 42, 3) := by decide +kernel
theorem d_M_value_46 : decode cc_M_value 46 = .ok (.iconst 1, 1) := by decide +kernel
theorem d_M_value_47 : decode cc_M_value 47 = .ok (.istore_n 3, 1) := by decide +kernel
theorem d_M_value_48 : decode cc_M_value 48 = .ok (.iload_n 3, 1) := by decide +kernel
theorem d_M_value_49 : decode cc_M_value 49 = .ok (.ifCond .eq 59, 3) := by decide +kernel
theorem d_M_value_52 : decode cc_M_value 52 = .ok (.aload_n 0, 1) := by decide +kernel
theorem d_M_value_53 : decode cc_M_value 53 = .ok (.getfield 54, 3) := by decide +kernel
theorem d_M_value_56 : decode cc_M_value 56 = .ok (.ifCond .ne 52, 3) := by decide +kernel
theorem d_M_value_59 : decode cc_M_value 59 = .ok (.aload_n 0, 1) := by decide +kernel
theorem d_M_value_60 : decode cc_M_value 60 = .ok (.getfield 51, 3) := by decide +kernel
theorem d_M_value_63 : decode cc_M_value 63 = .ok (.aload_n 0, 1) := by decide +kernel
theorem d_M_value_64 : decode cc_M_value 64 = .ok (.getfield 45, 3) := by decide +kernel
theorem d_M_value_67 : decode cc_M_value 67 = .ok (.iaload, 1) := by decide +kernel
theorem d_M_value_68 : decode cc_M_value 68 = .ok (.aload_n 0, 1) := by decide +kernel
theorem d_M_value_69 : decode cc_M_value 69 = .ok (.invokevirtual 75, 3) := by decide +kernel
theorem d_M_value_72 : decode cc_M_value 72 = .ok (.if_icmp .ge 11, 3) := by decide +kernel
theorem d_M_value_75 : decode cc_M_value 75 = .ok (.aload_n 0, 1) := by decide +kernel
theorem d_M_value_76 : decode cc_M_value 76 = .ok (.iload_n 2, 1) := by decide +kernel
theorem d_M_value_77 : decode cc_M_value 77 = .ok (.invokevirtual 119, 3) := by decide +kernel
theorem d_M_value_80 : decode cc_M_value 80 = .ok (.goto (-32), 3) := by decide +kernel
theorem d_M_value_83 : decode cc_M_value 83 = .ok (.aload_n 0, 1) := by decide +kernel
theorem d_M_value_84 : decode cc_M_value 84 = .ok (.getfield 45, 3) := by decide +kernel
theorem d_M_value_87 : decode cc_M_value 87 = .ok (.ifCond .le 16, 3) := by decide +kernel
theorem d_M_value_90 : decode cc_M_value 90 = .ok (.aload_n 0, 1) := by decide +kernel
theorem d_M_value_91 : decode cc_M_value 91 = .ok (.dup, 1) := by decide +kernel
theorem d_M_value_92 : decode cc_M_value 92 = .ok (.getfield 45, 3) := by decide +kernel
theorem d_M_value_95 : decode cc_M_value 95 = .ok (.iconst 1, 1) := by decide +kernel
theorem d_M_value_96 : decode cc_M_value 96 = .ok (.isub, 1) := by decide +kernel
theorem d_M_value_97 : decode cc_M_value 97 = .ok (.putfield 45, 3) := by decide +kernel
theorem d_M_value_100 : decode cc_M_value 100 = .ok (.goto (-52), 3) := by decide +kernel
theorem d_M_value_103 : decode cc_M_value 103 = .ok (.iconst 0, 1) := by decide +kernel
theorem d_M_value_104 : decode cc_M_value 104 = .ok (.istore_n 3, 1) := by decide +kernel
theorem d_M_value_105 : decode cc_M_value 105 = .ok (.goto (-57), 3) := by decide +kernel
theorem d_M_value_108 : decode cc_M_value 108 = .ok (.aload_n 0, 1) := by decide +kernel
theorem d_M_value_109 : decode cc_M_value 109 = .ok (.iconst 0, 1) := by decide +kernel
theorem d_M_value_110 : decode cc_M_value 110 = .ok (.putfield 17, 3) := by decide +kernel
theorem d_M_value_113 : decode cc_M_value 113 = .ok (.aload_n 0, 1) := by decide +kernel
theorem d_M_value_114 : decode cc_M_value 114 = .ok (.iconst 0, 1) := by decide +kernel
theorem d_M_value_115 : decode cc_M_value 115 = .ok (.putfield 45, 3) := by decide +kernel
theorem d_M_value_118 : decode cc_M_value 118 = .ok (.aload_n 0, 1) := by decide +kernel
theorem d_M_value_119 : decode cc_M_value 119 = .ok (.getfield 54, 3) := by decide +kernel
theorem d_M_value_122 : decode cc_M_value 122 = .ok (.ifCond .le 14, 3) := by decide +kernel
theorem d_M_value_125 : decode cc_M_value 125 = .ok (.aload_n 0, 1) := by decide +kernel
theorem d_M_value_126 : decode cc_M_value 126 = .ok (.iconst 0, 1) := by decide +kernel
theorem d_M_value_127 : decode cc_M_value 127 = .ok (.putfield 33, 3) := by decide +kernel
theorem d_M_value_130 : decode cc_M_value 130 = .ok (.aload_n 0, 1) := by decide +kernel
theorem d_M_value_131 : decode cc_M_value 131 = .ok (.getfield 54, 3) := by decide +kernel
theorem d_M_value_134 : decode cc_M_value 134 = .ok (.ineg, 1) := by decide +kernel
theorem d_M_value_135 : decode cc_M_value 135 = .ok (.ireturn, 1) := by decide +kernel
theorem d_M_value_136 : decode cc_M_value 136 = .ok (.iload_n 1, 1) := by decide +kernel
theorem d_M_value_137 : decode cc_M_value 137 = .ok (.iconst 1, 1) := by decide +kernel
theorem d_M_value_138 : decode cc_M_value 138 = .ok (.if_icmp .ne 7, 3) := by decide +kernel
theorem d_M_value_141 : decode cc_M_value 141 = .ok (.aload_n 0, 1) := by decide +kernel
theorem d_M_value_142 : decode cc_M_value 142 = .ok (.invokevirtual 122, 3) := by decide +kernel
theorem d_M_value_145 : decode cc_M_value 145 = .ok (.aload_n 0, 1) := by decide +kernel
theorem d_M_value_146 : decode cc_M_value 146 = .ok (.getfield 33, 3) := by decide +kernel
theorem d_M_value_149 : decode cc_M_value 149 = .ok (.ireturn, 1) := by decide +kernel
theorem d_M_place_0 : decode cc_M_place 0 = .ok (.aload_n 0, 1) := by decide +kernel
theorem d_M_place_1 : decode cc_M_place 1 = .ok (.iconst 0, 1) := by decide +kernel
theorem d_M_place_2 : decode cc_M_place 2 = .ok (.putfield 7, 3) := by decide +kernel
theorem d_M_place_5 : decode cc_M_place 5 = .ok (.aload_n 0, 1) := by decide +kernel
theorem d_M_place_6 : decode cc_M_place 6 = .ok (.getfield 36, 3) := by decide +kernel
theorem d_M_place_9 : decode cc_M_place 9 = .ok (.ireturn, 1) := by decide +kernel
theorem d_M_characters_0 : decode cc_M_characters 0 = .ok (.aload_n 0, 1) := by decide +kernel
theorem d_M_characters_1 : decode cc_M_characters 1 = .ok (.iconst 0, 1) := by decide +kernel
theorem d_M_characters_2 : decode cc_M_characters 2 = .ok (.putfield 7, 3) := by decide +kernel
theorem d_M_characters_5 : decode cc_M_characters 5 = .ok (.iload_n 1, 1) := by decide +kernel
theorem d_M_characters_6 : decode cc_M_characters 6 = .ok (.ifCond .ge 9, 3) := by decide +kernel
theorem d_M_characters_9 : decode cc_M_characters 9 = .ok (.ldc2_w 125, 3) := by decide +kernel
theorem d_M_characters_12 : decode cc_M_characters 12 = .ok (.goto 16, 3) := by decide +kernel
theorem d_M_characters_15 : decode cc_M_characters 15 = .ok (.aload_n 0, 1) := by decide +kernel
theorem d_M_characters_16 : decode cc_M_characters 16 = .ok (.getfield 30, 3) := by decide +kernel
theorem d_M_characters_19 : decode cc_M_characters 19 = .ok (.iconst 0, 1) := by decide +kernel
theorem d_M_characters_20 : decode cc_M_characters 20 = .ok (.aload_n 0, 1) := by decide +kernel
theorem d_M_characters_21 : decode cc_M_characters 21 = .ok (.getfield 33, 3) := by decide +kernel
theorem d_M_characters_24 : decode cc_M_characters 24 = .ok (.iload_n 1, 1) := by decide +kernel
theorem d_M_characters_25 : decode cc_M_characters 25 = .ok (.invokestatic 127, 3) := by decide +kernel
theorem d_M_characters_28 : decode cc_M_characters 28 = .ok (.lreturn, 1) := by decide +kernel
theorem d_M_text_0 : decode cc_M_text 0 = .ok (.aload_n 0, 1) := by decide +kernel
theorem d_M_text_1 : decode cc_M_text 1 = .ok (.iconst 0, 1) := by decide +kernel
theorem d_M_text_2 : decode cc_M_text 2 = .ok (.putfield 7, 3) := by decide +kernel
theorem d_M_text_5 : decode cc_M_text 5 = .ok (.iload_n 2, 1) := by decide +kernel
theorem d_M_text_6 : decode cc_M_text 6 = .ok (.ifCond .lt 13, 3) := by decide +kernel
theorem d_M_text_9 : decode cc_M_text 9 = .ok (.iload_n 1, 1) := by decide +kernel
theorem d_M_text_10 : decode cc_M_text 10 = .ok (.ifCond .lt 9, 3) := by decide +kernel
theorem d_M_text_13 : decode cc_M_text 13 = .ok (.iload_n 1, 1) := by decide +kernel
theorem d_M_text_14 : decode cc_M_text 14 = .ok (.bipush 25, 2) := by decide +kernel
theorem d_M_text_16 : decode cc_M_text 16 = .ok (.if_icmp .le 7, 3) := by decide +kernel
theorem d_M_text_19 : decode cc_M_text 19 = .ok (.ldc2_w 125, 3) := by decide +kernel
theorem d_M_text_22 : decode cc_M_text 22 = .ok (.lreturn, 1) := by decide +kernel
theorem d_M_text_23 : decode cc_M_text 23 = .ok (.aload_n 0, 1) := by decide +kernel
theorem d_M_text_24 : decode cc_M_text 24 = .ok (.getfield 20, 3) := by decide +kernel
theorem d_M_text_27 : decode cc_M_text 27 = .ok (.iload_n 1, 1) := by decide +kernel
theorem d_M_text_28 : decode cc_M_text 28 = .ok (.baload, 1) := by decide +kernel
theorem d_M_text_29 : decode cc_M_text 29 = .ok (.ifCond .eq 24, 3) := by decide +kernel
theorem d_M_text_32 : decode cc_M_text 32 = .ok (.aload_n 0, 1) := by decide +kernel
theorem d_M_text_33 : decode cc_M_text 33 = .ok (.getfield 27, 3) := by decide +kernel
theorem d_M_text_36 : decode cc_M_text 36 = .ok (.bipush 100, 2) := by decide +kernel
theorem d_M_text_38 : decode cc_M_text 38 = .ok (.iload_n 1, 1) := by decide +kernel
theorem d_M_text_39 : decode cc_M_text 39 = .ok (.imul, 1) := by decide +kernel
theorem d_M_text_40 : decode cc_M_text 40 = .ok (.aload_n 0, 1) := by decide +kernel
theorem d_M_text_41 : decode cc_M_text 41 = .ok (.getfield 24, 3) := by decide +kernel
theorem d_M_text_44 : decode cc_M_text 44 = .ok (.iload_n 1, 1) := by decide +kernel
theorem d_M_text_45 : decode cc_M_text 45 = .ok (.iaload, 1) := by decide +kernel
theorem d_M_text_46 : decode cc_M_text 46 = .ok (.iload_n 2, 1) := by decide +kernel
theorem d_M_text_47 : decode cc_M_text 47 = .ok (.invokestatic 127, 3) := by decide +kernel
theorem d_M_text_50 : decode cc_M_text 50 = .ok (.goto 6, 3) := by decide +kernel
theorem d_M_text_53 : decode cc_M_text 53 = .ok (.ldc2_w 125, 3) := by decide +kernel
theorem d_M_text_56 : decode cc_M_text 56 = .ok (.lreturn, 1) := by decide +kernel
theorem d_M_known_0 : decode cc_M_known 0 = .ok (.iconst 0, 1) := by decide +kernel
theorem d_M_known_1 : decode cc_M_known 1 = .ok (.istore_n 1, 1) := by decide +kernel
theorem d_M_known_2 : decode cc_M_known 2 = .ok (.iconst 0, 1) := by decide +kernel
theorem d_M_known_3 : decode cc_M_known 3 = .ok (.istore_n 2, 1) := by decide +kernel
theorem d_M_known_4 : decode cc_M_known 4 = .ok (.iload_n 2, 1) := by decide +kernel
theorem d_M_known_5 : decode cc_M_known 5 = .ok (.bipush 26, 2) := by decide +kernel
theorem d_M_known_7 : decode cc_M_known 7 = .ok (.if_icmp .ge 26, 3) := by decide +kernel
theorem d_M_known_10 : decode cc_M_known 10 = .ok (.iload_n 1, 1) := by decide +kernel
theorem d_M_known_11 : decode cc_M_known 11 = .ok (.aload_n 0, 1) := by decide +kernel
theorem d_M_known_12 : decode cc_M_known 12 = .ok (.getfield 20, 3) := by decide +kernel
theorem d_M_known_15 : decode cc_M_known 15 = .ok (.iload_n 2, 1) := by decide +kernel
theorem d_M_known_16 : decode cc_M_known 16 = .ok (.baload, 1) := by decide +kernel
theorem d_M_known_17 : decode cc_M_known 17 = .ok (.ifCond .eq 7, 3) := by decide +kernel
theorem d_M_known_20 : decode cc_M_known 20 = .ok (.iconst 1, 1) := by decide +kernel
theorem d_M_known_21 : decode cc_M_known 21 = .ok (.goto 4, 3) := by decide +kernel
theorem d_M_known_24 : decode cc_M_known 24 = .ok (.iconst 0, 1) := by decide +kernel
theorem d_M_known_25 : decode cc_M_known 25 = .ok (.iadd, 1) := by decide +kernel
theorem d_M_known_26 : decode cc_M_known 26 = .ok (.istore_n 1, 1) := by decide +kernel
theorem d_M_known_27 : decode cc_M_known 27 = .ok (.iinc 2 1, 3) := by decide +kernel
theorem d_M_known_30 : decode cc_M_known 30 = .ok (.goto (-26), 3) := by decide +kernel
theorem d_M_known_33 : decode cc_M_known 33 = .ok (.iload_n 1, 1) := by decide +kernel
theorem d_M_known_34 : decode cc_M_known 34 = .ok (.ireturn, 1) := by decide +kernel
theorem d_M_clear_0 : decode cc_M_clear 0 = .ok (.aload_n 0, 1) := by decide +kernel
theorem d_M_clear_1 : decode cc_M_clear 1 = .ok (.iconst 0, 1) := by decide +kernel
theorem d_M_clear_2 : decode cc_M_clear 2 = .ok (.putfield 7, 3) := by decide +kernel
theorem d_M_clear_5 : decode cc_M_clear 5 = .ok (.aload_n 0, 1) := by decide +kernel
theorem d_M_clear_6 : decode cc_M_clear 6 = .ok (.invokevirtual 131, 3) := by decide +kernel
theorem d_M_clear_9 : decode cc_M_clear 9 = .ok (.istore_n 1, 1) := by decide +kernel
theorem d_M_clear_10 : decode cc_M_clear 10 = .ok (.iconst 0, 1) := by decide +kernel
theorem d_M_clear_11 : decode cc_M_clear 11 = .ok (.istore_n 2, 1) := by decide +kernel
theorem d_M_clear_12 : decode cc_M_clear 12 = .ok (.iload_n 2, 1) := by decide +kernel
theorem d_M_clear_13 : decode cc_M_clear 13 = .ok (.bipush 26, 2) := by decide +kernel
theorem d_M_clear_15 : decode cc_M_clear 15 = .ok (.if_icmp .ge 16, 3) := by decide +kernel
theorem d_M_clear_18 : decode cc_M_clear 18 = .ok (.aload_n 0, 1) := by decide +kernel
theorem d_M_clear_19 : decode cc_M_clear 19 = .ok (.getfield 20, 3) := by decide +kernel
theorem d_M_clear_22 : decode cc_M_clear 22 = .ok (.iload_n 2, 1) := by decide +kernel
theorem d_M_clear_23 : decode cc_M_clear 23 = .ok (.iconst 0, 1) := by decide +kernel
theorem d_M_clear_24 : decode cc_M_clear 24 = .ok (.bastore, 1) := by decide +kernel
theorem d_M_clear_25 : decode cc_M_clear 25 = .ok (.iinc 2 1, 3) := by decide +kernel
theorem d_M_clear_28 : decode cc_M_clear 28 = .ok (.goto (-16), 3) := by decide +kernel
theorem d_M_clear_31 : decode cc_M_clear 31 = .ok (.iload_n 1, 1) := by decide +kernel
theorem d_M_clear_32 : decode cc_M_clear 32 = .ok (.ireturn, 1) := by decide +kernel
theorem d_M_count_0 : decode cc_M_count 0 = .ok (.aload_n 0, 1) := by decide +kernel
theorem d_M_count_1 : decode cc_M_count 1 = .ok (.iconst 0, 1) := by decide +kernel
theorem d_M_count_2 : decode cc_M_count 2 = .ok (.putfield 7, 3) := by decide +kernel
theorem d_M_count_5 : decode cc_M_count 5 = .ok (.iload_n 1, 1) := by decide +kernel
theorem d_M_count_6 : decode cc_M_count 6 = .ok (.ifCond .ne 10, 3) := by decide +kernel
theorem d_M_count_9 : decode cc_M_count 9 = .ok (.aload_n 0, 1) := by decide +kernel
theorem d_M_count_10 : decode cc_M_count 10 = .ok (.getfield 17, 3) := by decide +kernel
theorem d_M_count_13 : decode cc_M_count 13 = .ok (.goto 52, 3) := by decide +kernel
theorem d_M_count_16 : decode cc_M_count 16 = .ok (.iload_n 1, 1) := by decide +kernel
theorem d_M_count_17 : decode cc_M_count 17 = .ok (.iconst 1, 1) := by decide +kernel
theorem d_M_count_18 : decode cc_M_count 18 = .ok (.if_icmp .ne 10, 3) := by decide +kernel
theorem d_M_count_21 : decode cc_M_count 21 = .ok (.aload_n 0, 1) := by decide +kernel
theorem d_M_count_22 : decode cc_M_count 22 = .ok (.invokevirtual 131, 3) := by decide +kernel
theorem d_M_count_25 : decode cc_M_count 25 = .ok (.goto 40, 3) := by decide +kernel
theorem d_M_count_28 : decode cc_M_count 28 = .ok (.iload_n 1, 1) := by decide +kernel
theorem d_M_count_29 : decode cc_M_count 29 = .ok (.iconst 2, 1) := by decide +kernel
theorem d_M_count_30 : decode cc_M_count 30 = .ok (.if_icmp .ne 10, 3) := by decide +kernel
theorem d_M_count_33 : decode cc_M_count 33 = .ok (.aload_n 0, 1) := by decide +kernel
theorem d_M_count_34 : decode cc_M_count 34 = .ok (.getfield 33, 3) := by decide +kernel
theorem d_M_count_37 : decode cc_M_count 37 = .ok (.goto 28, 3) := by decide +kernel
theorem d_M_count_40 : decode cc_M_count 40 = .ok (.iload_n 1, 1) := by decide +kernel
theorem d_M_count_41 : decode cc_M_count 41 = .ok (.iconst 3, 1) := by decide +kernel
theorem d_M_count_42 : decode cc_M_count 42 = .ok (.if_icmp .ne 10, 3) := by decide +kernel
theorem d_M_count_45 : decode cc_M_count 45 = .ok (.aload_n 0, 1) := by decide +kernel
theorem d_M_count_46 : decode cc_M_count 46 = .ok (.getfield 39, 3) := by decide +kernel
theorem d_M_count_49 : decode cc_M_count 49 = .ok (.goto 16, 3) := by decide +kernel
theorem d_M_count_52 : decode cc_M_count 52 = .ok (.iload_n 1, 1) := by decide +kernel
theorem d_M_count_53 : decode cc_M_count 53 = .ok (.iconst 4, 1) := by decide +kernel
theorem d_M_count_54 : decode cc_M_count 54 = .ok (.if_icmp .ne 10, 3) := by decide +kernel
theorem d_M_count_57 : decode cc_M_count 57 = .ok (.aload_n 0, 1) := by decide +kernel
theorem d_M_count_58 : decode cc_M_count 58 = .ok (.getfield 42, 3) := by decide +kernel
theorem d_M_count_61 : decode cc_M_count 61 = .ok (.goto 4, 3) := by decide +kernel
theorem d_M_count_64 : decode cc_M_count 64 = .ok (.iconst (-1), 1) := by decide +kernel
theorem d_M_count_65 : decode cc_M_count 65 = .ok (.ireturn, 1) := by decide +kernel

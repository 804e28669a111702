theorem dX5_dawnsAs_19 : decode cX5_dawnsAs 19 = .ok (.getfield 238, 3) := by decide +kernel
theorem dX5_dawnsAs_22 : decode cX5_dawnsAs 22 = .ok (.iload_n 3, 1) := by decide +kernel
theorem dX5_dawnsAs_23 : decode cX5_dawnsAs 23 = .ok (.iload 5, 2) := by decide +kernel
theorem dX5_dawnsAs_25 : decode cX5_dawnsAs 25 = .ok (.iadd, 1) := by decide +kernel
theorem dX5_dawnsAs_26 : decode cX5_dawnsAs 26 = .ok (.laload, 1) := by decide +kernel
theorem dX5_dawnsAs_27 : decode cX5_dawnsAs 27 = .ok (.aload_n 0, 1) := by decide +kernel
theorem dX5_dawnsAs_28 : decode cX5_dawnsAs 28 = .ok (.getfield 16, 3) := by decide +kernel
theorem dX5_dawnsAs_31 : decode cX5_dawnsAs 31 = .ok (.getfield 248, 3) := by decide +kernel
theorem dX5_dawnsAs_34 : decode cX5_dawnsAs 34 = .ok (.iload_n 1, 1) := by decide +kernel
theorem dX5_dawnsAs_35 : decode cX5_dawnsAs 35 = .ok (.iaload, 1) := by decide +kernel
theorem dX5_dawnsAs_36 : decode cX5_dawnsAs 36 = .ok (.i2l, 1) := by decide +kernel
theorem dX5_dawnsAs_37 : decode cX5_dawnsAs 37 = .ok (.lcmp, 1) := by decide +kernel
theorem dX5_dawnsAs_38 : decode cX5_dawnsAs 38 = .ok (.ifCond .eq 5, 3) := by decide +kernel
theorem dX5_dawnsAs_41 : decode cX5_dawnsAs 41 = .ok (.iconst 0, 1) := by decide +kernel
theorem dX5_dawnsAs_42 : decode cX5_dawnsAs 42 = .ok (.ireturn, 1) := by decide +kernel
theorem dX5_dawnsAs_43 : decode cX5_dawnsAs 43 = .ok (.iinc 5 1, 3) := by decide +kernel
theorem dX5_dawnsAs_46 : decode cX5_dawnsAs 46 = .ok (.goto (-43), 3) := by decide +kernel
theorem dX5_dawnsAs_49 : decode cX5_dawnsAs 49 = .ok (.iconst 1, 1) := by decide +kernel
theorem dX5_dawnsAs_50 : decode cX5_dawnsAs 50 = .ok (.ireturn, 1) := by decide +kernel
theorem dX6_init_0 : decode cX6_init 0 = .ok (.aload_n 0, 1) := by decide +kernel
theorem dX6_init_1 : decode cX6_init 1 = .ok (.invokespecial 1, 3) := by decide +kernel
theorem dX6_init_4 : decode cX6_init 4 = .ok (.aload_n 0, 1) := by decide +kernel
theorem dX6_init_5 : decode cX6_init 5 = .ok (.iconst 4, 1) := by decide +kernel
theorem dX6_init_6 : decode cX6_init 6 = .ok (.newarray .int, 2) := by decide +kernel
theorem dX6_init_8 : decode cX6_init 8 = .ok (.putfield 7, 3) := by decide +kernel
theorem dX6_init_11 : decode cX6_init 11 = .ok (.aload_n 0, 1) := by decide +kernel
theorem dX6_init_12 : decode cX6_init 12 = .ok (.iconst 4, 1) := by decide +kernel
theorem dX6_init_13 : decode cX6_init 13 = .ok (.newarray .int, 2) := by decide +kernel
theorem dX6_init_15 : decode cX6_init 15 = .ok (.putfield 13, 3) := by decide +kernel
theorem dX6_init_18 : decode cX6_init 18 = .ok (.aload_n 0, 1) := by decide +kernel
theorem dX6_init_19 : decode cX6_init 19 = .ok (.bipush 96, 2) := by decide +kernel
theorem dX6_init_21 : decode cX6_init 21 = .ok (.newarray .long, 2) := by decide +kernel
theorem dX6_init_23 : decode cX6_init 23 = .ok (.putfield 16, 3) := by decide +kernel
theorem dX6_init_26 : decode cX6_init 26 = .ok (.aload_n 0, 1) := by decide +kernel
theorem dX6_init_27 : decode cX6_init 27 = .ok (.bipush 80, 2) := by decide +kernel
theorem dX6_init_29 : decode cX6_init 29 = .ok (.newarray .int, 2) := by decide +kernel
theorem dX6_init_31 : decode cX6_init 31 = .ok (.putfield 20, 3) := by decide +kernel
theorem dX6_init_34 : decode cX6_init 34 = .ok (.aload_n 0, 1) := by decide +kernel
theorem dX6_init_35 : decode cX6_init 35 = .ok (.sipush 248, 3) := by decide +kernel
theorem dX6_init_38 : decode cX6_init 38 = .ok (.newarray .int, 2) := by decide +kernel
theorem dX6_init_40 : decode cX6_init 40 = .ok (.putfield 23, 3) := by decide +kernel
theorem dX6_init_43 : decode cX6_init 43 = .ok (.aload_n 0, 1) := by decide +kernel
theorem dX6_init_44 : decode cX6_init 44 = .ok (.sipush 248, 3) := by decide +kernel
theorem dX6_init_47 : decode cX6_init 47 = .ok (.newarray .int, 2) := by decide +kernel
theorem dX6_init_49 : decode cX6_init 49 = .ok (.putfield 26, 3) := by decide +kernel
theorem dX6_init_52 : decode cX6_init 52 = .ok (.aload_n 0, 1) := by decide +kernel
theorem dX6_init_53 : decode cX6_init 53 = .ok (.sipush 248, 3) := by decide +kernel
theorem dX6_init_56 : decode cX6_init 56 = .ok (.newarray .int, 2) := by decide +kernel
theorem dX6_init_58 : decode cX6_init 58 = .ok (.putfield 29, 3) := by decide +kernel
theorem dX6_init_61 : decode cX6_init 61 = .ok (.aload_n 0, 1) := by decide +kernel
theorem dX6_init_62 : decode cX6_init 62 = .ok (.sipush 248, 3) := by decide +kernel
theorem dX6_init_65 : decode cX6_init 65 = .ok (.newarray .int, 2) := by decide +kernel
theorem dX6_init_67 : decode cX6_init 67 = .ok (.putfield 32, 3) := by decide +kernel
theorem dX6_init_70 : decode cX6_init 70 = .ok (.aload_n 0, 1) := by decide +kernel
theorem dX6_init_71 : decode cX6_init 71 = .ok (.bipush 6, 2) := by decide +kernel
theorem dX6_init_73 : decode cX6_init 73 = .ok (.newarray .int, 2) := by decide +kernel
theorem dX6_init_75 : decode cX6_init 75 = .ok (.putfield 35, 3) := by decide +kernel
theorem dX6_init_78 : decode cX6_init 78 = .ok (.aload_n 0, 1) := by decide +kernel
theorem dX6_init_79 : decode cX6_init 79 = .ok (.bipush 6, 2) := by decide +kernel
theorem dX6_init_81 : decode cX6_init 81 = .ok (.newarray .int, 2) := by decide +kernel
theorem dX6_init_83 : decode cX6_init 83 = .ok (.putfield 38, 3) := by decide +kernel
theorem dX6_init_86 : decode cX6_init 86 = .ok (.aload_n 0, 1) := by decide +kernel
theorem dX6_init_87 : decode cX6_init 87 = .ok (.bipush 6, 2) := by decide +kernel
theorem dX6_init_89 : decode cX6_init 89 = .ok (.newarray .int, 2) := by decide +kernel
theorem dX6_init_91 : decode cX6_init 91 = .ok (.putfield 41, 3) := by decide +kernel
theorem dX6_init_94 : decode cX6_init 94 = .ok (.aload_n 0, 1) := by decide +kernel
theorem dX6_init_95 : decode cX6_init 95 = .ok (.bipush 6, 2) := by decide +kernel
theorem dX6_init_97 : decode cX6_init 97 = .ok (.newarray .int, 2) := by decide +kernel
theorem dX6_init_99 : decode cX6_init 99 = .ok (.putfield 44, 3) := by decide +kernel
theorem dX6_init_102 : decode cX6_init 102 = .ok (.iconst 0, 1) := by decide +kernel
theorem dX6_init_103 : decode cX6_init 103 = .ok (.istore_n 1, 1) := by decide +kernel
theorem dX6_init_104 : decode cX6_init 104 = .ok (.iload_n 1, 1) := by decide +kernel
theorem dX6_init_105 : decode cX6_init 105 = .ok (.iconst 4, 1) := by decide +kernel
theorem dX6_init_106 : decode cX6_init 106 = .ok (.if_icmp .ge 16, 3) := by decide +kernel
theorem dX6_init_109 : decode cX6_init 109 = .ok (.aload_n 0, 1) := by decide +kernel
theorem dX6_init_110 : decode cX6_init 110 = .ok (.getfield 7, 3) := by decide +kernel
theorem dX6_init_113 : decode cX6_init 113 = .ok (.iload_n 1, 1) := by decide +kernel
theorem dX6_init_114 : decode cX6_init 114 = .ok (.iconst (-1), 1) := by decide +kernel
theorem dX6_init_115 : decode cX6_init 115 = .ok (.iastore, 1) := by decide +kernel
theorem dX6_init_116 : decode cX6_init 116 = .ok (.iinc 1 1, 3) := by decide +kernel
theorem dX6_init_119 : decode cX6_init 119 = .ok (.goto (-15), 3) := by decide +kernel
theorem dX6_init_122 : decode cX6_init 122 = .ok (.aload_n 0, 1) := by decide +kernel
theorem dX6_init_123 : decode cX6_init 123 = .ok (.getfield 23, 3) := by decide +kernel
theorem dX6_init_126 : decode cX6_init 126 = .ok (.iconst 1, 1) := by decide +kernel
theorem dX6_init_127 : decode cX6_init 127 = .ok (.iconst 1, 1) := by decide +kernel
theorem dX6_init_128 : decode cX6_init 128 = .ok (.iastore, 1) := by decide +kernel
theorem dX6_init_129 : decode cX6_init 129 = .ok (.aload_n 0, 1) := by decide +kernel
theorem dX6_init_130 : decode cX6_init 130 = .ok (.getfield 23, 3) := by decide +kernel
theorem dX6_init_133 : decode cX6_init 133 = .ok (.bipush 26, 2) := by decide +kernel
theorem dX6_init_135 : decode cX6_init 135 = .ok (.iconst 5, 1) := by decide +kernel
theorem dX6_init_136 : decode cX6_init 136 = .ok (.iastore, 1) := by decide +kernel
theorem dX6_init_137 : decode cX6_init 137 = .ok (.return_, 1) := by decide +kernel
theorem dX6_in_0 : decode cX6_in 0 = .ok (.iload_n 0, 1) := by decide +kernel
theorem dX6_in_1 : decode cX6_in 1 = .ok (.iload_n 1, 1) := by decide +kernel
theorem dX6_in_2 : decode cX6_in 2 = .ok (.if_icmp .lt 12, 3) := by decide +kernel
theorem dX6_in_5 : decode cX6_in 5 = .ok (.iload_n 0, 1) := by decide +kernel
theorem dX6_in_6 : decode cX6_in 6 = .ok (.iload_n 2, 1) := by decide +kernel
theorem dX6_in_7 : decode cX6_in 7 = .ok (.if_icmp .gt 7, 3) := by decide +kernel
theorem dX6_in_10 : decode cX6_in 10 = .ok (.iconst 1, 1) := by decide +kernel
theorem dX6_in_11 : decode cX6_in 11 = .ok (.goto 4, 3) := by decide +kernel
theorem dX6_in_14 : decode cX6_in 14 = .ok (.iconst 0, 1) := by decide +kernel
theorem dX6_in_15 : decode cX6_in 15 = .ok (.ireturn, 1) := by decide +kernel
theorem dX6_has_0 : decode cX6_has 0 = .ok (.iload_n 0, 1) := by decide +kernel
theorem dX6_has_1 : decode cX6_has 1 = .ok (.iload_n 1, 1) := by decide +kernel
theorem dX6_has_2 : decode cX6_has 2 = .ok (.ishr, 1) := by decide +kernel
theorem dX6_has_3 : decode cX6_has 3 = .ok (.iconst 1, 1) := by decide +kernel
theorem dX6_has_4 : decode cX6_has 4 = .ok (.iand, 1) := by decide +kernel
theorem dX6_has_5 : decode cX6_has 5 = .ok (.iconst 1, 1) := by decide +kernel
theorem dX6_has_6 : decode cX6_has 6 = .ok (.if_icmp .ne 7, 3) := by decide +kernel
theorem dX6_has_9 : decode cX6_has 9 = .ok (.iconst 1, 1) := by decide +kernel
theorem dX6_has_10 : decode cX6_has 10 = .ok (.goto 4, 3) := by decide +kernel
theorem dX6_has_13 : decode cX6_has 13 = .ok (.iconst 0, 1) := by decide +kernel
theorem dX6_has_14 : decode cX6_has 14 = .ok (.ireturn, 1) := by decide +kernel
theorem dX6_bits_0 : decode cX6_bits 0 = .ok (.iconst 0, 1) := by decide +kernel
theorem dX6_bits_1 : decode cX6_bits 1 = .ok (.istore_n 1, 1) := by decide +kernel
theorem dX6_bits_2 : decode cX6_bits 2 = .ok (.iconst 0, 1) := by decide +kernel
theorem dX6_bits_3 : decode cX6_bits 3 = .ok (.istore_n 2, 1) := by decide +kernel
theorem dX6_bits_4 : decode cX6_bits 4 = .ok (.iload_n 2, 1) := by decide +kernel
theorem dX6_bits_5 : decode cX6_bits 5 = .ok (.bipush 6, 2) := by decide +kernel
theorem dX6_bits_7 : decode cX6_bits 7 = .ok (.if_icmp .ge 17, 3) := by decide +kernel
theorem dX6_bits_10 : decode cX6_bits 10 = .ok (.iload_n 1, 1) := by decide +kernel
theorem dX6_bits_11 : decode cX6_bits 11 = .ok (.iload_n 0, 1) := by decide +kernel
theorem dX6_bits_12 : decode cX6_bits 12 = .ok (.iload_n 2, 1) := by decide +kernel
theorem dX6_bits_13 : decode cX6_bits 13 = .ok (.ishr, 1) := by decide +kernel
theorem dX6_bits_14 : decode cX6_bits 14 = .ok (.iconst 1, 1) := by decide +kernel
theorem dX6_bits_15 : decode cX6_bits 15 = .ok (.iand, 1) := by decide +kernel
theorem dX6_bits_16 : decode cX6_bits 16 = .ok (.iadd, 1) := by decide +kernel
theorem dX6_bits_17 : decode cX6_bits 17 = .ok (.istore_n 1, 1) := by decide +kernel
theorem dX6_bits_18 : decode cX6_bits 18 = .ok (.iinc 2 1, 3) := by decide +kernel
theorem dX6_bits_21 : decode cX6_bits 21 = .ok (.goto (-17), 3) := by decide +kernel
theorem dX6_bits_24 : decode cX6_bits 24 = .ok (.iload_n 1, 1) := by decide +kernel
theorem dX6_bits_25 : decode cX6_bits 25 = .ok (.ireturn, 1) := by decide +kernel
theorem dX6_bring_0 : decode cX6_bring 0 = .ok (.iconst 0, 1) := by decide +kernel
theorem dX6_bring_1 : decode cX6_bring 1 = .ok (.istore 5, 2) := by decide +kernel
theorem dX6_bring_3 : decode cX6_bring 3 = .ok (.iload 5, 2) := by decide +kernel
theorem dX6_bring_5 : decode cX6_bring 5 = .ok (.iload 4, 2) := by decide +kernel
theorem dX6_bring_7 : decode cX6_bring 7 = .ok (.if_icmp .ge 21, 3) := by decide +kernel
theorem dX6_bring_10 : decode cX6_bring 10 = .ok (.aload_n 2, 1) := by decide +kernel
theorem dX6_bring_11 : decode cX6_bring 11 = .ok (.iload_n 3, 1) := by decide +kernel
theorem dX6_bring_12 : decode cX6_bring 12 = .ok (.iload 5, 2) := by decide +kernel
theorem dX6_bring_14 : decode cX6_bring 14 = .ok (.iadd, 1) := by decide +kernel
theorem dX6_bring_15 : decode cX6_bring 15 = .ok (.aload_n 0, 1) := by decide +kernel
theorem dX6_bring_16 : decode cX6_bring 16 = .ok (.iload_n 1, 1) := by decide +kernel
theorem dX6_bring_17 : decode cX6_bring 17 = .ok (.iload 5, 2) := by decide +kernel
theorem dX6_bring_19 : decode cX6_bring 19 = .ok (.iadd, 1) := by decide +kernel
theorem dX6_bring_20 : decode cX6_bring 20 = .ok (.iaload, 1) := by decide +kernel
theorem dX6_bring_21 : decode cX6_bring 21 = .ok (.iastore, 1) := by decide +kernel
theorem dX6_bring_22 : decode cX6_bring 22 = .ok (.iinc 5 1, 3) := by decide +kernel
theorem dX6_bring_25 : decode cX6_bring 25 = .ok (.goto (-22), 3) := by decide +kernel
theorem dX6_bring_28 : decode cX6_bring 28 = .ok (.return_, 1) := by decide +kernel
theorem dX6_isHouse_0 : decode cX6_isHouse 0 = .ok (.iload_n 1, 1) := by decide +kernel
theorem dX6_isHouse_1 : decode cX6_isHouse 1 = .ok (.iconst 0, 1) := by decide +kernel
theorem dX6_isHouse_2 : decode cX6_isHouse 2 = .ok (.aload_n 0, 1) := by decide +kernel
theorem dX6_isHouse_3 : decode cX6_isHouse 3 = .ok (.getfield 23, 3) := by decide +kernel
theorem dX6_isHouse_6 : decode cX6_isHouse 6 = .ok (.bipush 27, 2) := by decide +kernel
theorem dX6_isHouse_8 : decode cX6_isHouse 8 = .ok (.iaload, 1) := by decide +kernel
theorem dX6_isHouse_9 : decode cX6_isHouse 9 = .ok (.iconst 1, 1) := by decide +kernel
theorem dX6_isHouse_10 : decode cX6_isHouse 10 = .ok (.isub, 1) := by decide +kernel
theorem dX6_isHouse_11 : decode cX6_isHouse 11 = .ok (.invokestatic 47, 3) := by decide +kernel
theorem dX6_isHouse_14 : decode cX6_isHouse 14 = .ok (.ireturn, 1) := by decide +kernel
theorem dX6_isHog_0 : decode cX6_isHog 0 = .ok (.iload_n 1, 1) := by decide +kernel
theorem dX6_isHog_1 : decode cX6_isHog 1 = .ok (.iconst 0, 1) := by decide +kernel
theorem dX6_isHog_2 : decode cX6_isHog 2 = .ok (.aload_n 0, 1) := by decide +kernel
theorem dX6_isHog_3 : decode cX6_isHog 3 = .ok (.getfield 23, 3) := by decide +kernel
theorem dX6_isHog_6 : decode cX6_isHog 6 = .ok (.bipush 28, 2) := by decide +kernel
theorem dX6_isHog_8 : decode cX6_isHog 8 = .ok (.iaload, 1) := by decide +kernel
theorem dX6_isHog_9 : decode cX6_isHog 9 = .ok (.iconst 1, 1) := by decide +kernel
theorem dX6_isHog_10 : decode cX6_isHog 10 = .ok (.isub, 1) := by decide +kernel
theorem dX6_isHog_11 : decode cX6_isHog 11 = .ok (.invokestatic 47, 3) := by decide +kernel
theorem dX6_isHog_14 : decode cX6_isHog 14 = .ok (.ireturn, 1) := by decide +kernel
theorem dX6_addHouse_0 : decode cX6_addHouse 0 = .ok (.aload_n 0, 1) := by decide +kernel
theorem dX6_addHouse_1 : decode cX6_addHouse 1 = .ok (.bipush 27, 2) := by decide +kernel
theorem dX6_addHouse_3 : decode cX6_addHouse 3 = .ok (.iaload, 1) := by decide +kernel
theorem dX6_addHouse_4 : decode cX6_addHouse 4 = .ok (.istore_n 3, 1) := by decide +kernel
theorem dX6_addHouse_5 : decode cX6_addHouse 5 = .ok (.aload_n 0, 1) := by decide +kernel
theorem dX6_addHouse_6 : decode cX6_addHouse 6 = .ok (.iconst 3, 1) := by decide +kernel
theorem dX6_addHouse_7 : decode cX6_addHouse 7 = .ok (.iload_n 3, 1) := by decide +kernel
theorem dX6_addHouse_8 : decode cX6_addHouse 8 = .ok (.iadd, 1) := by decide +kernel
theorem dX6_addHouse_9 : decode cX6_addHouse 9 = .ok (.iload_n 1, 1) := by decide +kernel
theorem dX6_addHouse_10 : decode cX6_addHouse 10 = .ok (.iastore, 1) := by decide +kernel
theorem dX6_addHouse_11 : decode cX6_addHouse 11 = .ok (.aload_n 0, 1) := by decide +kernel
theorem dX6_addHouse_12 : decode cX6_addHouse 12 = .ok (.bipush 9, 2) := by decide +kernel
theorem dX6_addHouse_14 : decode cX6_addHouse 14 = .ok (.iload_n 3, 1) := by decide +kernel
theorem dX6_addHouse_15 : decode cX6_addHouse 15 = .ok (.iadd, 1) := by decide +kernel
theorem dX6_addHouse_16 : decode cX6_addHouse 16 = .ok (.iload_n 2, 1) := by decide +kernel
theorem dX6_addHouse_17 : decode cX6_addHouse 17 = .ok (.iastore, 1) := by decide +kernel
theorem dX6_addHouse_18 : decode cX6_addHouse 18 = .ok (.aload_n 0, 1) := by decide +kernel
theorem dX6_addHouse_19 : decode cX6_addHouse 19 = .ok (.bipush 15, 2) := by decide +kernel
theorem dX6_addHouse_21 : decode cX6_addHouse 21 = .ok (.iload_n 3, 1) := by decide +kernel
theorem dX6_addHouse_22 : decode cX6_addHouse 22 = .ok (.iadd, 1) := by decide +kernel
theorem dX6_addHouse_23 : decode cX6_addHouse 23 = .ok (.iconst 0, 1) := by decide +kernel
theorem dX6_addHouse_24 : decode cX6_addHouse 24 = .ok (.iastore, 1) := by decide +kernel
theorem dX6_addHouse_25 : decode cX6_addHouse 25 = .ok (.aload_n 0, 1) := by decide +kernel
theorem dX6_addHouse_26 : decode cX6_addHouse 26 = .ok (.bipush 27, 2) := by decide +kernel
theorem dX6_addHouse_28 : decode cX6_addHouse 28 = .ok (.dup2, 1) := by decide +kernel
theorem dX6_addHouse_29 : decode cX6_addHouse 29 = .ok (.iaload, 1) := by decide +kernel
theorem dX6_addHouse_30 : decode cX6_addHouse 30 = .ok (.iconst 1, 1) := by decide +kernel
theorem dX6_addHouse_31 : decode cX6_addHouse 31 = .ok (.iadd, 1) := by decide +kernel
theorem dX6_addHouse_32 : decode cX6_addHouse 32 = .ok (.iastore, 1) := by decide +kernel
theorem dX6_addHouse_33 : decode cX6_addHouse 33 = .ok (.iload_n 3, 1) := by decide +kernel
theorem dX6_addHouse_34 : decode cX6_addHouse 34 = .ok (.ireturn, 1) := by decide +kernel
theorem dX6_addHog_0 : decode cX6_addHog 0 = .ok (.aload_n 0, 1) := by decide +kernel
theorem dX6_addHog_1 : decode cX6_addHog 1 = .ok (.bipush 28, 2) := by decide +kernel
theorem dX6_addHog_3 : decode cX6_addHog 3 = .ok (.iaload, 1) := by decide +kernel
theorem dX6_addHog_4 : decode cX6_addHog 4 = .ok (.istore 4, 2) := by decide +kernel
theorem dX6_addHog_6 : decode cX6_addHog 6 = .ok (.aload_n 0, 1) := by decide +kernel
theorem dX6_addHog_7 : decode cX6_addHog 7 = .ok (.bipush 29, 2) := by decide +kernel
theorem dX6_addHog_9 : decode cX6_addHog 9 = .ok (.iload 4, 2) := by decide +kernel
theorem dX6_addHog_11 : decode cX6_addHog 11 = .ok (.iadd, 1) := by decide +kernel
theorem dX6_addHog_12 : decode cX6_addHog 12 = .ok (.iload_n 1, 1) := by decide +kernel
theorem dX6_addHog_13 : decode cX6_addHog 13 = .ok (.iastore, 1) := by decide +kernel
theorem dX6_addHog_14 : decode cX6_addHog 14 = .ok (.aload_n 0, 1) := by decide +kernel
theorem dX6_addHog_15 : decode cX6_addHog 15 = .ok (.bipush 34, 2) := by decide +kernel
theorem dX6_addHog_17 : decode cX6_addHog 17 = .ok (.iload 4, 2) := by decide +kernel
theorem dX6_addHog_19 : decode cX6_addHog 19 = .ok (.iadd, 1) := by decide +kernel
theorem dX6_addHog_20 : decode cX6_addHog 20 = .ok (.iload_n 2, 1) := by decide +kernel
theorem dX6_addHog_21 : decode cX6_addHog 21 = .ok (.iastore, 1) := by decide +kernel
theorem dX6_addHog_22 : decode cX6_addHog 22 = .ok (.aload_n 0, 1) := by decide +kernel
theorem dX6_addHog_23 : decode cX6_addHog 23 = .ok (.bipush 21, 2) := by decide +kernel
theorem dX6_addHog_25 : decode cX6_addHog 25 = .ok (.iload 4, 2) := by decide +kernel
theorem dX6_addHog_27 : decode cX6_addHog 27 = .ok (.iadd, 1) := by decide +kernel
theorem dX6_addHog_28 : decode cX6_addHog 28 = .ok (.iload_n 3, 1) := by decide +kernel
theorem dX6_addHog_29 : decode cX6_addHog 29 = .ok (.iastore, 1) := by decide +kernel
theorem dX6_addHog_30 : decode cX6_addHog 30 = .ok (.aload_n 0, 1) := by decide +kernel
theorem dX6_addHog_31 : decode cX6_addHog 31 = .ok (.bipush 28, 2) := by decide +kernel
theorem dX6_addHog_33 : decode cX6_addHog 33 = .ok (.dup2, 1) := by decide +kernel
theorem dX6_addHog_34 : decode cX6_addHog 34 = .ok (.iaload, 1) := by decide +kernel
theorem dX6_addHog_35 : decode cX6_addHog 35 = .ok (.iconst 1, 1) := by decide +kernel
theorem dX6_addHog_36 : decode cX6_addHog 36 = .ok (.iadd, 1) := by decide +kernel
theorem dX6_addHog_37 : decode cX6_addHog 37 = .ok (.iastore, 1) := by decide +kernel
theorem dX6_addHog_38 : decode cX6_addHog 38 = .ok (.iload 4, 2) := by decide +kernel
theorem dX6_addHog_40 : decode cX6_addHog 40 = .ok (.ireturn, 1) := by decide +kernel
theorem dX6_house_0 : decode cX6_house 0 = .ok (.iload_n 1, 1) := by decide +kernel
theorem dX6_house_1 : decode cX6_house 1 = .ok (.iconst 0, 1) := by decide +kernel
theorem dX6_house_2 : decode cX6_house 2 = .ok (.sipush 9999, 3) := by decide +kernel
theorem dX6_house_5 : decode cX6_house 5 = .ok (.invokestatic 47, 3) := by decide +kernel
theorem dX6_house_8 : decode cX6_house 8 = .ok (.ifCond .eq 13, 3) := by decide +kernel
theorem dX6_house_11 : decode cX6_house 11 = .ok (.iload_n 2, 1) := by decide +kernel
theorem dX6_house_12 : decode cX6_house 12 = .ok (.iconst 0, 1) := by decide +kernel
theorem dX6_house_13 : decode cX6_house 13 = .ok (.bipush 20, 2) := by decide +kernel
theorem dX6_house_15 : decode cX6_house 15 = .ok (.invokestatic 47, 3) := by decide +kernel
theorem dX6_house_18 : decode cX6_house 18 = .ok (.ifCond .ne 5, 3) := by decide +kernel
theorem dX6_house_21 : decode cX6_house 21 = .ok (.iconst (-1), 1) := by decide +kernel
theorem dX6_house_22 : decode cX6_house 22 = .ok (.ireturn, 1) := by decide +kernel
theorem dX6_house_23 : decode cX6_house 23 = .ok (.aload_n 0, 1) := by decide +kernel
theorem dX6_house_24 : decode cX6_house 24 = .ok (.getfield 23, 3) := by decide +kernel
theorem dX6_house_27 : decode cX6_house 27 = .ok (.bipush 27, 2) := by decide +kernel
theorem dX6_house_29 : decode cX6_house 29 = .ok (.iaload, 1) := by decide +kernel
theorem dX6_house_30 : decode cX6_house 30 = .ok (.bipush 6, 2) := by decide +kernel
theorem dX6_house_32 : decode cX6_house 32 = .ok (.if_icmp .ne 6, 3) := by decide +kernel
theorem dX6_house_35 : decode cX6_house 35 = .ok (.bipush (-3), 2) := by decide +kernel
theorem dX6_house_37 : decode cX6_house 37 = .ok (.ireturn, 1) := by decide +kernel
theorem dX6_house_38 : decode cX6_house 38 = .ok (.aload_n 0, 1) := by decide +kernel
theorem dX6_house_39 : decode cX6_house 39 = .ok (.getfield 23, 3) := by decide +kernel
theorem dX6_house_42 : decode cX6_house 42 = .ok (.bipush 39, 2) := by decide +kernel
theorem dX6_house_44 : decode cX6_house 44 = .ok (.iconst 0, 1) := by decide +kernel
theorem dX6_house_45 : decode cX6_house 45 = .ok (.iastore, 1) := by decide +kernel
theorem dX6_house_46 : decode cX6_house 46 = .ok (.aload_n 0, 1) := by decide +kernel
theorem dX6_house_47 : decode cX6_house 47 = .ok (.getfield 23, 3) := by decide +kernel
theorem dX6_house_50 : decode cX6_house 50 = .ok (.iload_n 1, 1) := by decide +kernel
theorem dX6_house_51 : decode cX6_house 51 = .ok (.iload_n 2, 1) := by decide +kernel
theorem dX6_house_52 : decode cX6_house 52 = .ok (.invokestatic 51, 3) := by decide +kernel
theorem dX6_house_55 : decode cX6_house 55 = .ok (.ireturn, 1) := by decide +kernel
theorem dX6_hog_0 : decode cX6_hog 0 = .ok (.iload_n 1, 1) := by decide +kernel
theorem dX6_hog_1 : decode cX6_hog 1 = .ok (.iconst 0, 1) := by decide +kernel
theorem dX6_hog_2 : decode cX6_hog 2 = .ok (.iconst 4, 1) := by decide +kernel
theorem dX6_hog_3 : decode cX6_hog 3 = .ok (.invokestatic 47, 3) := by decide +kernel
theorem dX6_hog_6 : decode cX6_hog 6 = .ok (.ifCond .eq 21, 3) := by decide +kernel
theorem dX6_hog_9 : decode cX6_hog 9 = .ok (.iload_n 2, 1) := by decide +kernel
theorem dX6_hog_10 : decode cX6_hog 10 = .ok (.iconst 1, 1) := by decide +kernel
theorem dX6_hog_11 : decode cX6_hog 11 = .ok (.bipush 9, 2) := by decide +kernel
theorem dX6_hog_13 : decode cX6_hog 13 = .ok (.invokestatic 47, 3) := by decide +kernel
theorem dX6_hog_16 : decode cX6_hog 16 = .ok (.ifCond .eq 11, 3) := by decide +kernel
theorem dX6_hog_19 : decode cX6_hog 19 = .ok (.aload_n 0, 1) := by decide +kernel
theorem dX6_hog_20 : decode cX6_hog 20 = .ok (.iload_n 3, 1) := by decide +kernel
theorem dX6_hog_21 : decode cX6_hog 21 = .ok (.invokevirtual 55, 3) := by decide +kernel
theorem dX6_hog_24 : decode cX6_hog 24 = .ok (.ifCond .ne 5, 3) := by decide +kernel
theorem dX6_hog_27 : decode cX6_hog 27 = .ok (.iconst (-1), 1) := by decide +kernel
theorem dX6_hog_28 : decode cX6_hog 28 = .ok (.ireturn, 1) := by decide +kernel
theorem dX6_hog_29 : decode cX6_hog 29 = .ok (.aload_n 0, 1) := by decide +kernel
theorem dX6_hog_30 : decode cX6_hog 30 = .ok (.getfield 23, 3) := by decide +kernel
theorem dX6_hog_33 : decode cX6_hog 33 = .ok (.bipush 28, 2) := by decide +kernel
theorem dX6_hog_35 : decode cX6_hog 35 = .ok (.iaload, 1) := by decide +kernel
theorem dX6_hog_36 : decode cX6_hog 36 = .ok (.iconst 5, 1) := by decide +kernel
theorem dX6_hog_37 : decode cX6_hog 37 = .ok (.if_icmp .ne 6, 3) := by decide +kernel
theorem dX6_hog_40 : decode cX6_hog 40 = .ok (.bipush (-3), 2) := by decide +kernel
theorem dX6_hog_42 : decode cX6_hog 42 = .ok (.ireturn, 1) := by decide +kernel
theorem dX6_hog_43 : decode cX6_hog 43 = .ok (.aload_n 0, 1) := by decide +kernel
theorem dX6_hog_44 : decode cX6_hog 44 = .ok (.getfield 23, 3) := by decide +kernel
theorem dX6_hog_47 : decode cX6_hog 47 = .ok (.bipush 39, 2) := by decide +kernel
theorem dX6_hog_49 : decode cX6_hog 49 = .ok (.iconst 0, 1) := by decide +kernel
theorem dX6_hog_50 : decode cX6_hog 50 = .ok (.iastore, 1) := by decide +kernel
theorem dX6_hog_51 : decode cX6_hog 51 = .ok (.aload_n 0, 1) := by decide +kernel
theorem dX6_hog_52 : decode cX6_hog 52 = .ok (.getfield 23, 3) := by decide +kernel
theorem dX6_hog_55 : decode cX6_hog 55 = .ok (.iload_n 1, 1) := by decide +kernel
theorem dX6_hog_56 : decode cX6_hog 56 = .ok (.iload_n 2, 1) := by decide +kernel
theorem dX6_hog_57 : decode cX6_hog 57 = .ok (.iload_n 3, 1) := by decide +kernel
theorem dX6_hog_58 : decode cX6_hog 58 = .ok (.invokestatic 59, 3) := by decide +kernel
theorem dX6_hog_61 : decode cX6_hog 61 = .ok (.ireturn, 1) := by decide +kernel
theorem dX6_interest_0 : decode cX6_interest 0 = .ok (.iload_n 1, 1) := by decide +kernel
theorem dX6_interest_1 : decode cX6_interest 1 = .ok (.iconst 0, 1) := by decide +kernel
theorem dX6_interest_2 : decode cX6_interest 2 = .ok (.bipush 20, 2) := by decide +kernel
theorem dX6_interest_4 : decode cX6_interest 4 = .ok (.invokestatic 47, 3) := by decide +kernel
theorem dX6_interest_7 : decode cX6_interest 7 = .ok (.ifCond .ne 5, 3) := by decide +kernel
theorem dX6_interest_10 : decode cX6_interest 10 = .ok (.iconst (-1), 1) := by decide +kernel
theorem dX6_interest_11 : decode cX6_interest 11 = .ok (.ireturn, 1) := by decide +kernel
theorem dX6_interest_12 : decode cX6_interest 12 = .ok (.aload_n 0, 1) := by decide +kernel
theorem dX6_interest_13 : decode cX6_interest 13 = .ok (.getfield 23, 3) := by decide +kernel
theorem dX6_interest_16 : decode cX6_interest 16 = .ok (.bipush 26, 2) := by decide +kernel
theorem dX6_interest_18 : decode cX6_interest 18 = .ok (.iaload, 1) := by decide +kernel
theorem dX6_interest_19 : decode cX6_interest 19 = .ok (.istore_n 2, 1) := by decide +kernel
theorem dX6_interest_20 : decode cX6_interest 20 = .ok (.aload_n 0, 1) := by decide +kernel
theorem dX6_interest_21 : decode cX6_interest 21 = .ok (.getfield 23, 3) := by decide +kernel
theorem dX6_interest_24 : decode cX6_interest 24 = .ok (.bipush 26, 2) := by decide +kernel
theorem dX6_interest_26 : decode cX6_interest 26 = .ok (.iload_n 1, 1) := by decide +kernel
theorem dX6_interest_27 : decode cX6_interest 27 = .ok (.iastore, 1) := by decide +kernel
theorem dX6_interest_28 : decode cX6_interest 28 = .ok (.iload_n 2, 1) := by decide +kernel
theorem dX6_interest_29 : decode cX6_interest 29 = .ok (.ireturn, 1) := by decide +kernel
theorem dX6_hogsAt_0 : decode cX6_hogsAt 0 = .ok (.iconst 0, 1) := by decide +kernel
theorem dX6_hogsAt_1 : decode cX6_hogsAt 1 = .ok (.istore_n 2, 1) := by decide +kernel
theorem dX6_hogsAt_2 : decode cX6_hogsAt 2 = .ok (.iconst 0, 1) := by decide +kernel
theorem dX6_hogsAt_3 : decode cX6_hogsAt 3 = .ok (.istore_n 3, 1) := by decide +kernel
theorem dX6_hogsAt_4 : decode cX6_hogsAt 4 = .ok (.iload_n 3, 1) := by decide +kernel
theorem dX6_hogsAt_5 : decode cX6_hogsAt 5 = .ok (.aload_n 0, 1) := by decide +kernel
theorem dX6_hogsAt_6 : decode cX6_hogsAt 6 = .ok (.bipush 28, 2) := by decide +kernel
theorem dX6_hogsAt_8 : decode cX6_hogsAt 8 = .ok (.iaload, 1) := by decide +kernel
theorem dX6_hogsAt_9 : decode cX6_hogsAt 9 = .ok (.if_icmp .ge 29, 3) := by decide +kernel
theorem dX6_hogsAt_12 : decode cX6_hogsAt 12 = .ok (.iload_n 2, 1) := by decide +kernel
theorem dX6_hogsAt_13 : decode cX6_hogsAt 13 = .ok (.aload_n 0, 1) := by decide +kernel
theorem dX6_hogsAt_14 : decode cX6_hogsAt 14 = .ok (.bipush 21, 2) := by decide +kernel
theorem dX6_hogsAt_16 : decode cX6_hogsAt 16 = .ok (.iload_n 3, 1) := by decide +kernel
theorem dX6_hogsAt_17 : decode cX6_hogsAt 17 = .ok (.iadd, 1) := by decide +kernel
theorem dX6_hogsAt_18 : decode cX6_hogsAt 18 = .ok (.iaload, 1) := by decide +kernel
theorem dX6_hogsAt_19 : decode cX6_hogsAt 19 = .ok (.iload_n 1, 1) := by decide +kernel
theorem dX6_hogsAt_20 : decode cX6_hogsAt 20 = .ok (.if_icmp .ne 9, 3) := by decide +kernel
theorem dX6_hogsAt_23 : decode cX6_hogsAt 23 = .ok (.iconst 1, 1) := by decide +kernel
theorem dX6_hogsAt_24 : decode cX6_hogsAt 24 = .ok (.iload_n 3, 1) := by decide +kernel
theorem dX6_hogsAt_25 : decode cX6_hogsAt 25 = .ok (.ishl, 1) := by decide +kernel
theorem dX6_hogsAt_26 : decode cX6_hogsAt 26 = .ok (.goto 4, 3) := by decide +kernel
theorem dX6_hogsAt_29 : decode cX6_hogsAt 29 = .ok (.iconst 0, 1) := by decide +kernel
theorem dX6_hogsAt_30 : decode cX6_hogsAt 30 = .ok (.ior, 1) := by decide +kernel
theorem dX6_hogsAt_31 : decode cX6_hogsAt 31 = .ok (.istore_n 2, 1) := by decide +kernel
theorem dX6_hogsAt_32 : decode cX6_hogsAt 32 = .ok (.iinc 3 1, 3) := by decide +kernel
theorem dX6_hogsAt_35 : decode cX6_hogsAt 35 = .ok (.goto (-31), 3) := by decide +kernel
theorem dX6_hogsAt_38 : decode cX6_hogsAt 38 = .ok (.iload_n 2, 1) := by decide +kernel
theorem dX6_hogsAt_39 : decode cX6_hogsAt 39 = .ok (.ireturn, 1) := by decide +kernel
theorem dX6_isLost_0 : decode cX6_isLost 0 = .ok (.aload_n 0, 1) := by decide +kernel
theorem dX6_isLost_1 : decode cX6_isLost 1 = .ok (.bipush 15, 2) := by decide +kernel
theorem dX6_isLost_3 : decode cX6_isLost 3 = .ok (.iload_n 1, 1) := by decide +kernel
theorem dX6_isLost_4 : decode cX6_isLost 4 = .ok (.iadd, 1) := by decide +kernel
theorem dX6_isLost_5 : decode cX6_isLost 5 = .ok (.iaload, 1) := by decide +kernel
theorem dX6_isLost_6 : decode cX6_isLost 6 = .ok (.iconst 3, 1) := by decide +kernel
theorem dX6_isLost_7 : decode cX6_isLost 7 = .ok (.if_icmp .ne 7, 3) := by decide +kernel
theorem dX6_isLost_10 : decode cX6_isLost 10 = .ok (.iconst 1, 1) := by decide +kernel
theorem dX6_isLost_11 : decode cX6_isLost 11 = .ok (.goto 4, 3) := by decide +kernel
theorem dX6_isLost_14 : decode cX6_isLost 14 = .ok (.iconst 0, 1) := by decide +kernel
theorem dX6_isLost_15 : decode cX6_isLost 15 = .ok (.ireturn, 1) := by decide +kernel
theorem dX6_of_0 : decode cX6_of 0 = .ok (.aload_n 0, 1) := by decide +kernel
theorem dX6_of_1 : decode cX6_of 1 = .ok (.iload_n 1, 1) := by decide +kernel
theorem dX6_of_2 : decode cX6_of 2 = .ok (.invokevirtual 55, 3) := by decide +kernel
theorem dX6_of_5 : decode cX6_of 5 = .ok (.ifCond .ne 5, 3) := by decide +kernel
theorem dX6_of_8 : decode cX6_of 8 = .ok (.iconst (-1), 1) := by decide +kernel
theorem dX6_of_9 : decode cX6_of 9 = .ok (.ireturn, 1) := by decide +kernel
theorem dX6_of_10 : decode cX6_of 10 = .ok (.iload_n 2, 1) := by decide +kernel
theorem dX6_of_11 : decode cX6_of 11 = .ok (.tableswitch 88 0 4 #[33, 42, 52, 62, 79], 33) := by decide +kernel
theorem dX6_of_44 : decode cX6_of 44 = .ok (.aload_n 0, 1) := by decide +kernel
theorem dX6_of_45 : decode cX6_of 45 = .ok (.getfield 23, 3) := by decide +kernel
theorem dX6_of_48 : decode cX6_of 48 = .ok (.iconst 3, 1) := by decide +kernel
theorem dX6_of_49 : decode cX6_of 49 = .ok (.iload_n 1, 1) := by decide +kernel
theorem dX6_of_50 : decode cX6_of 50 = .ok (.iadd, 1) := by decide +kernel
theorem dX6_of_51 : decode cX6_of 51 = .ok (.iaload, 1) := by decide +kernel
theorem dX6_of_52 : decode cX6_of 52 = .ok (.ireturn, 1) := by decide +kernel
theorem dX6_of_53 : decode cX6_of 53 = .ok (.aload_n 0, 1) := by decide +kernel
theorem dX6_of_54 : decode cX6_of 54 = .ok (.getfield 23, 3) := by decide +kernel
theorem dX6_of_57 : decode cX6_of 57 = .ok (.bipush 9, 2) := by decide +kernel
theorem dX6_of_59 : decode cX6_of 59 = .ok (.iload_n 1, 1) := by decide +kernel
theorem dX6_of_60 : decode cX6_of 60 = .ok (.iadd, 1) := by decide +kernel
theorem dX6_of_61 : decode cX6_of 61 = .ok (.iaload, 1) := by decide +kernel
theorem dX6_of_62 : decode cX6_of 62 = .ok (.ireturn, 1) := by decide +kernel
theorem dX6_of_63 : decode cX6_of 63 = .ok (.aload_n 0, 1) := by decide +kernel
theorem dX6_of_64 : decode cX6_of 64 = .ok (.getfield 23, 3) := by decide +kernel
theorem dX6_of_67 : decode cX6_of 67 = .ok (.bipush 15, 2) := by decide +kernel
theorem dX6_of_69 : decode cX6_of 69 = .ok (.iload_n 1, 1) := by decide +kernel
theorem dX6_of_70 : decode cX6_of 70 = .ok (.iadd, 1) := by decide +kernel
theorem dX6_of_71 : decode cX6_of 71 = .ok (.iaload, 1) := by decide +kernel
theorem dX6_of_72 : decode cX6_of 72 = .ok (.ireturn, 1) := by decide +kernel
theorem dX6_of_73 : decode cX6_of 73 = .ok (.aload_n 0, 1) := by decide +kernel
theorem dX6_of_74 : decode cX6_of 74 = .ok (.getfield 23, 3) := by decide +kernel
theorem dX6_of_77 : decode cX6_of 77 = .ok (.iload_n 1, 1) := by decide +kernel
theorem dX6_of_78 : decode cX6_of 78 = .ok (.invokestatic 63, 3) := by decide +kernel
theorem dX6_of_81 : decode cX6_of 81 = .ok (.ifCond .eq 7, 3) := by decide +kernel
theorem dX6_of_84 : decode cX6_of 84 = .ok (.iconst 1, 1) := by decide +kernel
theorem dX6_of_85 : decode cX6_of 85 = .ok (.goto 4, 3) := by decide +kernel
theorem dX6_of_88 : decode cX6_of 88 = .ok (.iconst 0, 1) := by decide +kernel
theorem dX6_of_89 : decode cX6_of 89 = .ok (.ireturn, 1) := by decide +kernel
theorem dX6_of_90 : decode cX6_of 90 = .ok (.aload_n 0, 1) := by decide +kernel
theorem dX6_of_91 : decode cX6_of 91 = .ok (.getfield 23, 3) := by decide +kernel
theorem dX6_of_94 : decode cX6_of 94 = .ok (.iload_n 1, 1) := by decide +kernel
theorem dX6_of_95 : decode cX6_of 95 = .ok (.invokestatic 67, 3) := by decide +kernel
theorem dX6_of_98 : decode cX6_of 98 = .ok (.ireturn, 1) := by decide +kernel
theorem dX6_of_99 : decode cX6_of 99 = .ok (.iconst (-1), 1) := by decide +kernel
theorem dX6_of_100 : decode cX6_of 100 = .ok (.ireturn, 1) := by decide +kernel
theorem dX6_mealOf_0 : decode cX6_mealOf 0 = .ok (.aload_n 0, 1) := by decide +kernel
theorem dX6_mealOf_1 : decode cX6_mealOf 1 = .ok (.bipush 34, 2) := by decide +kernel
theorem dX6_mealOf_3 : decode cX6_mealOf 3 = .ok (.iload_n 1, 1) := by decide +kernel
theorem dX6_mealOf_4 : decode cX6_mealOf 4 = .ok (.iadd, 1) := by decide +kernel
theorem dX6_mealOf_5 : decode cX6_mealOf 5 = .ok (.iaload, 1) := by decide +kernel
theorem dX6_mealOf_6 : decode cX6_mealOf 6 = .ok (.istore_n 2, 1) := by decide +kernel
theorem dX6_mealOf_7 : decode cX6_mealOf 7 = .ok (.aload_n 0, 1) := by decide +kernel
theorem dX6_mealOf_8 : decode cX6_mealOf 8 = .ok (.bipush 29, 2) := by decide +kernel
theorem dX6_mealOf_10 : decode cX6_mealOf 10 = .ok (.iload_n 1, 1) := by decide +kernel
theorem dX6_mealOf_11 : decode cX6_mealOf 11 = .ok (.iadd, 1) := by decide +kernel
theorem dX6_mealOf_12 : decode cX6_mealOf 12 = .ok (.iaload, 1) := by decide +kernel
theorem dX6_mealOf_13 : decode cX6_mealOf 13 = .ok (.iconst 3, 1) := by decide +kernel
theorem dX6_mealOf_14 : decode cX6_mealOf 14 = .ok (.if_icmp .ne 9, 3) := by decide +kernel
theorem dX6_mealOf_17 : decode cX6_mealOf 17 = .ok (.iconst 2, 1) := by decide +kernel
theorem dX6_mealOf_18 : decode cX6_mealOf 18 = .ok (.iload_n 2, 1) := by decide +kernel
theorem dX6_mealOf_19 : decode cX6_mealOf 19 = .ok (.imul, 1) := by decide +kernel
theorem dX6_mealOf_20 : decode cX6_mealOf 20 = .ok (.goto 20, 3) := by decide +kernel
theorem dX6_mealOf_23 : decode cX6_mealOf 23 = .ok (.aload_n 0, 1) := by decide +kernel
theorem dX6_mealOf_24 : decode cX6_mealOf 24 = .ok (.bipush 29, 2) := by decide +kernel
theorem dX6_mealOf_26 : decode cX6_mealOf 26 = .ok (.iload_n 1, 1) := by decide +kernel
theorem dX6_mealOf_27 : decode cX6_mealOf 27 = .ok (.iadd, 1) := by decide +kernel
theorem dX6_mealOf_28 : decode cX6_mealOf 28 = .ok (.iaload, 1) := by decide +kernel
theorem dX6_mealOf_29 : decode cX6_mealOf 29 = .ok (.iconst 4, 1) := by decide +kernel
theorem dX6_mealOf_30 : decode cX6_mealOf 30 = .ok (.if_icmp .ne 9, 3) := by decide +kernel
theorem dX6_mealOf_33 : decode cX6_mealOf 33 = .ok (.iload_n 2, 1) := by decide +kernel
theorem dX6_mealOf_34 : decode cX6_mealOf 34 = .ok (.iconst 2, 1) := by decide +kernel
theorem dX6_mealOf_35 : decode cX6_mealOf 35 = .ok (.idiv, 1) := by decide +kernel
theorem dX6_mealOf_36 : decode cX6_mealOf 36 = .ok (.goto 4, 3) := by decide +kernel
theorem dX6_mealOf_39 : decode cX6_mealOf 39 = .ok (.iload_n 2, 1) := by decide +kernel
theorem dX6_mealOf_40 : decode cX6_mealOf 40 = .ok (.ireturn, 1) := by decide +kernel
theorem dX6_at_0 : decode cX6_at 0 = .ok (.aload_n 0, 1) := by decide +kernel
theorem dX6_at_1 : decode cX6_at 1 = .ok (.iload_n 1, 1) := by decide +kernel
theorem dX6_at_2 : decode cX6_at 2 = .ok (.invokevirtual 71, 3) := by decide +kernel
theorem dX6_at_5 : decode cX6_at 5 = .ok (.ifCond .ne 5, 3) := by decide +kernel
theorem dX6_at_8 : decode cX6_at 8 = .ok (.iconst (-1), 1) := by decide +kernel
theorem dX6_at_9 : decode cX6_at 9 = .ok (.ireturn, 1) := by decide +kernel
theorem dX6_at_10 : decode cX6_at 10 = .ok (.iload_n 2, 1) := by decide +kernel
theorem dX6_at_11 : decode cX6_at 11 = .ok (.tableswitch 68 0 3 #[29, 39, 49, 59], 29) := by decide +kernel
theorem dX6_at_40 : decode cX6_at 40 = .ok (.aload_n 0, 1) := by decide +kernel
theorem dX6_at_41 : decode cX6_at 41 = .ok (.getfield 23, 3) := by decide +kernel
theorem dX6_at_44 : decode cX6_at 44 = .ok (.bipush 29, 2) := by decide +kernel
theorem dX6_at_46 : decode cX6_at 46 = .ok (.iload_n 1, 1) := by decide +kernel
theorem dX6_at_47 : decode cX6_at 47 = .ok (.iadd, 1) := by decide +kernel
theorem dX6_at_48 : decode cX6_at 48 = .ok (.iaload, 1) := by decide +kernel
theorem dX6_at_49 : decode cX6_at 49 = .ok (.ireturn, 1) := by decide +kernel
theorem dX6_at_50 : decode cX6_at 50 = .ok (.aload_n 0, 1) := by decide +kernel
theorem dX6_at_51 : decode cX6_at 51 = .ok (.getfield 23, 3) := by decide +kernel
theorem dX6_at_54 : decode cX6_at 54 = .ok (.bipush 34, 2) := by decide +kernel
theorem dX6_at_56 : decode cX6_at 56 = .ok (.iload_n 1, 1) := by decide +kernel
theorem dX6_at_57 : decode cX6_at 57 = .ok (.iadd, 1) := by decide +kernel
theorem dX6_at_58 : decode cX6_at 58 = .ok (.iaload, 1) := by decide +kernel
theorem dX6_at_59 : decode cX6_at 59 = .ok (.ireturn, 1) := by decide +kernel
theorem dX6_at_60 : decode cX6_at 60 = .ok (.aload_n 0, 1) := by decide +kernel
theorem dX6_at_61 : decode cX6_at 61 = .ok (.getfield 23, 3) := by decide +kernel
theorem dX6_at_64 : decode cX6_at 64 = .ok (.bipush 21, 2) := by decide +kernel
theorem dX6_at_66 : decode cX6_at 66 = .ok (.iload_n 1, 1) := by decide +kernel
theorem dX6_at_67 : decode cX6_at 67 = .ok (.iadd, 1) := by decide +kernel
theorem dX6_at_68 : decode cX6_at 68 = .ok (.iaload, 1) := by decide +kernel
theorem dX6_at_69 : decode cX6_at 69 = .ok (.ireturn, 1) := by decide +kernel
theorem dX6_at_70 : decode cX6_at 70 = .ok (.aload_n 0, 1) := by decide +kernel
theorem dX6_at_71 : decode cX6_at 71 = .ok (.getfield 23, 3) := by decide +kernel
theorem dX6_at_74 : decode cX6_at 74 = .ok (.iload_n 1, 1) := by decide +kernel
theorem dX6_at_75 : decode cX6_at 75 = .ok (.invokestatic 74, 3) := by decide +kernel
theorem dX6_at_78 : decode cX6_at 78 = .ok (.ireturn, 1) := by decide +kernel
theorem dX6_at_79 : decode cX6_at 79 = .ok (.iconst (-1), 1) := by decide +kernel
theorem dX6_at_80 : decode cX6_at 80 = .ok (.ireturn, 1) := by decide +kernel
theorem dX6_type_0 : decode cX6_type 0 = .ok (.iload_n 1, 1) := by decide +kernel
theorem dX6_type_1 : decode cX6_type 1 = .ok (.bipush 32, 2) := by decide +kernel
theorem dX6_type_3 : decode cX6_type 3 = .ok (.bipush 126, 2) := by decide +kernel
theorem dX6_type_5 : decode cX6_type 5 = .ok (.invokestatic 47, 3) := by decide +kernel
theorem dX6_type_8 : decode cX6_type 8 = .ok (.ifCond .ne 5, 3) := by decide +kernel
theorem dX6_type_11 : decode cX6_type 11 = .ok (.iconst (-1), 1) := by decide +kernel
theorem dX6_type_12 : decode cX6_type 12 = .ok (.ireturn, 1) := by decide +kernel
theorem dX6_type_13 : decode cX6_type 13 = .ok (.aload_n 0, 1) := by decide +kernel
theorem dX6_type_14 : decode cX6_type 14 = .ok (.getfield 77, 3) := by decide +kernel
theorem dX6_type_17 : decode cX6_type 17 = .ok (.bipush 80, 2) := by decide +kernel
theorem dX6_type_19 : decode cX6_type 19 = .ok (.if_icmp .ne 6, 3) := by decide +kernel
theorem dX6_type_22 : decode cX6_type 22 = .ok (.bipush (-3), 2) := by decide +kernel
theorem dX6_type_24 : decode cX6_type 24 = .ok (.ireturn, 1) := by decide +kernel
theorem dX6_type_25 : decode cX6_type 25 = .ok (.aload_n 0, 1) := by decide +kernel
theorem dX6_type_26 : decode cX6_type 26 = .ok (.getfield 20, 3) := by decide +kernel
theorem dX6_type_29 : decode cX6_type 29 = .ok (.aload_n 0, 1) := by decide +kernel
theorem dX6_type_30 : decode cX6_type 30 = .ok (.getfield 77, 3) := by decide +kernel
theorem dX6_type_33 : decode cX6_type 33 = .ok (.iload_n 1, 1) := by decide +kernel
theorem dX6_type_34 : decode cX6_type 34 = .ok (.iastore, 1) := by decide +kernel
theorem dX6_type_35 : decode cX6_type 35 = .ok (.aload_n 0, 1) := by decide +kernel
theorem dX6_type_36 : decode cX6_type 36 = .ok (.dup, 1) := by decide +kernel
theorem dX6_type_37 : decode cX6_type 37 = .ok (.getfield 77, 3) := by decide +kernel
theorem dX6_type_40 : decode cX6_type 40 = .ok (.iconst 1, 1) := by decide +kernel
theorem dX6_type_41 : decode cX6_type 41 = .ok (.iadd, 1) := by decide +kernel
theorem dX6_type_42 : decode cX6_type 42 = .ok (.putfield 77, 3) := by decide +kernel
theorem dX6_type_45 : decode cX6_type 45 = .ok (.aload_n 0, 1) := by decide +kernel
theorem dX6_type_46 : decode cX6_type 46 = .ok (.getfield 77, 3) := by decide +kernel
theorem dX6_type_49 : decode cX6_type 49 = .ok (.ireturn, 1) := by decide +kernel
theorem dX6_peek_0 : decode cX6_peek 0 = .ok (.aload_n 0, 1) := by decide +kernel
theorem dX6_peek_1 : decode cX6_peek 1 = .ok (.getfield 81, 3) := by decide +kernel
theorem dX6_peek_4 : decode cX6_peek 4 = .ok (.aload_n 0, 1) := by decide +kernel
theorem dX6_peek_5 : decode cX6_peek 5 = .ok (.getfield 77, 3) := by decide +kernel
theorem dX6_peek_8 : decode cX6_peek 8 = .ok (.if_icmp .ge 30, 3) := by decide +kernel
theorem dX6_peek_11 : decode cX6_peek 11 = .ok (.aload_n 0, 1) := by decide +kernel
theorem dX6_peek_12 : decode cX6_peek 12 = .ok (.getfield 20, 3) := by decide +kernel
theorem dX6_peek_15 : decode cX6_peek 15 = .ok (.aload_n 0, 1) := by decide +kernel
theorem dX6_peek_16 : decode cX6_peek 16 = .ok (.getfield 81, 3) := by decide +kernel
theorem dX6_peek_19 : decode cX6_peek 19 = .ok (.iaload, 1) := by decide +kernel
theorem dX6_peek_20 : decode cX6_peek 20 = .ok (.bipush 32, 2) := by decide +kernel
theorem dX6_peek_22 : decode cX6_peek 22 = .ok (.if_icmp .ne 16, 3) := by decide +kernel
theorem dX6_peek_25 : decode cX6_peek 25 = .ok (.aload_n 0, 1) := by decide +kernel
theorem dX6_peek_26 : decode cX6_peek 26 = .ok (.dup, 1) := by decide +kernel
theorem dX6_peek_27 : decode cX6_peek 27 = .ok (.getfield 81, 3) := by decide +kernel
theorem dX6_peek_30 : decode cX6_peek 30 = .ok (.iconst 1, 1) := by decide +kernel
theorem dX6_peek_31 : decode cX6_peek 31 = .ok (.iadd, 1) := by decide +kernel
theorem dX6_peek_32 : decode cX6_peek 32 = .ok (.putfield 81, 3) := by decide +kernel
theorem dX6_peek_35 : decode cX6_peek 35 = .ok (.goto (-35), 3) := by decide +kernel
theorem dX6_peek_38 : decode cX6_peek 38 = .ok (.aload_n 0, 1) := by decide +kernel
theorem dX6_peek_39 : decode cX6_peek 39 = .ok (.getfield 81, 3) := by decide +kernel
theorem dX6_peek_42 : decode cX6_peek 42 = .ok (.aload_n 0, 1) := by decide +kernel
theorem dX6_peek_43 : decode cX6_peek 43 = .ok (.getfield 77, 3) := by decide +kernel
theorem dX6_peek_46 : decode cX6_peek 46 = .ok (.if_icmp .ge 15, 3) := by decide +kernel
theorem dX6_peek_49 : decode cX6_peek 49 = .ok (.aload_n 0, 1) := by decide +kernel
theorem dX6_peek_50 : decode cX6_peek 50 = .ok (.getfield 20, 3) := by decide +kernel
theorem dX6_peek_53 : decode cX6_peek 53 = .ok (.aload_n 0, 1) := by decide +kernel
theorem dX6_peek_54 : decode cX6_peek 54 = .ok (.getfield 81, 3) := by decide +kernel
theorem dX6_peek_57 : decode cX6_peek 57 = .ok (.iaload, 1) := by decide +kernel
theorem dX6_peek_58 : decode cX6_peek 58 = .ok (.goto 4, 3) := by decide +kernel
theorem dX6_peek_61 : decode cX6_peek 61 = .ok (.iconst 0, 1) := by decide +kernel
theorem dX6_peek_62 : decode cX6_peek 62 = .ok (.ireturn, 1) := by decide +kernel
theorem dX6_isSign_0 : decode cX6_isSign 0 = .ok (.aload_n 0, 1) := by decide +kernel
theorem dX6_isSign_1 : decode cX6_isSign 1 = .ok (.invokevirtual 84, 3) := by decide +kernel
theorem dX6_isSign_4 : decode cX6_isSign 4 = .ok (.iload_n 1, 1) := by decide +kernel
theorem dX6_isSign_5 : decode cX6_isSign 5 = .ok (.if_icmp .eq 5, 3) := by decide +kernel
theorem dX6_isSign_8 : decode cX6_isSign 8 = .ok (.iconst 0, 1) := by decide +kernel
theorem dX6_isSign_9 : decode cX6_isSign 9 = .ok (.ireturn, 1) := by decide +kernel
theorem dX6_isSign_10 : decode cX6_isSign 10 = .ok (.aload_n 0, 1) := by decide +kernel
theorem dX6_isSign_11 : decode cX6_isSign 11 = .ok (.dup, 1) := by decide +kernel
theorem dX6_isSign_12 : decode cX6_isSign 12 = .ok (.getfield 81, 3) := by decide +kernel
theorem dX6_isSign_15 : decode cX6_isSign 15 = .ok (.iconst 1, 1) := by decide +kernel
theorem dX6_isSign_16 : decode cX6_isSign 16 = .ok (.iadd, 1) := by decide +kernel
theorem dX6_isSign_17 : decode cX6_isSign 17 = .ok (.putfield 81, 3) := by decide +kernel
theorem dX6_isSign_20 : decode cX6_isSign 20 = .ok (.iconst 1, 1) := by decide +kernel
theorem dX6_isSign_21 : decode cX6_isSign 21 = .ok (.ireturn, 1) := by decide +kernel
theorem dX6_isDigit_0 : decode cX6_isDigit 0 = .ok (.aload_n 0, 1) := by decide +kernel
theorem dX6_isDigit_1 : decode cX6_isDigit 1 = .ok (.aload_n 0, 1) := by decide +kernel
theorem dX6_isDigit_2 : decode cX6_isDigit 2 = .ok (.invokevirtual 84, 3) := by decide +kernel
theorem dX6_isDigit_5 : decode cX6_isDigit 5 = .ok (.bipush 48, 2) := by decide +kernel
theorem dX6_isDigit_7 : decode cX6_isDigit 7 = .ok (.isub, 1) := by decide +kernel
theorem dX6_isDigit_8 : decode cX6_isDigit 8 = .ok (.putfield 88, 3) := by decide +kernel
theorem dX6_isDigit_11 : decode cX6_isDigit 11 = .ok (.aload_n 0, 1) := by decide +kernel
theorem dX6_isDigit_12 : decode cX6_isDigit 12 = .ok (.getfield 88, 3) := by decide +kernel
theorem dX6_isDigit_15 : decode cX6_isDigit 15 = .ok (.iload_n 1, 1) := by decide +kernel
theorem dX6_isDigit_16 : decode cX6_isDigit 16 = .ok (.iload_n 2, 1) := by decide +kernel
theorem dX6_isDigit_17 : decode cX6_isDigit 17 = .ok (.invokestatic 47, 3) := by decide +kernel
theorem dX6_isDigit_20 : decode cX6_isDigit 20 = .ok (.ifCond .ne 5, 3) := by decide +kernel
theorem dX6_isDigit_23 : decode cX6_isDigit 23 = .ok (.iconst 0, 1) := by decide +kernel
theorem dX6_isDigit_24 : decode cX6_isDigit 24 = .ok (.ireturn, 1) := by decide +kernel
theorem dX6_isDigit_25 : decode cX6_isDigit 25 = .ok (.aload_n 0, 1) := by decide +kernel
theorem dX6_isDigit_26 : decode cX6_isDigit 26 = .ok (.dup, 1) := by decide +kernel
theorem dX6_isDigit_27 : decode cX6_isDigit 27 = .ok (.getfield 81, 3) := by decide +kernel
theorem dX6_isDigit_30 : decode cX6_isDigit 30 = .ok (.iconst 1, 1) := by decide +kernel
theorem dX6_isDigit_31 : decode cX6_isDigit 31 = .ok (.iadd, 1) := by decide +kernel
theorem dX6_isDigit_32 : decode cX6_isDigit 32 = .ok (.putfield 81, 3) := by decide +kernel
theorem dX6_isDigit_35 : decode cX6_isDigit 35 = .ok (.iconst 1, 1) := by decide +kernel
theorem dX6_isDigit_36 : decode cX6_isDigit 36 = .ok (.ireturn, 1) := by decide +kernel
theorem dX6_isNumber_0 : decode cX6_isNumber 0 = .ok (.aload_n 0, 1) := by decide +kernel
theorem dX6_isNumber_1 : decode cX6_isNumber 1 = .ok (.iconst 0, 1) := by decide +kernel
theorem dX6_isNumber_2 : decode cX6_isNumber 2 = .ok (.bipush 9, 2) := by decide +kernel
theorem dX6_isNumber_4 : decode cX6_isNumber 4 = .ok (.invokevirtual 91, 3) := by decide +kernel
theorem dX6_isNumber_7 : decode cX6_isNumber 7 = .ok (.ifCond .ne 5, 3) := by decide +kernel
theorem dX6_isNumber_10 : decode cX6_isNumber 10 = .ok (.iconst 0, 1) := by decide +kernel
theorem dX6_isNumber_11 : decode cX6_isNumber 11 = .ok (.ireturn, 1) := by decide +kernel
theorem dX6_isNumber_12 : decode cX6_isNumber 12 = .ok (.aload_n 0, 1) := by decide +kernel
theorem dX6_isNumber_13 : decode cX6_isNumber 13 = .ok (.getfield 81, 3) := by decide +kernel
theorem dX6_isNumber_16 : decode cX6_isNumber 16 = .ok (.iconst 1, 1) := by decide +kernel
theorem dX6_isNumber_17 : decode cX6_isNumber 17 = .ok (.isub, 1) := by decide +kernel
theorem dX6_isNumber_18 : decode cX6_isNumber 18 = .ok (.istore_n 2, 1) := by decide +kernel
theorem dX6_isNumber_19 : decode cX6_isNumber 19 = .ok (.aload_n 0, 1) := by decide +kernel
theorem dX6_isNumber_20 : decode cX6_isNumber 20 = .ok (.getfield 88, 3) := by decide +kernel
theorem dX6_isNumber_23 : decode cX6_isNumber 23 = .ok (.istore_n 3, 1) := by decide +kernel
theorem dX6_isNumber_24 : decode cX6_isNumber 24 = .ok (.aload_n 0, 1) := by decide +kernel
theorem dX6_isNumber_25 : decode cX6_isNumber 25 = .ok (.getfield 81, 3) := by decide +kernel
theorem dX6_isNumber_28 : decode cX6_isNumber 28 = .ok (.aload_n 0, 1) := by decide +kernel
theorem dX6_isNumber_29 : decode cX6_isNumber 29 = .ok (.getfield 77, 3) := by decide +kernel
theorem dX6_isNumber_32 : decode cX6_isNumber 32 = .ok (.if_icmp .ge 50, 3) := by decide +kernel
theorem dX6_isNumber_35 : decode cX6_isNumber 35 = .ok (.aload_n 0, 1) := by decide +kernel
theorem dX6_isNumber_36 : decode cX6_isNumber 36 = .ok (.getfield 20, 3) := by decide +kernel
theorem dX6_isNumber_39 : decode cX6_isNumber 39 = .ok (.aload_n 0, 1) := by decide +kernel
theorem dX6_isNumber_40 : decode cX6_isNumber 40 = .ok (.getfield 81, 3) := by decide +kernel
theorem dX6_isNumber_43 : decode cX6_isNumber 43 = .ok (.iaload, 1) := by decide +kernel
theorem dX6_isNumber_44 : decode cX6_isNumber 44 = .ok (.bipush 48, 2) := by decide +kernel
theorem dX6_isNumber_46 : decode cX6_isNumber 46 = .ok (.bipush 57, 2) := by decide +kernel
theorem dX6_isNumber_48 : decode cX6_isNumber 48 = .ok (.invokestatic 47, 3) := by decide +kernel
theorem dX6_isNumber_51 : decode cX6_isNumber 51 = .ok (.ifCond .eq 31, 3) := by decide +kernel
theorem dX6_isNumber_54 : decode cX6_isNumber 54 = .ok (.bipush 10, 2) := by decide +kernel
theorem dX6_isNumber_56 : decode cX6_isNumber 56 = .ok (.iload_n 3, 1) := by decide +kernel
theorem dX6_isNumber_57 : decode cX6_isNumber 57 = .ok (.imul, 1) := by decide +kernel
theorem dX6_isNumber_58 : decode cX6_isNumber 58 = .ok (.aload_n 0, 1) := by decide +kernel
theorem dX6_isNumber_59 : decode cX6_isNumber 59 = .ok (.getfield 20, 3) := by decide +kernel
theorem dX6_isNumber_62 : decode cX6_isNumber 62 = .ok (.aload_n 0, 1) := by decide +kernel
theorem dX6_isNumber_63 : decode cX6_isNumber 63 = .ok (.getfield 81, 3) := by decide +kernel
theorem dX6_isNumber_66 : decode cX6_isNumber 66 = .ok (.iaload, 1) := by decide +kernel
theorem dX6_isNumber_67 : decode cX6_isNumber 67 = .ok (.iadd, 1) := by decide +kernel
theorem dX6_isNumber_68 : decode cX6_isNumber 68 = .ok (.bipush 48, 2) := by decide +kernel
theorem dX6_isNumber_70 : decode cX6_isNumber 70 = .ok (.isub, 1) := by decide +kernel
theorem dX6_isNumber_71 : decode cX6_isNumber 71 = .ok (.istore_n 3, 1) := by decide +kernel
theorem dX6_isNumber_72 : decode cX6_isNumber 72 = .ok (.aload_n 0, 1) := by decide +kernel
theorem dX6_isNumber_73 : decode cX6_isNumber 73 = .ok (.dup, 1) := by decide +kernel
theorem dX6_isNumber_74 : decode cX6_isNumber 74 = .ok (.getfield 81, 3) := by decide +kernel
theorem dX6_isNumber_77 : decode cX6_isNumber 77 = .ok (.iconst 1, 1) := by decide +kernel
theorem dX6_isNumber_78 : decode cX6_isNumber 78 = .ok (.iadd, 1) := by decide +kernel
theorem dX6_isNumber_79 : decode cX6_isNumber 79 = .ok (.putfield 81, 3) := by decide +kernel
theorem dX6_isNumber_82 : decode cX6_isNumber 82 = .ok (.aload_n 0, 1) := by decide +kernel
theorem dX6_isNumber_83 : decode cX6_isNumber 83 = .ok (.iload_n 3, 1) := by decide +kernel
theorem dX6_isNumber_84 : decode cX6_isNumber 84 = .ok (.putfield 88, 3) := by decide +kernel
theorem dX6_isNumber_87 : decode cX6_isNumber 87 = .ok (.iload_n 3, 1) := by decide +kernel
theorem dX6_isNumber_88 : decode cX6_isNumber 88 = .ok (.iload_n 1, 1) := by decide +kernel
theorem dX6_isNumber_89 : decode cX6_isNumber 89 = .ok (.if_icmp .le 10, 3) := by decide +kernel
theorem dX6_isNumber_92 : decode cX6_isNumber 92 = .ok (.aload_n 0, 1) := by decide +kernel
theorem dX6_isNumber_93 : decode cX6_isNumber 93 = .ok (.iload_n 2, 1) := by decide +kernel
theorem dX6_isNumber_94 : decode cX6_isNumber 94 = .ok (.putfield 81, 3) := by decide +kernel
theorem dX6_isNumber_97 : decode cX6_isNumber 97 = .ok (.iconst 0, 1) := by decide +kernel
theorem dX6_isNumber_98 : decode cX6_isNumber 98 = .ok (.ireturn, 1) := by decide +kernel
theorem dX6_isNumber_99 : decode cX6_isNumber 99 = .ok (.aload_n 0, 1) := by decide +kernel
theorem dX6_isNumber_100 : decode cX6_isNumber 100 = .ok (.getfield 81, 3) := by decide +kernel
theorem dX6_isNumber_103 : decode cX6_isNumber 103 = .ok (.aload_n 0, 1) := by decide +kernel
theorem dX6_isNumber_104 : decode cX6_isNumber 104 = .ok (.getfield 77, 3) := by decide +kernel
theorem dX6_isNumber_107 : decode cX6_isNumber 107 = .ok (.if_icmp .eq 22, 3) := by decide +kernel
theorem dX6_isNumber_110 : decode cX6_isNumber 110 = .ok (.aload_n 0, 1) := by decide +kernel
theorem dX6_isNumber_111 : decode cX6_isNumber 111 = .ok (.getfield 20, 3) := by decide +kernel
theorem dX6_isNumber_114 : decode cX6_isNumber 114 = .ok (.aload_n 0, 1) := by decide +kernel
theorem dX6_isNumber_115 : decode cX6_isNumber 115 = .ok (.getfield 81, 3) := by decide +kernel
theorem dX6_isNumber_118 : decode cX6_isNumber 118 = .ok (.iaload, 1) := by decide +kernel
theorem dX6_isNumber_119 : decode cX6_isNumber 119 = .ok (.bipush 48, 2) := by decide +kernel
theorem dX6_isNumber_121 : decode cX6_isNumber 121 = .ok (.bipush 57, 2) := by decide +kernel
theorem dX6_isNumber_123 : decode cX6_isNumber 123 = .ok (.invokestatic 47, 3) := by decide +kernel
theorem dX6_isNumber_126 : decode cX6_isNumber 126 = .ok (.ifCond .ne 7, 3) := by decide +kernel
theorem dX6_isNumber_129 : decode cX6_isNumber 129 = .ok (.iconst 1, 1) := by decide +kernel
theorem dX6_isNumber_130 : decode cX6_isNumber 130 = .ok (.goto 4, 3) := by decide +kernel
theorem dX6_isNumber_133 : decode cX6_isNumber 133 = .ok (.iconst 0, 1) := by decide +kernel
theorem dX6_isNumber_134 : decode cX6_isNumber 134 = .ok (.ireturn, 1) := by decide +kernel
theorem dX6_kindBy_0 : decode cX6_kindBy 0 = .ok (.iload_n 0, 1) := by decide +kernel
theorem dX6_kindBy_1 : decode cX6_kindBy 1 = .ok (.bipush 112, 2) := by decide +kernel
theorem dX6_kindBy_3 : decode cX6_kindBy 3 = .ok (.if_icmp .ne 7, 3) := by decide +kernel
theorem dX6_kindBy_6 : decode cX6_kindBy 6 = .ok (.iconst 0, 1) := by decide +kernel
theorem dX6_kindBy_7 : decode cX6_kindBy 7 = .ok (.goto 44, 3) := by decide +kernel
theorem dX6_kindBy_10 : decode cX6_kindBy 10 = .ok (.iload_n 0, 1) := by decide +kernel
theorem dX6_kindBy_11 : decode cX6_kindBy 11 = .ok (.bipush 103, 2) := by decide +kernel
theorem dX6_kindBy_13 : decode cX6_kindBy 13 = .ok (.if_icmp .ne 7, 3) := by decide +kernel
theorem dX6_kindBy_16 : decode cX6_kindBy 16 = .ok (.iconst 1, 1) := by decide +kernel
theorem dX6_kindBy_17 : decode cX6_kindBy 17 = .ok (.goto 34, 3) := by decide +kernel
theorem dX6_kindBy_20 : decode cX6_kindBy 20 = .ok (.iload_n 0, 1) := by decide +kernel
theorem dX6_kindBy_21 : decode cX6_kindBy 21 = .ok (.bipush 115, 2) := by decide +kernel
theorem dX6_kindBy_23 : decode cX6_kindBy 23 = .ok (.if_icmp .ne 7, 3) := by decide +kernel
theorem dX6_kindBy_26 : decode cX6_kindBy 26 = .ok (.iconst 2, 1) := by decide +kernel
theorem dX6_kindBy_27 : decode cX6_kindBy 27 = .ok (.goto 24, 3) := by decide +kernel
theorem dX6_kindBy_30 : decode cX6_kindBy 30 = .ok (.iload_n 0, 1) := by decide +kernel
theorem dX6_kindBy_31 : decode cX6_kindBy 31 = .ok (.bipush 102, 2) := by decide +kernel
theorem dX6_kindBy_33 : decode cX6_kindBy 33 = .ok (.if_icmp .ne 7, 3) := by decide +kernel
theorem dX6_kindBy_36 : decode cX6_kindBy 36 = .ok (.iconst 3, 1) := by decide +kernel
theorem dX6_kindBy_37 : decode cX6_kindBy 37 = .ok (.goto 14, 3) := by decide +kernel
theorem dX6_kindBy_40 : decode cX6_kindBy 40 = .ok (.iload_n 0, 1) := by decide +kernel
theorem dX6_kindBy_41 : decode cX6_kindBy 41 = .ok (.bipush 121, 2) := by decide +kernel
theorem dX6_kindBy_43 : decode cX6_kindBy 43 = .ok (.if_icmp .ne 7, 3) := by decide +kernel
theorem dX6_kindBy_46 : decode cX6_kindBy 46 = .ok (.iconst 4, 1) := by decide +kernel
theorem dX6_kindBy_47 : decode cX6_kindBy 47 = .ok (.goto 4, 3) := by decide +kernel
theorem dX6_kindBy_50 : decode cX6_kindBy 50 = .ok (.iconst (-1), 1) := by decide +kernel
theorem dX6_kindBy_51 : decode cX6_kindBy 51 = .ok (.ireturn, 1) := by decide +kernel
theorem dX6_isHouseItem_0 : decode cX6_isHouseItem 0 = .ok (.aload_n 0, 1) := by decide +kernel
theorem dX6_isHouseItem_1 : decode cX6_isHouseItem 1 = .ok (.bipush 99, 2) := by decide +kernel
theorem dX6_isHouseItem_3 : decode cX6_isHouseItem 3 = .ok (.invokevirtual 95, 3) := by decide +kernel
theorem dX6_isHouseItem_6 : decode cX6_isHouseItem 6 = .ok (.ifCond .ne 5, 3) := by decide +kernel
theorem dX6_isHouseItem_9 : decode cX6_isHouseItem 9 = .ok (.iconst 0, 1) := by decide +kernel
theorem dX6_isHouseItem_10 : decode cX6_isHouseItem 10 = .ok (.ireturn, 1) := by decide +kernel
theorem dX6_isHouseItem_11 : decode cX6_isHouseItem 11 = .ok (.bipush 10, 2) := by decide +kernel
theorem dX6_isHouseItem_13 : decode cX6_isHouseItem 13 = .ok (.aload_n 0, 1) := by decide +kernel
theorem dX6_isHouseItem_14 : decode cX6_isHouseItem 14 = .ok (.getfield 88, 3) := by decide +kernel
theorem dX6_isHouseItem_17 : decode cX6_isHouseItem 17 = .ok (.imul, 1) := by decide +kernel
theorem dX6_isHouseItem_18 : decode cX6_isHouseItem 18 = .ok (.istore_n 1, 1) := by decide +kernel
theorem dX6_isHouseItem_19 : decode cX6_isHouseItem 19 = .ok (.aload_n 0, 1) := by decide +kernel
theorem dX6_isHouseItem_20 : decode cX6_isHouseItem 20 = .ok (.bipush 46, 2) := by decide +kernel
theorem dX6_isHouseItem_22 : decode cX6_isHouseItem 22 = .ok (.invokevirtual 98, 3) := by decide +kernel
theorem dX6_isHouseItem_25 : decode cX6_isHouseItem 25 = .ok (.ifCond .eq 12, 3) := by decide +kernel
theorem dX6_isHouseItem_28 : decode cX6_isHouseItem 28 = .ok (.aload_n 0, 1) := by decide +kernel
theorem dX6_isHouseItem_29 : decode cX6_isHouseItem 29 = .ok (.bipush 20, 2) := by decide +kernel
theorem dX6_isHouseItem_31 : decode cX6_isHouseItem 31 = .ok (.invokevirtual 95, 3) := by decide +kernel
theorem dX6_isHouseItem_34 : decode cX6_isHouseItem 34 = .ok (.ifCond .ne 5, 3) := by decide +kernel
theorem dX6_isHouseItem_37 : decode cX6_isHouseItem 37 = .ok (.iconst 0, 1) := by decide +kernel
theorem dX6_isHouseItem_38 : decode cX6_isHouseItem 38 = .ok (.ireturn, 1) := by decide +kernel
theorem dX6_isHouseItem_39 : decode cX6_isHouseItem 39 = .ok (.aload_n 0, 1) := by decide +kernel
theorem dX6_isHouseItem_40 : decode cX6_isHouseItem 40 = .ok (.getfield 29, 3) := by decide +kernel
theorem dX6_isHouseItem_43 : decode cX6_isHouseItem 43 = .ok (.iload_n 1, 1) := by decide +kernel
theorem dX6_isHouseItem_44 : decode cX6_isHouseItem 44 = .ok (.aload_n 0, 1) := by decide +kernel
theorem dX6_isHouseItem_45 : decode cX6_isHouseItem 45 = .ok (.getfield 88, 3) := by decide +kernel
theorem dX6_isHouseItem_48 : decode cX6_isHouseItem 48 = .ok (.invokestatic 51, 3) := by decide +kernel
theorem dX6_isHouseItem_51 : decode cX6_isHouseItem 51 = .ok (.istore_n 2, 1) := by decide +kernel
theorem dX6_isHouseItem_52 : decode cX6_isHouseItem 52 = .ok (.iconst 0, 1) := by decide +kernel
theorem dX6_isHouseItem_53 : decode cX6_isHouseItem 53 = .ok (.istore_n 3, 1) := by decide +kernel
theorem dX6_isHouseItem_54 : decode cX6_isHouseItem 54 = .ok (.iload_n 3, 1) := by decide +kernel
theorem dX6_isHouseItem_55 : decode cX6_isHouseItem 55 = .ok (.iconst 3, 1) := by decide +kernel
theorem dX6_isHouseItem_56 : decode cX6_isHouseItem 56 = .ok (.if_icmp .ge 35, 3) := by decide +kernel
theorem dX6_isHouseItem_59 : decode cX6_isHouseItem 59 = .ok (.aload_n 0, 1) := by decide +kernel
theorem dX6_isHouseItem_60 : decode cX6_isHouseItem 60 = .ok (.getfield 29, 3) := by decide +kernel
theorem dX6_isHouseItem_63 : decode cX6_isHouseItem 63 = .ok (.bipush 15, 2) := by decide +kernel
theorem dX6_isHouseItem_65 : decode cX6_isHouseItem 65 = .ok (.iload_n 2, 1) := by decide +kernel
theorem dX6_isHouseItem_66 : decode cX6_isHouseItem 66 = .ok (.iadd, 1) := by decide +kernel
theorem dX6_isHouseItem_67 : decode cX6_isHouseItem 67 = .ok (.dup2, 1) := by decide +kernel
theorem dX6_isHouseItem_68 : decode cX6_isHouseItem 68 = .ok (.iaload, 1) := by decide +kernel
theorem dX6_isHouseItem_69 : decode cX6_isHouseItem 69 = .ok (.aload_n 0, 1) := by decide +kernel
theorem dX6_isHouseItem_70 : decode cX6_isHouseItem 70 = .ok (.bipush 33, 2) := by decide +kernel
theorem dX6_isHouseItem_72 : decode cX6_isHouseItem 72 = .ok (.invokevirtual 98, 3) := by decide +kernel
theorem dX6_isHouseItem_75 : decode cX6_isHouseItem 75 = .ok (.ifCond .eq 7, 3) := by decide +kernel
theorem dX6_isHouseItem_78 : decode cX6_isHouseItem 78 = .ok (.iconst 1, 1) := by decide +kernel
theorem dX6_isHouseItem_79 : decode cX6_isHouseItem 79 = .ok (.goto 4, 3) := by decide +kernel
theorem dX6_isHouseItem_82 : decode cX6_isHouseItem 82 = .ok (.iconst 0, 1) := by decide +kernel
theorem dX6_isHouseItem_83 : decode cX6_isHouseItem 83 = .ok (.iadd, 1) := by decide +kernel
theorem dX6_isHouseItem_84 : decode cX6_isHouseItem 84 = .ok (.iastore, 1) := by decide +kernel
theorem dX6_isHouseItem_85 : decode cX6_isHouseItem 85 = .ok (.iinc 3 1, 3) := by decide +kernel
theorem dX6_isHouseItem_88 : decode cX6_isHouseItem 88 = .ok (.goto (-34), 3) := by decide +kernel
theorem dX6_isHouseItem_91 : decode cX6_isHouseItem 91 = .ok (.iconst 1, 1) := by decide +kernel
theorem dX6_isHouseItem_92 : decode cX6_isHouseItem 92 = .ok (.ireturn, 1) := by decide +kernel
theorem dX6_isHogItem_0 : decode cX6_isHogItem 0 = .ok (.aload_n 0, 1) := by decide +kernel
theorem dX6_isHogItem_1 : decode cX6_isHogItem 1 = .ok (.invokevirtual 84, 3) := by decide +kernel
theorem dX6_isHogItem_4 : decode cX6_isHogItem 4 = .ok (.invokestatic 101, 3) := by decide +kernel
theorem dX6_isHogItem_7 : decode cX6_isHogItem 7 = .ok (.istore_n 1, 1) := by decide +kernel
theorem dX6_isHogItem_8 : decode cX6_isHogItem 8 = .ok (.iload_n 1, 1) := by decide +kernel
theorem dX6_isHogItem_9 : decode cX6_isHogItem 9 = .ok (.ifCond .ge 5, 3) := by decide +kernel
theorem dX6_isHogItem_12 : decode cX6_isHogItem 12 = .ok (.iconst 0, 1) := by decide +kernel
theorem dX6_isHogItem_13 : decode cX6_isHogItem 13 = .ok (.ireturn, 1) := by decide +kernel
theorem dX6_isHogItem_14 : decode cX6_isHogItem 14 = .ok (.aload_n 0, 1) := by decide +kernel
theorem dX6_isHogItem_15 : decode cX6_isHogItem 15 = .ok (.dup, 1) := by decide +kernel
theorem dX6_isHogItem_16 : decode cX6_isHogItem 16 = .ok (.getfield 81, 3) := by decide +kernel
theorem dX6_isHogItem_19 : decode cX6_isHogItem 19 = .ok (.iconst 1, 1) := by decide +kernel
theorem dX6_isHogItem_20 : decode cX6_isHogItem 20 = .ok (.iadd, 1) := by decide +kernel
theorem dX6_isHogItem_21 : decode cX6_isHogItem 21 = .ok (.putfield 81, 3) := by decide +kernel
theorem dX6_isHogItem_24 : decode cX6_isHogItem 24 = .ok (.aload_n 0, 1) := by decide +kernel
theorem dX6_isHogItem_25 : decode cX6_isHogItem 25 = .ok (.iconst 1, 1) := by decide +kernel
theorem dX6_isHogItem_26 : decode cX6_isHogItem 26 = .ok (.bipush 9, 2) := by decide +kernel
theorem dX6_isHogItem_28 : decode cX6_isHogItem 28 = .ok (.invokevirtual 91, 3) := by decide +kernel
theorem dX6_isHogItem_31 : decode cX6_isHogItem 31 = .ok (.ifCond .ne 5, 3) := by decide +kernel
theorem dX6_isHogItem_34 : decode cX6_isHogItem 34 = .ok (.iconst 0, 1) := by decide +kernel
theorem dX6_isHogItem_35 : decode cX6_isHogItem 35 = .ok (.ireturn, 1) := by decide +kernel
theorem dX6_isHogItem_36 : decode cX6_isHogItem 36 = .ok (.aload_n 0, 1) := by decide +kernel
theorem dX6_isHogItem_37 : decode cX6_isHogItem 37 = .ok (.getfield 29, 3) := by decide +kernel
theorem dX6_isHogItem_40 : decode cX6_isHogItem 40 = .ok (.iload_n 1, 1) := by decide +kernel
theorem dX6_isHogItem_41 : decode cX6_isHogItem 41 = .ok (.aload_n 0, 1) := by decide +kernel
theorem dX6_isHogItem_42 : decode cX6_isHogItem 42 = .ok (.getfield 88, 3) := by decide +kernel
theorem dX6_isHogItem_45 : decode cX6_isHogItem 45 = .ok (.iconst 0, 1) := by decide +kernel
theorem dX6_isHogItem_46 : decode cX6_isHogItem 46 = .ok (.invokestatic 59, 3) := by decide +kernel
theorem dX6_isHogItem_49 : decode cX6_isHogItem 49 = .ok (.istore_n 2, 1) := by decide +kernel
theorem dX6_isHogItem_50 : decode cX6_isHogItem 50 = .ok (.aload_n 0, 1) := by decide +kernel
theorem dX6_isHogItem_51 : decode cX6_isHogItem 51 = .ok (.bipush 64, 2) := by decide +kernel
theorem dX6_isHogItem_53 : decode cX6_isHogItem 53 = .ok (.invokevirtual 98, 3) := by decide +kernel
theorem dX6_isHogItem_56 : decode cX6_isHogItem 56 = .ok (.ifCond .eq 35, 3) := by decide +kernel
theorem dX6_isHogItem_59 : decode cX6_isHogItem 59 = .ok (.aload_n 0, 1) := by decide +kernel
theorem dX6_isHogItem_60 : decode cX6_isHogItem 60 = .ok (.iconst 0, 1) := by decide +kernel
theorem dX6_isHogItem_61 : decode cX6_isHogItem 61 = .ok (.aload_n 0, 1) := by decide +kernel
theorem dX6_isHogItem_62 : decode cX6_isHogItem 62 = .ok (.getfield 29, 3) := by decide +kernel
theorem dX6_isHogItem_65 : decode cX6_isHogItem 65 = .ok (.bipush 27, 2) := by decide +kernel
theorem dX6_isHogItem_67 : decode cX6_isHogItem 67 = .ok (.iaload, 1) := by decide +kernel
theorem dX6_isHogItem_68 : decode cX6_isHogItem 68 = .ok (.iconst 1, 1) := by decide +kernel
theorem dX6_isHogItem_69 : decode cX6_isHogItem 69 = .ok (.isub, 1) := by decide +kernel
theorem dX6_isHogItem_70 : decode cX6_isHogItem 70 = .ok (.invokevirtual 91, 3) := by decide +kernel
theorem dX6_isHogItem_73 : decode cX6_isHogItem 73 = .ok (.ifCond .ne 5, 3) := by decide +kernel
theorem dX6_isHogItem_76 : decode cX6_isHogItem 76 = .ok (.iconst 0, 1) := by decide +kernel
theorem dX6_isHogItem_77 : decode cX6_isHogItem 77 = .ok (.ireturn, 1) := by decide +kernel
theorem dX6_isHogItem_78 : decode cX6_isHogItem 78 = .ok (.aload_n 0, 1) := by decide +kernel
theorem dX6_isHogItem_79 : decode cX6_isHogItem 79 = .ok (.getfield 29, 3) := by decide +kernel
theorem dX6_isHogItem_82 : decode cX6_isHogItem 82 = .ok (.bipush 21, 2) := by decide +kernel
theorem dX6_isHogItem_84 : decode cX6_isHogItem 84 = .ok (.iload_n 2, 1) := by decide +kernel
theorem dX6_isHogItem_85 : decode cX6_isHogItem 85 = .ok (.iadd, 1) := by decide +kernel
theorem dX6_isHogItem_86 : decode cX6_isHogItem 86 = .ok (.aload_n 0, 1) := by decide +kernel
theorem dX6_isHogItem_87 : decode cX6_isHogItem 87 = .ok (.getfield 88, 3) := by decide +kernel
theorem dX6_isHogItem_90 : decode cX6_isHogItem 90 = .ok (.iastore, 1) := by decide +kernel
theorem dX6_isHogItem_91 : decode cX6_isHogItem 91 = .ok (.iconst 1, 1) := by decide +kernel
theorem dX6_isHogItem_92 : decode cX6_isHogItem 92 = .ok (.ireturn, 1) := by decide +kernel
theorem dX6_isLane_0 : decode cX6_isLane 0 = .ok (.aload_n 0, 1) := by decide +kernel
theorem dX6_isLane_1 : decode cX6_isLane 1 = .ok (.bipush 20, 2) := by decide +kernel
theorem dX6_isLane_3 : decode cX6_isLane 3 = .ok (.invokevirtual 95, 3) := by decide +kernel
theorem dX6_isLane_6 : decode cX6_isLane 6 = .ok (.ifCond .ne 5, 3) := by decide +kernel
theorem dX6_isLane_9 : decode cX6_isLane 9 = .ok (.iconst 0, 1) := by decide +kernel
theorem dX6_isLane_10 : decode cX6_isLane 10 = .ok (.ireturn, 1) := by decide +kernel
theorem dX6_isLane_11 : decode cX6_isLane 11 = .ok (.aload_n 0, 1) := by decide +kernel
theorem dX6_isLane_12 : decode cX6_isLane 12 = .ok (.getfield 29, 3) := by decide +kernel
theorem dX6_isLane_15 : decode cX6_isLane 15 = .ok (.bipush 26, 2) := by decide +kernel
theorem dX6_isLane_17 : decode cX6_isLane 17 = .ok (.aload_n 0, 1) := by decide +kernel
theorem dX6_isLane_18 : decode cX6_isLane 18 = .ok (.getfield 88, 3) := by decide +kernel
theorem dX6_isLane_21 : decode cX6_isLane 21 = .ok (.iastore, 1) := by decide +kernel
theorem dX6_isLane_22 : decode cX6_isLane 22 = .ok (.aload_n 0, 1) := by decide +kernel
theorem dX6_isLane_23 : decode cX6_isLane 23 = .ok (.bipush 59, 2) := by decide +kernel
theorem dX6_isLane_25 : decode cX6_isLane 25 = .ok (.invokevirtual 98, 3) := by decide +kernel
theorem dX6_isLane_28 : decode cX6_isLane 28 = .ok (.ifCond .ne 5, 3) := by decide +kernel
theorem dX6_isLane_31 : decode cX6_isLane 31 = .ok (.iconst 0, 1) := by decide +kernel
theorem dX6_isLane_32 : decode cX6_isLane 32 = .ok (.ireturn, 1) := by decide +kernel
theorem dX6_isLane_33 : decode cX6_isLane 33 = .ok (.iconst 1, 1) := by decide +kernel
theorem dX6_isLane_34 : decode cX6_isLane 34 = .ok (.istore_n 1, 1) := by decide +kernel
theorem dX6_isLane_35 : decode cX6_isLane 35 = .ok (.iload_n 1, 1) := by decide +kernel
theorem dX6_isLane_36 : decode cX6_isLane 36 = .ok (.ifCond .eq 42, 3) := by decide +kernel
theorem dX6_isLane_39 : decode cX6_isLane 39 = .ok (.aload_n 0, 1) := by decide +kernel
theorem dX6_isLane_40 : decode cX6_isLane 40 = .ok (.invokevirtual 105, 3) := by decide +kernel
theorem dX6_isLane_43 : decode cX6_isLane 43 = .ok (.ifCond .ne 5, 3) := by decide +kernel
theorem dX6_isLane_46 : decode cX6_isLane 46 = .ok (.iconst 0, 1) := by decide +kernel
theorem dX6_isLane_47 : decode cX6_isLane 47 = .ok (.ireturn, 1) := by decide +kernel
theorem dX6_isLane_48 : decode cX6_isLane 48 = .ok (.aload_n 0, 1) := by decide +kernel
theorem dX6_isLane_49 : decode cX6_isLane 49 = .ok (.getfield 29, 3) := by decide +kernel
theorem dX6_isLane_52 : decode cX6_isLane 52 = .ok (.bipush 27, 2) := by decide +kernel
theorem dX6_isLane_54 : decode cX6_isLane 54 = .ok (.iaload, 1) := by decide +kernel
theorem dX6_isLane_55 : decode cX6_isLane 55 = .ok (.bipush 6, 2) := by decide +kernel
theorem dX6_isLane_57 : decode cX6_isLane 57 = .ok (.if_icmp .ge 16, 3) := by decide +kernel
theorem dX6_isLane_60 : decode cX6_isLane 60 = .ok (.aload_n 0, 1) := by decide +kernel
theorem dX6_isLane_61 : decode cX6_isLane 61 = .ok (.bipush 44, 2) := by decide +kernel
theorem dX6_isLane_63 : decode cX6_isLane 63 = .ok (.invokevirtual 98, 3) := by decide +kernel
theorem dX6_isLane_66 : decode cX6_isLane 66 = .ok (.ifCond .eq 7, 3) := by decide +kernel
theorem dX6_isLane_69 : decode cX6_isLane 69 = .ok (.iconst 1, 1) := by decide +kernel
theorem dX6_isLane_70 : decode cX6_isLane 70 = .ok (.goto 4, 3) := by decide +kernel
theorem dX6_isLane_73 : decode cX6_isLane 73 = .ok (.iconst 0, 1) := by decide +kernel
theorem dX6_isLane_74 : decode cX6_isLane 74 = .ok (.istore_n 1, 1) := by decide +kernel
theorem dX6_isLane_75 : decode cX6_isLane 75 = .ok (.goto (-40), 3) := by decide +kernel
theorem dX6_isLane_78 : decode cX6_isLane 78 = .ok (.aload_n 0, 1) := by decide +kernel
theorem dX6_isLane_79 : decode cX6_isLane 79 = .ok (.bipush 59, 2) := by decide +kernel
theorem dX6_isLane_81 : decode cX6_isLane 81 = .ok (.invokevirtual 98, 3) := by decide +kernel
theorem dX6_isLane_84 : decode cX6_isLane 84 = .ok (.istore_n 1, 1) := by decide +kernel
theorem dX6_isLane_85 : decode cX6_isLane 85 = .ok (.iload_n 1, 1) := by decide +kernel
theorem dX6_isLane_86 : decode cX6_isLane 86 = .ok (.ifCond .eq 41, 3) := by decide +kernel
theorem dX6_isLane_89 : decode cX6_isLane 89 = .ok (.aload_n 0, 1) := by decide +kernel
theorem dX6_isLane_90 : decode cX6_isLane 90 = .ok (.invokevirtual 109, 3) := by decide +kernel
theorem dX6_isLane_93 : decode cX6_isLane 93 = .ok (.ifCond .ne 5, 3) := by decide +kernel
theorem dX6_isLane_96 : decode cX6_isLane 96 = .ok (.iconst 0, 1) := by decide +kernel
theorem dX6_isLane_97 : decode cX6_isLane 97 = .ok (.ireturn, 1) := by decide +kernel
theorem dX6_isLane_98 : decode cX6_isLane 98 = .ok (.aload_n 0, 1) := by decide +kernel
theorem dX6_isLane_99 : decode cX6_isLane 99 = .ok (.getfield 29, 3) := by decide +kernel
theorem dX6_isLane_102 : decode cX6_isLane 102 = .ok (.bipush 28, 2) := by decide +kernel
theorem dX6_isLane_104 : decode cX6_isLane 104 = .ok (.iaload, 1) := by decide +kernel
theorem dX6_isLane_105 : decode cX6_isLane 105 = .ok (.iconst 5, 1) := by decide +kernel
theorem dX6_isLane_106 : decode cX6_isLane 106 = .ok (.if_icmp .ge 16, 3) := by decide +kernel
theorem dX6_isLane_109 : decode cX6_isLane 109 = .ok (.aload_n 0, 1) := by decide +kernel
theorem dX6_isLane_110 : decode cX6_isLane 110 = .ok (.bipush 44, 2) := by decide +kernel
theorem dX6_isLane_112 : decode cX6_isLane 112 = .ok (.invokevirtual 98, 3) := by decide +kernel
theorem dX6_isLane_115 : decode cX6_isLane 115 = .ok (.ifCond .eq 7, 3) := by decide +kernel
theorem dX6_isLane_118 : decode cX6_isLane 118 = .ok (.iconst 1, 1) := by decide +kernel
theorem dX6_isLane_119 : decode cX6_isLane 119 = .ok (.goto 4, 3) := by decide +kernel
theorem dX6_isLane_122 : decode cX6_isLane 122 = .ok (.iconst 0, 1) := by decide +kernel
theorem dX6_isLane_123 : decode cX6_isLane 123 = .ok (.istore_n 1, 1) := by decide +kernel
theorem dX6_isLane_124 : decode cX6_isLane 124 = .ok (.goto (-39), 3) := by decide +kernel
theorem dX6_isLane_127 : decode cX6_isLane 127 = .ok (.aload_n 0, 1) := by decide +kernel
theorem dX6_isLane_128 : decode cX6_isLane 128 = .ok (.invokevirtual 84, 3) := by decide +kernel
theorem dX6_isLane_131 : decode cX6_isLane 131 = .ok (.ifCond .ne 7, 3) := by decide +kernel
theorem dX6_isLane_134 : decode cX6_isLane 134 = .ok (.iconst 1, 1) := by decide +kernel
theorem dX6_isLane_135 : decode cX6_isLane 135 = .ok (.goto 4, 3) := by decide +kernel
theorem dX6_isLane_138 : decode cX6_isLane 138 = .ok (.iconst 0, 1) := by decide +kernel
theorem dX6_isLane_139 : decode cX6_isLane 139 = .ok (.ireturn, 1) := by decide +kernel
theorem dX6_read_0 : decode cX6_read 0 = .ok (.iconst 0, 1) := by decide +kernel
theorem dX6_read_1 : decode cX6_read 1 = .ok (.istore_n 1, 1) := by decide +kernel
theorem dX6_read_2 : decode cX6_read 2 = .ok (.iload_n 1, 1) := by decide +kernel
theorem dX6_read_3 : decode cX6_read 3 = .ok (.sipush 248, 3) := by decide +kernel
theorem dX6_read_6 : decode cX6_read 6 = .ok (.if_icmp .ge 16, 3) := by decide +kernel
theorem dX6_read_9 : decode cX6_read 9 = .ok (.aload_n 0, 1) := by decide +kernel
theorem dX6_read_10 : decode cX6_read 10 = .ok (.getfield 29, 3) := by decide +kernel
theorem dX6_read_13 : decode cX6_read 13 = .ok (.iload_n 1, 1) := by decide +kernel
theorem dX6_read_14 : decode cX6_read 14 = .ok (.iconst 0, 1) := by decide +kernel
theorem dX6_read_15 : decode cX6_read 15 = .ok (.iastore, 1) := by decide +kernel
theorem dX6_read_16 : decode cX6_read 16 = .ok (.iinc 1 1, 3) := by decide +kernel
theorem dX6_read_19 : decode cX6_read 19 = .ok (.goto (-17), 3) := by decide +kernel
theorem dX6_read_22 : decode cX6_read 22 = .ok (.aload_n 0, 1) := by decide +kernel
theorem dX6_read_23 : decode cX6_read 23 = .ok (.getfield 29, 3) := by decide +kernel
theorem dX6_read_26 : decode cX6_read 26 = .ok (.iconst 1, 1) := by decide +kernel
theorem dX6_read_27 : decode cX6_read 27 = .ok (.aload_n 0, 1) := by decide +kernel
theorem dX6_read_28 : decode cX6_read 28 = .ok (.getfield 23, 3) := by decide +kernel
theorem dX6_read_31 : decode cX6_read 31 = .ok (.iconst 1, 1) := by decide +kernel
theorem dX6_read_32 : decode cX6_read 32 = .ok (.iaload, 1) := by decide +kernel
theorem dX6_read_33 : decode cX6_read 33 = .ok (.iastore, 1) := by decide +kernel
theorem dX6_read_34 : decode cX6_read 34 = .ok (.aload_n 0, 1) := by decide +kernel
theorem dX6_read_35 : decode cX6_read 35 = .ok (.iconst 0, 1) := by decide +kernel
theorem dX6_read_36 : decode cX6_read 36 = .ok (.putfield 81, 3) := by decide +kernel
theorem dX6_read_39 : decode cX6_read 39 = .ok (.aload_n 0, 1) := by decide +kernel
theorem dX6_read_40 : decode cX6_read 40 = .ok (.invokevirtual 112, 3) := by decide +kernel
theorem dX6_read_43 : decode cX6_read 43 = .ok (.istore_n 1, 1) := by decide +kernel
theorem dX6_read_44 : decode cX6_read 44 = .ok (.aload_n 0, 1) := by decide +kernel
theorem dX6_read_45 : decode cX6_read 45 = .ok (.iconst 0, 1) := by decide +kernel
theorem dX6_read_46 : decode cX6_read 46 = .ok (.putfield 77, 3) := by decide +kernel
theorem dX6_read_49 : decode cX6_read 49 = .ok (.iload_n 1, 1) := by decide +kernel
theorem dX6_read_50 : decode cX6_read 50 = .ok (.ifCond .ne 11, 3) := by decide +kernel
theorem dX6_read_53 : decode cX6_read 53 = .ok (.bipush (-20), 2) := by decide +kernel
theorem dX6_read_55 : decode cX6_read 55 = .ok (.aload_n 0, 1) := by decide +kernel
theorem dX6_read_56 : decode cX6_read 56 = .ok (.getfield 81, 3) := by decide +kernel
theorem dX6_read_59 : decode cX6_read 59 = .ok (.isub, 1) := by decide +kernel
theorem dX6_read_60 : decode cX6_read 60 = .ok (.ireturn, 1) := by decide +kernel
theorem dX6_read_61 : decode cX6_read 61 = .ok (.aload_n 0, 1) := by decide +kernel
theorem dX6_read_62 : decode cX6_read 62 = .ok (.getfield 29, 3) := by decide +kernel
theorem dX6_read_65 : decode cX6_read 65 = .ok (.iconst 0, 1) := by decide +kernel
theorem dX6_read_66 : decode cX6_read 66 = .ok (.aload_n 0, 1) := by decide +kernel
theorem dX6_read_67 : decode cX6_read 67 = .ok (.getfield 23, 3) := by decide +kernel
theorem dX6_read_70 : decode cX6_read 70 = .ok (.iconst 0, 1) := by decide +kernel
theorem dX6_read_71 : decode cX6_read 71 = .ok (.sipush 248, 3) := by decide +kernel
theorem dX6_read_74 : decode cX6_read 74 = .ok (.invokestatic 115, 3) := by decide +kernel
theorem dX6_read_77 : decode cX6_read 77 = .ok (.aload_n 0, 1) := by decide +kernel
theorem dX6_read_78 : decode cX6_read 78 = .ok (.getfield 23, 3) := by decide +kernel
theorem dX6_read_81 : decode cX6_read 81 = .ok (.bipush 27, 2) := by decide +kernel
theorem dX6_read_83 : decode cX6_read 83 = .ok (.iaload, 1) := by decide +kernel
theorem dX6_read_84 : decode cX6_read 84 = .ok (.ireturn, 1) := by decide +kernel
theorem dX6_lostOnes_0 : decode cX6_lostOnes 0 = .ok (.iconst 0, 1) := by decide +kernel
theorem dX6_lostOnes_1 : decode cX6_lostOnes 1 = .ok (.istore_n 1, 1) := by decide +kernel
theorem dX6_lostOnes_2 : decode cX6_lostOnes 2 = .ok (.iconst 0, 1) := by decide +kernel
theorem dX6_lostOnes_3 : decode cX6_lostOnes 3 = .ok (.istore_n 2, 1) := by decide +kernel
theorem dX6_lostOnes_4 : decode cX6_lostOnes 4 = .ok (.iload_n 2, 1) := by decide +kernel
theorem dX6_lostOnes_5 : decode cX6_lostOnes 5 = .ok (.aload_n 0, 1) := by decide +kernel
theorem dX6_lostOnes_6 : decode cX6_lostOnes 6 = .ok (.bipush 27, 2) := by decide +kernel
theorem dX6_lostOnes_8 : decode cX6_lostOnes 8 = .ok (.iaload, 1) := by decide +kernel
theorem dX6_lostOnes_9 : decode cX6_lostOnes 9 = .ok (.if_icmp .ge 27, 3) := by decide +kernel
theorem dX6_lostOnes_12 : decode cX6_lostOnes 12 = .ok (.iload_n 1, 1) := by decide +kernel
theorem dX6_lostOnes_13 : decode cX6_lostOnes 13 = .ok (.aload_n 0, 1) := by decide +kernel
theorem dX6_lostOnes_14 : decode cX6_lostOnes 14 = .ok (.iload_n 2, 1) := by decide +kernel
theorem dX6_lostOnes_15 : decode cX6_lostOnes 15 = .ok (.invokestatic 63, 3) := by decide +kernel
theorem dX6_lostOnes_18 : decode cX6_lostOnes 18 = .ok (.ifCond .eq 9, 3) := by decide +kernel
theorem dX6_lostOnes_21 : decode cX6_lostOnes 21 = .ok (.iconst 1, 1) := by decide +kernel
theorem dX6_lostOnes_22 : decode cX6_lostOnes 22 = .ok (.iload_n 2, 1) := by decide +kernel
theorem dX6_lostOnes_23 : decode cX6_lostOnes 23 = .ok (.ishl, 1) := by decide +kernel
theorem dX6_lostOnes_24 : decode cX6_lostOnes 24 = .ok (.goto 4, 3) := by decide +kernel
theorem dX6_lostOnes_27 : decode cX6_lostOnes 27 = .ok (.iconst 0, 1) := by decide +kernel
theorem dX6_lostOnes_28 : decode cX6_lostOnes 28 = .ok (.ior, 1) := by decide +kernel
theorem dX6_lostOnes_29 : decode cX6_lostOnes 29 = .ok (.istore_n 1, 1) := by decide +kernel
theorem dX6_lostOnes_30 : decode cX6_lostOnes 30 = .ok (.iinc 2 1, 3) := by decide +kernel
theorem dX6_lostOnes_33 : decode cX6_lostOnes 33 = .ok (.goto (-29), 3) := by decide +kernel
theorem dX6_lostOnes_36 : decode cX6_lostOnes 36 = .ok (.iload_n 1, 1) := by decide +kernel
theorem dX6_lostOnes_37 : decode cX6_lostOnes 37 = .ok (.ireturn, 1) := by decide +kernel
theorem dX6_owedBy_0 : decode cX6_owedBy 0 = .ok (.iconst 0, 1) := by decide +kernel
theorem dX6_owedBy_1 : decode cX6_owedBy 1 = .ok (.istore_n 1, 1) := by decide +kernel
theorem dX6_owedBy_2 : decode cX6_owedBy 2 = .ok (.iconst 0, 1) := by decide +kernel
theorem dX6_owedBy_3 : decode cX6_owedBy 3 = .ok (.istore_n 2, 1) := by decide +kernel
theorem dX6_owedBy_4 : decode cX6_owedBy 4 = .ok (.iload_n 2, 1) := by decide +kernel
theorem dX6_owedBy_5 : decode cX6_owedBy 5 = .ok (.aload_n 0, 1) := by decide +kernel
theorem dX6_owedBy_6 : decode cX6_owedBy 6 = .ok (.bipush 27, 2) := by decide +kernel
theorem dX6_owedBy_8 : decode cX6_owedBy 8 = .ok (.iaload, 1) := by decide +kernel
theorem dX6_owedBy_9 : decode cX6_owedBy 9 = .ok (.if_icmp .ge 17, 3) := by decide +kernel
theorem dX6_owedBy_12 : decode cX6_owedBy 12 = .ok (.iload_n 1, 1) := by decide +kernel
theorem dX6_owedBy_13 : decode cX6_owedBy 13 = .ok (.aload_n 0, 1) := by decide +kernel
theorem dX6_owedBy_14 : decode cX6_owedBy 14 = .ok (.iconst 3, 1) := by decide +kernel
theorem dX6_owedBy_15 : decode cX6_owedBy 15 = .ok (.iload_n 2, 1) := by decide +kernel
theorem dX6_owedBy_16 : decode cX6_owedBy 16 = .ok (.iadd, 1) := by decide +kernel
theorem dX6_owedBy_17 : decode cX6_owedBy 17 = .ok (.iaload, 1) := by decide +kernel
theorem dX6_owedBy_18 : decode cX6_owedBy 18 = .ok (.iadd, 1) := by decide +kernel
theorem dX6_owedBy_19 : decode cX6_owedBy 19 = .ok (.istore_n 1, 1) := by decide +kernel
theorem dX6_owedBy_20 : decode cX6_owedBy 20 = .ok (.iinc 2 1, 3) := by decide +kernel
theorem dX6_owedBy_23 : decode cX6_owedBy 23 = .ok (.goto (-19), 3) := by decide +kernel
theorem dX6_owedBy_26 : decode cX6_owedBy 26 = .ok (.iload_n 1, 1) := by decide +kernel
theorem dX6_owedBy_27 : decode cX6_owedBy 27 = .ok (.ireturn, 1) := by decide +kernel
theorem dX6_isWinter_0 : decode cX6_isWinter 0 = .ok (.aload_n 0, 1) := by decide +kernel
theorem dX6_isWinter_1 : decode cX6_isWinter 1 = .ok (.iconst 0, 1) := by decide +kernel
theorem dX6_isWinter_2 : decode cX6_isWinter 2 = .ok (.iaload, 1) := by decide +kernel
theorem dX6_isWinter_3 : decode cX6_isWinter 3 = .ok (.bipush 20, 2) := by decide +kernel
theorem dX6_isWinter_5 : decode cX6_isWinter 5 = .ok (.irem, 1) := by decide +kernel
theorem dX6_isWinter_6 : decode cX6_isWinter 6 = .ok (.bipush 15, 2) := by decide +kernel
theorem dX6_isWinter_8 : decode cX6_isWinter 8 = .ok (.if_icmp .lt 7, 3) := by decide +kernel
theorem dX6_isWinter_11 : decode cX6_isWinter 11 = .ok (.iconst 1, 1) := by decide +kernel
theorem dX6_isWinter_12 : decode cX6_isWinter 12 = .ok (.goto 4, 3) := by decide +kernel
theorem dX6_isWinter_15 : decode cX6_isWinter 15 = .ok (.iconst 0, 1) := by decide +kernel
theorem dX6_isWinter_16 : decode cX6_isWinter 16 = .ok (.ireturn, 1) := by decide +kernel
theorem dX6_count_0 : decode cX6_count 0 = .ok (.iload_n 1, 1) := by decide +kernel
theorem dX6_count_1 : decode cX6_count 1 = .ok (.tableswitch 129 0 8 #[51, 59, 67, 74, 82, 89, 97, 105, 121], 51) := by decide +kernel
theorem dX6_count_52 : decode cX6_count 52 = .ok (.aload_n 0, 1) := by decide +kernel
theorem dX6_count_53 : decode cX6_count 53 = .ok (.getfield 23, 3) := by decide +kernel
theorem dX6_count_56 : decode cX6_count 56 = .ok (.bipush 27, 2) := by decide +kernel
theorem dX6_count_58 : decode cX6_count 58 = .ok (.iaload, 1) := by decide +kernel
theorem dX6_count_59 : decode cX6_count 59 = .ok (.ireturn, 1) := by decide +kernel
theorem dX6_count_60 : decode cX6_count 60 = .ok (.aload_n 0, 1) := by decide +kernel
theorem dX6_count_61 : decode cX6_count 61 = .ok (.getfield 23, 3) := by decide +kernel
theorem dX6_count_64 : decode cX6_count 64 = .ok (.bipush 28, 2) := by decide +kernel
theorem dX6_count_66 : decode cX6_count 66 = .ok (.iaload, 1) := by decide +kernel
theorem dX6_count_67 : decode cX6_count 67 = .ok (.ireturn, 1) := by decide +kernel
theorem dX6_count_68 : decode cX6_count 68 = .ok (.aload_n 0, 1) := by decide +kernel
theorem dX6_count_69 : decode cX6_count 69 = .ok (.getfield 23, 3) := by decide +kernel
theorem dX6_count_72 : decode cX6_count 72 = .ok (.iconst 0, 1) := by decide +kernel
theorem dX6_count_73 : decode cX6_count 73 = .ok (.iaload, 1) := by decide +kernel
theorem dX6_count_74 : decode cX6_count 74 = .ok (.ireturn, 1) := by decide +kernel
theorem dX6_count_75 : decode cX6_count 75 = .ok (.aload_n 0, 1) := by decide +kernel
theorem dX6_count_76 : decode cX6_count 76 = .ok (.getfield 23, 3) := by decide +kernel
theorem dX6_count_79 : decode cX6_count 79 = .ok (.bipush 26, 2) := by decide +kernel
theorem dX6_count_81 : decode cX6_count 81 = .ok (.iaload, 1) := by decide +kernel
theorem dX6_count_82 : decode cX6_count 82 = .ok (.ireturn, 1) := by decide +kernel
theorem dX6_count_83 : decode cX6_count 83 = .ok (.aload_n 0, 1) := by decide +kernel
theorem dX6_count_84 : decode cX6_count 84 = .ok (.getfield 23, 3) := by decide +kernel
theorem dX6_count_87 : decode cX6_count 87 = .ok (.iconst 2, 1) := by decide +kernel
theorem dX6_count_88 : decode cX6_count 88 = .ok (.iaload, 1) := by decide +kernel
theorem dX6_count_89 : decode cX6_count 89 = .ok (.ireturn, 1) := by decide +kernel
theorem dX6_count_90 : decode cX6_count 90 = .ok (.aload_n 0, 1) := by decide +kernel
theorem dX6_count_91 : decode cX6_count 91 = .ok (.getfield 23, 3) := by decide +kernel
theorem dX6_count_94 : decode cX6_count 94 = .ok (.invokestatic 119, 3) := by decide +kernel
theorem dX6_count_97 : decode cX6_count 97 = .ok (.ireturn, 1) := by decide +kernel
theorem dX6_count_98 : decode cX6_count 98 = .ok (.aload_n 0, 1) := by decide +kernel
theorem dX6_count_99 : decode cX6_count 99 = .ok (.getfield 23, 3) := by decide +kernel
theorem dX6_count_102 : decode cX6_count 102 = .ok (.invokestatic 123, 3) := by decide +kernel
theorem dX6_count_105 : decode cX6_count 105 = .ok (.ireturn, 1) := by decide +kernel
theorem dX6_count_106 : decode cX6_count 106 = .ok (.aload_n 0, 1) := by decide +kernel
theorem dX6_count_107 : decode cX6_count 107 = .ok (.getfield 23, 3) := by decide +kernel
theorem dX6_count_110 : decode cX6_count 110 = .ok (.invokestatic 126, 3) := by decide +kernel
theorem dX6_count_113 : decode cX6_count 113 = .ok (.ifCond .eq 7, 3) := by decide +kernel
theorem dX6_count_116 : decode cX6_count 116 = .ok (.iconst 1, 1) := by decide +kernel
theorem dX6_count_117 : decode cX6_count 117 = .ok (.goto 4, 3) := by decide +kernel
theorem dX6_count_120 : decode cX6_count 120 = .ok (.iconst 0, 1) := by decide +kernel
theorem dX6_count_121 : decode cX6_count 121 = .ok (.ireturn, 1) := by decide +kernel
theorem dX6_count_122 : decode cX6_count 122 = .ok (.aload_n 0, 1) := by decide +kernel
theorem dX6_count_123 : decode cX6_count 123 = .ok (.getfield 23, 3) := by decide +kernel
theorem dX6_count_126 : decode cX6_count 126 = .ok (.bipush 39, 2) := by decide +kernel
theorem dX6_count_128 : decode cX6_count 128 = .ok (.iaload, 1) := by decide +kernel
theorem dX6_count_129 : decode cX6_count 129 = .ok (.ireturn, 1) := by decide +kernel
theorem dX6_count_130 : decode cX6_count 130 = .ok (.iconst (-1), 1) := by decide +kernel
theorem dX6_count_131 : decode cX6_count 131 = .ok (.ireturn, 1) := by decide +kernel
theorem dX6_note_0 : decode cX6_note 0 = .ok (.aload_n 0, 1) := by decide +kernel
theorem dX6_note_1 : decode cX6_note 1 = .ok (.getfield 23, 3) := by decide +kernel
theorem dX6_note_4 : decode cX6_note 4 = .ok (.bipush 39, 2) := by decide +kernel
theorem dX6_note_6 : decode cX6_note 6 = .ok (.iaload, 1) := by decide +kernel
theorem dX6_note_7 : decode cX6_note 7 = .ok (.bipush 8, 2) := by decide +kernel
theorem dX6_note_9 : decode cX6_note 9 = .ok (.if_icmp .ne 32, 3) := by decide +kernel
theorem dX6_note_12 : decode cX6_note 12 = .ok (.aload_n 0, 1) := by decide +kernel
theorem dX6_note_13 : decode cX6_note 13 = .ok (.getfield 23, 3) := by decide +kernel
theorem dX6_note_16 : decode cX6_note 16 = .ok (.bipush 66, 2) := by decide +kernel
theorem dX6_note_18 : decode cX6_note 18 = .ok (.aload_n 0, 1) := by decide +kernel
theorem dX6_note_19 : decode cX6_note 19 = .ok (.getfield 23, 3) := by decide +kernel
theorem dX6_note_22 : decode cX6_note 22 = .ok (.bipush 40, 2) := by decide +kernel
theorem dX6_note_24 : decode cX6_note 24 = .ok (.sipush 182, 3) := by decide +kernel
theorem dX6_note_27 : decode cX6_note 27 = .ok (.invokestatic 115, 3) := by decide +kernel
theorem dX6_note_30 : decode cX6_note 30 = .ok (.aload_n 0, 1) := by decide +kernel
theorem dX6_note_31 : decode cX6_note 31 = .ok (.getfield 23, 3) := by decide +kernel
theorem dX6_note_34 : decode cX6_note 34 = .ok (.bipush 39, 2) := by decide +kernel
theorem dX6_note_36 : decode cX6_note 36 = .ok (.dup2, 1) := by decide +kernel
theorem dX6_note_37 : decode cX6_note 37 = .ok (.iaload, 1) := by decide +kernel
theorem dX6_note_38 : decode cX6_note 38 = .ok (.iconst 1, 1) := by decide +kernel
theorem dX6_note_39 : decode cX6_note 39 = .ok (.isub, 1) := by decide +kernel
theorem dX6_note_40 : decode cX6_note 40 = .ok (.iastore, 1) := by decide +kernel
theorem dX6_note_41 : decode cX6_note 41 = .ok (.aload_n 0, 1) := by decide +kernel
theorem dX6_note_42 : decode cX6_note 42 = .ok (.getfield 23, 3) := by decide +kernel
theorem dX6_note_45 : decode cX6_note 45 = .ok (.iconst 0, 1) := by decide +kernel
theorem dX6_note_46 : decode cX6_note 46 = .ok (.aload_n 0, 1) := by decide +kernel
theorem dX6_note_47 : decode cX6_note 47 = .ok (.getfield 23, 3) := by decide +kernel
theorem dX6_note_50 : decode cX6_note 50 = .ok (.bipush 40, 2) := by decide +kernel
theorem dX6_note_52 : decode cX6_note 52 = .ok (.bipush 26, 2) := by decide +kernel
theorem dX6_note_54 : decode cX6_note 54 = .ok (.aload_n 0, 1) := by decide +kernel
theorem dX6_note_55 : decode cX6_note 55 = .ok (.getfield 23, 3) := by decide +kernel
theorem dX6_note_58 : decode cX6_note 58 = .ok (.bipush 39, 2) := by decide +kernel
theorem dX6_note_60 : decode cX6_note 60 = .ok (.iaload, 1) := by decide +kernel
theorem dX6_note_61 : decode cX6_note 61 = .ok (.imul, 1) := by decide +kernel
theorem dX6_note_62 : decode cX6_note 62 = .ok (.iadd, 1) := by decide +kernel
theorem dX6_note_63 : decode cX6_note 63 = .ok (.bipush 26, 2) := by decide +kernel
theorem dX6_note_65 : decode cX6_note 65 = .ok (.invokestatic 115, 3) := by decide +kernel
theorem dX6_note_68 : decode cX6_note 68 = .ok (.aload_n 0, 1) := by decide +kernel
theorem dX6_note_69 : decode cX6_note 69 = .ok (.getfield 23, 3) := by decide +kernel
theorem dX6_note_72 : decode cX6_note 72 = .ok (.bipush 39, 2) := by decide +kernel
theorem dX6_note_74 : decode cX6_note 74 = .ok (.dup2, 1) := by decide +kernel
theorem dX6_note_75 : decode cX6_note 75 = .ok (.iaload, 1) := by decide +kernel
theorem dX6_note_76 : decode cX6_note 76 = .ok (.iconst 1, 1) := by decide +kernel
theorem dX6_note_77 : decode cX6_note 77 = .ok (.iadd, 1) := by decide +kernel
theorem dX6_note_78 : decode cX6_note 78 = .ok (.iastore, 1) := by decide +kernel
theorem dX6_note_79 : decode cX6_note 79 = .ok (.return_, 1) := by decide +kernel
theorem dX6_nextOf_0 : decode cX6_nextOf 0 = .ok (.iconst 1, 1) := by decide +kernel
theorem dX6_nextOf_1 : decode cX6_nextOf 1 = .ok (.istore_n 3, 1) := by decide +kernel
theorem dX6_nextOf_2 : decode cX6_nextOf 2 = .ok (.iload_n 3, 1) := by decide +kernel
theorem dX6_nextOf_3 : decode cX6_nextOf 3 = .ok (.aload_n 0, 1) := by decide +kernel
theorem dX6_nextOf_4 : decode cX6_nextOf 4 = .ok (.bipush 27, 2) := by decide +kernel
theorem dX6_nextOf_6 : decode cX6_nextOf 6 = .ok (.iaload, 1) := by decide +kernel
theorem dX6_nextOf_7 : decode cX6_nextOf 7 = .ok (.if_icmp .ge 49, 3) := by decide +kernel
theorem dX6_nextOf_10 : decode cX6_nextOf 10 = .ok (.aload_n 0, 1) := by decide +kernel
theorem dX6_nextOf_11 : decode cX6_nextOf 11 = .ok (.bipush 21, 2) := by decide +kernel
theorem dX6_nextOf_13 : decode cX6_nextOf 13 = .ok (.iload_n 1, 1) := by decide +kernel
theorem dX6_nextOf_14 : decode cX6_nextOf 14 = .ok (.iadd, 1) := by decide +kernel
theorem dX6_nextOf_15 : decode cX6_nextOf 15 = .ok (.iaload, 1) := by decide +kernel
theorem dX6_nextOf_16 : decode cX6_nextOf 16 = .ok (.iload_n 3, 1) := by decide +kernel
theorem dX6_nextOf_17 : decode cX6_nextOf 17 = .ok (.iadd, 1) := by decide +kernel
theorem dX6_nextOf_18 : decode cX6_nextOf 18 = .ok (.aload_n 0, 1) := by decide +kernel
theorem dX6_nextOf_19 : decode cX6_nextOf 19 = .ok (.bipush 27, 2) := by decide +kernel
theorem dX6_nextOf_21 : decode cX6_nextOf 21 = .ok (.iaload, 1) := by decide +kernel
theorem dX6_nextOf_22 : decode cX6_nextOf 22 = .ok (.irem, 1) := by decide +kernel
theorem dX6_nextOf_23 : decode cX6_nextOf 23 = .ok (.istore 4, 2) := by decide +kernel
theorem dX6_nextOf_25 : decode cX6_nextOf 25 = .ok (.aload_n 0, 1) := by decide +kernel
theorem dX6_nextOf_26 : decode cX6_nextOf 26 = .ok (.iload 4, 2) := by decide +kernel
theorem dX6_nextOf_28 : decode cX6_nextOf 28 = .ok (.invokestatic 63, 3) := by decide +kernel
theorem dX6_nextOf_31 : decode cX6_nextOf 31 = .ok (.ifCond .ne 19, 3) := by decide +kernel
theorem dX6_nextOf_34 : decode cX6_nextOf 34 = .ok (.iload_n 2, 1) := by decide +kernel
theorem dX6_nextOf_35 : decode cX6_nextOf 35 = .ok (.ifCond .eq 12, 3) := by decide +kernel
theorem dX6_nextOf_38 : decode cX6_nextOf 38 = .ok (.aload_n 0, 1) := by decide +kernel
theorem dX6_nextOf_39 : decode cX6_nextOf 39 = .ok (.iload 4, 2) := by decide +kernel
theorem dX6_nextOf_41 : decode cX6_nextOf 41 = .ok (.invokestatic 67, 3) := by decide +kernel
theorem dX6_nextOf_44 : decode cX6_nextOf 44 = .ok (.ifCond .ne 6, 3) := by decide +kernel
theorem dX6_nextOf_47 : decode cX6_nextOf 47 = .ok (.iload 4, 2) := by decide +kernel
theorem dX6_nextOf_49 : decode cX6_nextOf 49 = .ok (.ireturn, 1) := by decide +kernel
theorem dX6_nextOf_50 : decode cX6_nextOf 50 = .ok (.iinc 3 1, 3) := by decide +kernel
theorem dX6_nextOf_53 : decode cX6_nextOf 53 = .ok (.goto (-51), 3) := by decide +kernel
theorem dX6_nextOf_56 : decode cX6_nextOf 56 = .ok (.bipush (-4), 2) := by decide +kernel
theorem dX6_nextOf_58 : decode cX6_nextOf 58 = .ok (.ireturn, 1) := by decide +kernel
theorem dX6_goesOn_0 : decode cX6_goesOn 0 = .ok (.aload_n 0, 1) := by decide +kernel
theorem dX6_goesOn_1 : decode cX6_goesOn 1 = .ok (.bipush 29, 2) := by decide +kernel
theorem dX6_goesOn_3 : decode cX6_goesOn 3 = .ok (.iload_n 1, 1) := by decide +kernel
theorem dX6_goesOn_4 : decode cX6_goesOn 4 = .ok (.iadd, 1) := by decide +kernel
theorem dX6_goesOn_5 : decode cX6_goesOn 5 = .ok (.iaload, 1) := by decide +kernel
theorem dX6_goesOn_6 : decode cX6_goesOn 6 = .ok (.istore_n 3, 1) := by decide +kernel
theorem dX6_goesOn_7 : decode cX6_goesOn 7 = .ok (.iload_n 2, 1) := by decide +kernel
theorem dX6_goesOn_8 : decode cX6_goesOn 8 = .ok (.ifCond .eq 17, 3) := by decide +kernel
theorem dX6_goesOn_11 : decode cX6_goesOn 11 = .ok (.iload_n 3, 1) := by decide +kernel
theorem dX6_goesOn_12 : decode cX6_goesOn 12 = .ok (.iconst 1, 1) := by decide +kernel
theorem dX6_goesOn_13 : decode cX6_goesOn 13 = .ok (.if_icmp .eq 8, 3) := by decide +kernel
theorem dX6_goesOn_16 : decode cX6_goesOn 16 = .ok (.iload_n 3, 1) := by decide +kernel
theorem dX6_goesOn_17 : decode cX6_goesOn 17 = .ok (.iconst 3, 1) := by decide +kernel
theorem dX6_goesOn_18 : decode cX6_goesOn 18 = .ok (.if_icmp .ne 7, 3) := by decide +kernel
theorem dX6_goesOn_21 : decode cX6_goesOn 21 = .ok (.iconst 1, 1) := by decide +kernel
theorem dX6_goesOn_22 : decode cX6_goesOn 22 = .ok (.goto 4, 3) := by decide +kernel
theorem dX6_goesOn_25 : decode cX6_goesOn 25 = .ok (.iconst 0, 1) := by decide +kernel
theorem dX6_goesOn_26 : decode cX6_goesOn 26 = .ok (.istore 4, 2) := by decide +kernel
theorem dX6_goesOn_28 : decode cX6_goesOn 28 = .ok (.iload 4, 2) := by decide +kernel
theorem dX6_goesOn_30 : decode cX6_goesOn 30 = .ok (.ifCond .ne 69, 3) := by decide +kernel
theorem dX6_goesOn_33 : decode cX6_goesOn 33 = .ok (.aload_n 0, 1) := by decide +kernel
theorem dX6_goesOn_34 : decode cX6_goesOn 34 = .ok (.iload_n 1, 1) := by decide +kernel
theorem dX6_goesOn_35 : decode cX6_goesOn 35 = .ok (.iload_n 3, 1) := by decide +kernel
theorem dX6_goesOn_36 : decode cX6_goesOn 36 = .ok (.iconst 2, 1) := by decide +kernel
theorem dX6_goesOn_37 : decode cX6_goesOn 37 = .ok (.if_icmp .eq 8, 3) := by decide +kernel
theorem dX6_goesOn_40 : decode cX6_goesOn 40 = .ok (.iload_n 3, 1) := by decide +kernel
theorem dX6_goesOn_41 : decode cX6_goesOn 41 = .ok (.iconst 4, 1) := by decide +kernel
theorem dX6_goesOn_42 : decode cX6_goesOn 42 = .ok (.if_icmp .ne 7, 3) := by decide +kernel
theorem dX6_goesOn_45 : decode cX6_goesOn 45 = .ok (.iconst 1, 1) := by decide +kernel
theorem dX6_goesOn_46 : decode cX6_goesOn 46 = .ok (.goto 4, 3) := by decide +kernel
theorem dX6_goesOn_49 : decode cX6_goesOn 49 = .ok (.iconst 0, 1) := by decide +kernel
theorem dX6_goesOn_50 : decode cX6_goesOn 50 = .ok (.invokestatic 130, 3) := by decide +kernel
theorem dX6_goesOn_53 : decode cX6_goesOn 53 = .ok (.istore 5, 2) := by decide +kernel
theorem dX6_goesOn_55 : decode cX6_goesOn 55 = .ok (.iload 5, 2) := by decide +kernel
theorem dX6_goesOn_57 : decode cX6_goesOn 57 = .ok (.bipush (-4), 2) := by decide +kernel
theorem dX6_goesOn_59 : decode cX6_goesOn 59 = .ok (.if_icmp .ne 12, 3) := by decide +kernel
theorem dX6_goesOn_62 : decode cX6_goesOn 62 = .ok (.aload_n 0, 1) := by decide +kernel
theorem dX6_goesOn_63 : decode cX6_goesOn 63 = .ok (.iload_n 1, 1) := by decide +kernel
theorem dX6_goesOn_64 : decode cX6_goesOn 64 = .ok (.iconst 0, 1) := by decide +kernel
theorem dX6_goesOn_65 : decode cX6_goesOn 65 = .ok (.invokestatic 130, 3) := by decide +kernel
theorem dX6_goesOn_68 : decode cX6_goesOn 68 = .ok (.goto 5, 3) := by decide +kernel
theorem dX6_goesOn_71 : decode cX6_goesOn 71 = .ok (.iload 5, 2) := by decide +kernel
theorem dX6_goesOn_73 : decode cX6_goesOn 73 = .ok (.istore 5, 2) := by decide +kernel
theorem dX6_goesOn_75 : decode cX6_goesOn 75 = .ok (.aload_n 0, 1) := by decide +kernel
theorem dX6_goesOn_76 : decode cX6_goesOn 76 = .ok (.bipush 21, 2) := by decide +kernel
theorem dX6_goesOn_78 : decode cX6_goesOn 78 = .ok (.iload_n 1, 1) := by decide +kernel
theorem dX6_goesOn_79 : decode cX6_goesOn 79 = .ok (.iadd, 1) := by decide +kernel
theorem dX6_goesOn_80 : decode cX6_goesOn 80 = .ok (.iload 5, 2) := by decide +kernel
theorem dX6_goesOn_82 : decode cX6_goesOn 82 = .ok (.bipush (-4), 2) := by decide +kernel
theorem dX6_goesOn_84 : decode cX6_goesOn 84 = .ok (.if_icmp .ne 12, 3) := by decide +kernel
theorem dX6_goesOn_87 : decode cX6_goesOn 87 = .ok (.aload_n 0, 1) := by decide +kernel
theorem dX6_goesOn_88 : decode cX6_goesOn 88 = .ok (.bipush 21, 2) := by decide +kernel
theorem dX6_goesOn_90 : decode cX6_goesOn 90 = .ok (.iload_n 1, 1) := by decide +kernel
theorem dX6_goesOn_91 : decode cX6_goesOn 91 = .ok (.iadd, 1) := by decide +kernel
theorem dX6_goesOn_92 : decode cX6_goesOn 92 = .ok (.iaload, 1) := by decide +kernel
theorem dX6_goesOn_93 : decode cX6_goesOn 93 = .ok (.goto 5, 3) := by decide +kernel
theorem dX6_goesOn_96 : decode cX6_goesOn 96 = .ok (.iload 5, 2) := by decide +kernel
theorem dX6_goesOn_98 : decode cX6_goesOn 98 = .ok (.iastore, 1) := by decide +kernel
theorem dX6_goesOn_99 : decode cX6_goesOn 99 = .ok (.return_, 1) := by decide +kernel
theorem dX6_turnIn_0 : decode cX6_turnIn 0 = .ok (.aload_n 1, 1) := by decide +kernel
theorem dX6_turnIn_1 : decode cX6_turnIn 1 = .ok (.bipush 21, 2) := by decide +kernel
theorem dX6_turnIn_3 : decode cX6_turnIn 3 = .ok (.iload_n 2, 1) := by decide +kernel
theorem dX6_turnIn_4 : decode cX6_turnIn 4 = .ok (.iadd, 1) := by decide +kernel
theorem dX6_turnIn_5 : decode cX6_turnIn 5 = .ok (.iaload, 1) := by decide +kernel
theorem dX6_turnIn_6 : decode cX6_turnIn 6 = .ok (.istore_n 3, 1) := by decide +kernel
theorem dX6_turnIn_7 : decode cX6_turnIn 7 = .ok (.aload_n 1, 1) := by decide +kernel
theorem dX6_turnIn_8 : decode cX6_turnIn 8 = .ok (.iload_n 3, 1) := by decide +kernel
theorem dX6_turnIn_9 : decode cX6_turnIn 9 = .ok (.invokestatic 63, 3) := by decide +kernel
theorem dX6_turnIn_12 : decode cX6_turnIn 12 = .ok (.ifCond .eq 10, 3) := by decide +kernel
theorem dX6_turnIn_15 : decode cX6_turnIn 15 = .ok (.aload_n 1, 1) := by decide +kernel
theorem dX6_turnIn_16 : decode cX6_turnIn 16 = .ok (.iload_n 2, 1) := by decide +kernel
theorem dX6_turnIn_17 : decode cX6_turnIn 17 = .ok (.iconst 0, 1) := by decide +kernel
theorem dX6_turnIn_18 : decode cX6_turnIn 18 = .ok (.invokestatic 134, 3) := by decide +kernel
theorem dX6_turnIn_21 : decode cX6_turnIn 21 = .ok (.return_, 1) := by decide +kernel
theorem dX6_turnIn_22 : decode cX6_turnIn 22 = .ok (.aload_n 1, 1) := by decide +kernel
theorem dX6_turnIn_23 : decode cX6_turnIn 23 = .ok (.iload_n 2, 1) := by decide +kernel
theorem dX6_turnIn_24 : decode cX6_turnIn 24 = .ok (.invokestatic 74, 3) := by decide +kernel
theorem dX6_turnIn_27 : decode cX6_turnIn 27 = .ok (.istore 4, 2) := by decide +kernel
theorem dX6_turnIn_29 : decode cX6_turnIn 29 = .ok (.aload_n 0, 1) := by decide +kernel
theorem dX6_turnIn_30 : decode cX6_turnIn 30 = .ok (.getfield 35, 3) := by decide +kernel
theorem dX6_turnIn_33 : decode cX6_turnIn 33 = .ok (.iload_n 3, 1) := by decide +kernel
theorem dX6_turnIn_34 : decode cX6_turnIn 34 = .ok (.iaload, 1) := by decide +kernel
theorem dX6_turnIn_35 : decode cX6_turnIn 35 = .ok (.iload 4, 2) := by decide +kernel
theorem dX6_turnIn_37 : decode cX6_turnIn 37 = .ok (.if_icmp .ge 12, 3) := by decide +kernel
theorem dX6_turnIn_40 : decode cX6_turnIn 40 = .ok (.aload_n 0, 1) := by decide +kernel
theorem dX6_turnIn_41 : decode cX6_turnIn 41 = .ok (.getfield 35, 3) := by decide +kernel
theorem dX6_turnIn_44 : decode cX6_turnIn 44 = .ok (.iload_n 3, 1) := by decide +kernel
theorem dX6_turnIn_45 : decode cX6_turnIn 45 = .ok (.iaload, 1) := by decide +kernel
theorem dX6_turnIn_46 : decode cX6_turnIn 46 = .ok (.goto 5, 3) := by decide +kernel
theorem dX6_turnIn_49 : decode cX6_turnIn 49 = .ok (.iload 4, 2) := by decide +kernel
theorem dX6_turnIn_51 : decode cX6_turnIn 51 = .ok (.istore 5, 2) := by decide +kernel
theorem dX6_turnIn_53 : decode cX6_turnIn 53 = .ok (.aload_n 0, 1) := by decide +kernel
theorem dX6_turnIn_54 : decode cX6_turnIn 54 = .ok (.getfield 35, 3) := by decide +kernel
theorem dX6_turnIn_57 : decode cX6_turnIn 57 = .ok (.iload_n 3, 1) := by decide +kernel
theorem dX6_turnIn_58 : decode cX6_turnIn 58 = .ok (.dup2, 1) := by decide +kernel
theorem dX6_turnIn_59 : decode cX6_turnIn 59 = .ok (.iaload, 1) := by decide +kernel
theorem dX6_turnIn_60 : decode cX6_turnIn 60 = .ok (.iload 5, 2) := by decide +kernel
theorem dX6_turnIn_62 : decode cX6_turnIn 62 = .ok (.isub, 1) := by decide +kernel
theorem dX6_turnIn_63 : decode cX6_turnIn 63 = .ok (.iastore, 1) := by decide +kernel
theorem dX6_turnIn_64 : decode cX6_turnIn 64 = .ok (.aload_n 1, 1) := by decide +kernel
theorem dX6_turnIn_65 : decode cX6_turnIn 65 = .ok (.iconst 2, 1) := by decide +kernel
theorem dX6_turnIn_66 : decode cX6_turnIn 66 = .ok (.dup2, 1) := by decide +kernel
theorem dX6_turnIn_67 : decode cX6_turnIn 67 = .ok (.iaload, 1) := by decide +kernel
theorem dX6_turnIn_68 : decode cX6_turnIn 68 = .ok (.iload 5, 2) := by decide +kernel
theorem dX6_turnIn_70 : decode cX6_turnIn 70 = .ok (.iadd, 1) := by decide +kernel
theorem dX6_turnIn_71 : decode cX6_turnIn 71 = .ok (.iastore, 1) := by decide +kernel
theorem dX6_turnIn_72 : decode cX6_turnIn 72 = .ok (.aload_n 1, 1) := by decide +kernel
theorem dX6_turnIn_73 : decode cX6_turnIn 73 = .ok (.iconst 3, 1) := by decide +kernel
theorem dX6_turnIn_74 : decode cX6_turnIn 74 = .ok (.iload_n 3, 1) := by decide +kernel
theorem dX6_turnIn_75 : decode cX6_turnIn 75 = .ok (.iadd, 1) := by decide +kernel
theorem dX6_turnIn_76 : decode cX6_turnIn 76 = .ok (.aload_n 1, 1) := by decide +kernel
theorem dX6_turnIn_77 : decode cX6_turnIn 77 = .ok (.iconst 3, 1) := by decide +kernel
theorem dX6_turnIn_78 : decode cX6_turnIn 78 = .ok (.iload_n 3, 1) := by decide +kernel
theorem dX6_turnIn_79 : decode cX6_turnIn 79 = .ok (.iadd, 1) := by decide +kernel
theorem dX6_turnIn_80 : decode cX6_turnIn 80 = .ok (.iaload, 1) := by decide +kernel
theorem dX6_turnIn_81 : decode cX6_turnIn 81 = .ok (.iload 5, 2) := by decide +kernel
theorem dX6_turnIn_83 : decode cX6_turnIn 83 = .ok (.if_icmp .le 14, 3) := by decide +kernel
theorem dX6_turnIn_86 : decode cX6_turnIn 86 = .ok (.aload_n 1, 1) := by decide +kernel
theorem dX6_turnIn_87 : decode cX6_turnIn 87 = .ok (.iconst 3, 1) := by decide +kernel
theorem dX6_turnIn_88 : decode cX6_turnIn 88 = .ok (.iload_n 3, 1) := by decide +kernel
theorem dX6_turnIn_89 : decode cX6_turnIn 89 = .ok (.iadd, 1) := by decide +kernel
theorem dX6_turnIn_90 : decode cX6_turnIn 90 = .ok (.iaload, 1) := by decide +kernel
theorem dX6_turnIn_91 : decode cX6_turnIn 91 = .ok (.iload 5, 2) := by decide +kernel
theorem dX6_turnIn_93 : decode cX6_turnIn 93 = .ok (.isub, 1) := by decide +kernel
theorem dX6_turnIn_94 : decode cX6_turnIn 94 = .ok (.goto 4, 3) := by decide +kernel
theorem dX6_turnIn_97 : decode cX6_turnIn 97 = .ok (.iconst 0, 1) := by decide +kernel
theorem dX6_turnIn_98 : decode cX6_turnIn 98 = .ok (.iastore, 1) := by decide +kernel
theorem dX6_turnIn_99 : decode cX6_turnIn 99 = .ok (.aload_n 0, 1) := by decide +kernel
theorem dX6_turnIn_100 : decode cX6_turnIn 100 = .ok (.getfield 38, 3) := by decide +kernel
theorem dX6_turnIn_103 : decode cX6_turnIn 103 = .ok (.iload_n 3, 1) := by decide +kernel
theorem dX6_turnIn_104 : decode cX6_turnIn 104 = .ok (.dup2, 1) := by decide +kernel
theorem dX6_turnIn_105 : decode cX6_turnIn 105 = .ok (.iaload, 1) := by decide +kernel
theorem dX6_turnIn_106 : decode cX6_turnIn 106 = .ok (.iload 5, 2) := by decide +kernel
theorem dX6_turnIn_108 : decode cX6_turnIn 108 = .ok (.ifCond .le 7, 3) := by decide +kernel
theorem dX6_turnIn_111 : decode cX6_turnIn 111 = .ok (.iconst 1, 1) := by decide +kernel
theorem dX6_turnIn_112 : decode cX6_turnIn 112 = .ok (.goto 4, 3) := by decide +kernel
theorem dX6_turnIn_115 : decode cX6_turnIn 115 = .ok (.iconst 0, 1) := by decide +kernel
theorem dX6_turnIn_116 : decode cX6_turnIn 116 = .ok (.iadd, 1) := by decide +kernel
theorem dX6_turnIn_117 : decode cX6_turnIn 117 = .ok (.iastore, 1) := by decide +kernel
theorem dX6_turnIn_118 : decode cX6_turnIn 118 = .ok (.iload 5, 2) := by decide +kernel
theorem dX6_turnIn_120 : decode cX6_turnIn 120 = .ok (.iload 4, 2) := by decide +kernel
theorem dX6_turnIn_122 : decode cX6_turnIn 122 = .ok (.if_icmp .ge 21, 3) := by decide +kernel
theorem dX6_turnIn_125 : decode cX6_turnIn 125 = .ok (.aload_n 1, 1) := by decide +kernel
theorem dX6_turnIn_126 : decode cX6_turnIn 126 = .ok (.iconst 3, 1) := by decide +kernel
theorem dX6_turnIn_127 : decode cX6_turnIn 127 = .ok (.iload_n 3, 1) := by decide +kernel
theorem dX6_turnIn_128 : decode cX6_turnIn 128 = .ok (.iadd, 1) := by decide +kernel
theorem dX6_turnIn_129 : decode cX6_turnIn 129 = .ok (.iaload, 1) := by decide +kernel
theorem dX6_turnIn_130 : decode cX6_turnIn 130 = .ok (.ifCond .le 13, 3) := by decide +kernel
theorem dX6_turnIn_133 : decode cX6_turnIn 133 = .ok (.aload_n 1, 1) := by decide +kernel
theorem dX6_turnIn_134 : decode cX6_turnIn 134 = .ok (.bipush 15, 2) := by decide +kernel
theorem dX6_turnIn_136 : decode cX6_turnIn 136 = .ok (.iload_n 3, 1) := by decide +kernel
theorem dX6_turnIn_137 : decode cX6_turnIn 137 = .ok (.iadd, 1) := by decide +kernel
theorem dX6_turnIn_138 : decode cX6_turnIn 138 = .ok (.dup2, 1) := by decide +kernel
theorem dX6_turnIn_139 : decode cX6_turnIn 139 = .ok (.iaload, 1) := by decide +kernel
theorem dX6_turnIn_140 : decode cX6_turnIn 140 = .ok (.iconst 1, 1) := by decide +kernel
theorem dX6_turnIn_141 : decode cX6_turnIn 141 = .ok (.iadd, 1) := by decide +kernel
theorem dX6_turnIn_142 : decode cX6_turnIn 142 = .ok (.iastore, 1) := by decide +kernel
theorem dX6_turnIn_143 : decode cX6_turnIn 143 = .ok (.aload_n 1, 1) := by decide +kernel
theorem dX6_turnIn_144 : decode cX6_turnIn 144 = .ok (.iload_n 2, 1) := by decide +kernel
theorem dX6_turnIn_145 : decode cX6_turnIn 145 = .ok (.iload 5, 2) := by decide +kernel
theorem dX6_turnIn_147 : decode cX6_turnIn 147 = .ok (.iload 4, 2) := by decide +kernel
theorem dX6_turnIn_149 : decode cX6_turnIn 149 = .ok (.if_icmp .ne 15, 3) := by decide +kernel
theorem dX6_turnIn_152 : decode cX6_turnIn 152 = .ok (.aload_n 1, 1) := by decide +kernel
theorem dX6_turnIn_153 : decode cX6_turnIn 153 = .ok (.iload_n 3, 1) := by decide +kernel
theorem dX6_turnIn_154 : decode cX6_turnIn 154 = .ok (.invokestatic 63, 3) := by decide +kernel
theorem dX6_turnIn_157 : decode cX6_turnIn 157 = .ok (.ifCond .ne 7, 3) := by decide +kernel
theorem dX6_turnIn_160 : decode cX6_turnIn 160 = .ok (.iconst 1, 1) := by decide +kernel
theorem dX6_turnIn_161 : decode cX6_turnIn 161 = .ok (.goto 4, 3) := by decide +kernel
theorem dX6_turnIn_164 : decode cX6_turnIn 164 = .ok (.iconst 0, 1) := by decide +kernel
theorem dX6_turnIn_165 : decode cX6_turnIn 165 = .ok (.invokestatic 134, 3) := by decide +kernel
theorem dX6_turnIn_168 : decode cX6_turnIn 168 = .ok (.return_, 1) := by decide +kernel
theorem dX6_nightIn_0 : decode cX6_nightIn 0 = .ok (.aload_n 1, 1) := by decide +kernel
theorem dX6_nightIn_1 : decode cX6_nightIn 1 = .ok (.invokestatic 126, 3) := by decide +kernel
theorem dX6_nightIn_4 : decode cX6_nightIn 4 = .ok (.istore_n 3, 1) := by decide +kernel
theorem dX6_nightIn_5 : decode cX6_nightIn 5 = .ok (.iconst 0, 1) := by decide +kernel
theorem dX6_nightIn_6 : decode cX6_nightIn 6 = .ok (.istore 4, 2) := by decide +kernel
theorem dX6_nightIn_8 : decode cX6_nightIn 8 = .ok (.iload 4, 2) := by decide +kernel
theorem dX6_nightIn_10 : decode cX6_nightIn 10 = .ok (.aload_n 1, 1) := by decide +kernel
theorem dX6_nightIn_11 : decode cX6_nightIn 11 = .ok (.bipush 27, 2) := by decide +kernel
theorem dX6_nightIn_13 : decode cX6_nightIn 13 = .ok (.iaload, 1) := by decide +kernel
theorem dX6_nightIn_14 : decode cX6_nightIn 14 = .ok (.if_icmp .ge 40, 3) := by decide +kernel
theorem dX6_nightIn_17 : decode cX6_nightIn 17 = .ok (.aload_n 0, 1) := by decide +kernel
theorem dX6_nightIn_18 : decode cX6_nightIn 18 = .ok (.getfield 35, 3) := by decide +kernel
theorem dX6_nightIn_21 : decode cX6_nightIn 21 = .ok (.iload 4, 2) := by decide +kernel
theorem dX6_nightIn_23 : decode cX6_nightIn 23 = .ok (.iload_n 3, 1) := by decide +kernel
theorem dX6_nightIn_24 : decode cX6_nightIn 24 = .ok (.ifCond .ne 12, 3) := by decide +kernel
theorem dX6_nightIn_27 : decode cX6_nightIn 27 = .ok (.aload_n 1, 1) := by decide +kernel
theorem dX6_nightIn_28 : decode cX6_nightIn 28 = .ok (.iload 4, 2) := by decide +kernel
theorem dX6_nightIn_30 : decode cX6_nightIn 30 = .ok (.invokestatic 63, 3) := by decide +kernel
theorem dX6_nightIn_33 : decode cX6_nightIn 33 = .ok (.ifCond .eq 7, 3) := by decide +kernel
theorem dX6_nightIn_36 : decode cX6_nightIn 36 = .ok (.iconst 0, 1) := by decide +kernel
theorem dX6_nightIn_37 : decode cX6_nightIn 37 = .ok (.goto 10, 3) := by decide +kernel
theorem dX6_nightIn_40 : decode cX6_nightIn 40 = .ok (.aload_n 1, 1) := by decide +kernel
theorem dX6_nightIn_41 : decode cX6_nightIn 41 = .ok (.bipush 9, 2) := by decide +kernel
theorem dX6_nightIn_43 : decode cX6_nightIn 43 = .ok (.iload 4, 2) := by decide +kernel
theorem dX6_nightIn_45 : decode cX6_nightIn 45 = .ok (.iadd, 1) := by decide +kernel
theorem dX6_nightIn_46 : decode cX6_nightIn 46 = .ok (.iaload, 1) := by decide +kernel
theorem dX6_nightIn_47 : decode cX6_nightIn 47 = .ok (.iastore, 1) := by decide +kernel
theorem dX6_nightIn_48 : decode cX6_nightIn 48 = .ok (.iinc 4 1, 3) := by decide +kernel
theorem dX6_nightIn_51 : decode cX6_nightIn 51 = .ok (.goto (-43), 3) := by decide +kernel
theorem dX6_nightIn_54 : decode cX6_nightIn 54 = .ok (.iconst 0, 1) := by decide +kernel
theorem dX6_nightIn_55 : decode cX6_nightIn 55 = .ok (.istore 4, 2) := by decide +kernel
theorem dX6_nightIn_57 : decode cX6_nightIn 57 = .ok (.iload 4, 2) := by decide +kernel
theorem dX6_nightIn_59 : decode cX6_nightIn 59 = .ok (.aload_n 1, 1) := by decide +kernel
theorem dX6_nightIn_60 : decode cX6_nightIn 60 = .ok (.bipush 28, 2) := by decide +kernel
theorem dX6_nightIn_62 : decode cX6_nightIn 62 = .ok (.iaload, 1) := by decide +kernel
theorem dX6_nightIn_63 : decode cX6_nightIn 63 = .ok (.if_icmp .ge 29, 3) := by decide +kernel
theorem dX6_nightIn_66 : decode cX6_nightIn 66 = .ok (.iload_n 3, 1) := by decide +kernel
theorem dX6_nightIn_67 : decode cX6_nightIn 67 = .ok (.ifCond .ne 25, 3) := by decide +kernel
theorem dX6_nightIn_70 : decode cX6_nightIn 70 = .ok (.iload_n 2, 1) := by decide +kernel
theorem dX6_nightIn_71 : decode cX6_nightIn 71 = .ok (.iload 4, 2) := by decide +kernel
theorem dX6_nightIn_73 : decode cX6_nightIn 73 = .ok (.invokestatic 138, 3) := by decide +kernel
theorem dX6_nightIn_76 : decode cX6_nightIn 76 = .ok (.ifCond .ne 10, 3) := by decide +kernel
theorem dX6_nightIn_79 : decode cX6_nightIn 79 = .ok (.aload_n 0, 1) := by decide +kernel
theorem dX6_nightIn_80 : decode cX6_nightIn 80 = .ok (.aload_n 1, 1) := by decide +kernel
theorem dX6_nightIn_81 : decode cX6_nightIn 81 = .ok (.iload 4, 2) := by decide +kernel
theorem dX6_nightIn_83 : decode cX6_nightIn 83 = .ok (.invokevirtual 141, 3) := by decide +kernel
theorem dX6_nightIn_86 : decode cX6_nightIn 86 = .ok (.iinc 4 1, 3) := by decide +kernel
theorem dX6_nightIn_89 : decode cX6_nightIn 89 = .ok (.goto (-32), 3) := by decide +kernel
theorem dX6_nightIn_92 : decode cX6_nightIn 92 = .ok (.iconst 0, 1) := by decide +kernel
theorem dX6_nightIn_93 : decode cX6_nightIn 93 = .ok (.istore 4, 2) := by decide +kernel
theorem dX6_nightIn_95 : decode cX6_nightIn 95 = .ok (.iload 4, 2) := by decide +kernel
theorem dX6_nightIn_97 : decode cX6_nightIn 97 = .ok (.aload_n 1, 1) := by decide +kernel
theorem dX6_nightIn_98 : decode cX6_nightIn 98 = .ok (.bipush 27, 2) := by decide +kernel
theorem dX6_nightIn_100 : decode cX6_nightIn 100 = .ok (.iaload, 1) := by decide +kernel
theorem dX6_nightIn_101 : decode cX6_nightIn 101 = .ok (.if_icmp .ge 107, 3) := by decide +kernel
theorem dX6_nightIn_104 : decode cX6_nightIn 104 = .ok (.aload_n 0, 1) := by decide +kernel
theorem dX6_nightIn_105 : decode cX6_nightIn 105 = .ok (.getfield 35, 3) := by decide +kernel
theorem dX6_nightIn_108 : decode cX6_nightIn 108 = .ok (.iload 4, 2) := by decide +kernel
theorem dX6_nightIn_110 : decode cX6_nightIn 110 = .ok (.aload_n 1, 1) := by decide +kernel
theorem dX6_nightIn_111 : decode cX6_nightIn 111 = .ok (.iload 4, 2) := by decide +kernel
theorem dX6_nightIn_113 : decode cX6_nightIn 113 = .ok (.invokestatic 63, 3) := by decide +kernel
theorem dX6_nightIn_116 : decode cX6_nightIn 116 = .ok (.ifCond .eq 7, 3) := by decide +kernel
theorem dX6_nightIn_119 : decode cX6_nightIn 119 = .ok (.iconst 0, 1) := by decide +kernel
theorem dX6_nightIn_120 : decode cX6_nightIn 120 = .ok (.goto 10, 3) := by decide +kernel
theorem dX6_nightIn_123 : decode cX6_nightIn 123 = .ok (.aload_n 0, 1) := by decide +kernel
theorem dX6_nightIn_124 : decode cX6_nightIn 124 = .ok (.getfield 35, 3) := by decide +kernel
theorem dX6_nightIn_127 : decode cX6_nightIn 127 = .ok (.iload 4, 2) := by decide +kernel
theorem dX6_nightIn_129 : decode cX6_nightIn 129 = .ok (.iaload, 1) := by decide +kernel
theorem dX6_nightIn_130 : decode cX6_nightIn 130 = .ok (.iastore, 1) := by decide +kernel
theorem dX6_nightIn_131 : decode cX6_nightIn 131 = .ok (.aload_n 1, 1) := by decide +kernel
theorem dX6_nightIn_132 : decode cX6_nightIn 132 = .ok (.iconst 3, 1) := by decide +kernel
theorem dX6_nightIn_133 : decode cX6_nightIn 133 = .ok (.iload 4, 2) := by decide +kernel
theorem dX6_nightIn_135 : decode cX6_nightIn 135 = .ok (.iadd, 1) := by decide +kernel
theorem dX6_nightIn_136 : decode cX6_nightIn 136 = .ok (.iaload, 1) := by decide +kernel
theorem dX6_nightIn_137 : decode cX6_nightIn 137 = .ok (.aload_n 1, 1) := by decide +kernel
theorem dX6_nightIn_138 : decode cX6_nightIn 138 = .ok (.iconst 3, 1) := by decide +kernel
theorem dX6_nightIn_139 : decode cX6_nightIn 139 = .ok (.iload 4, 2) := by decide +kernel
theorem dX6_nightIn_141 : decode cX6_nightIn 141 = .ok (.iadd, 1) := by decide +kernel
theorem dX6_nightIn_142 : decode cX6_nightIn 142 = .ok (.iaload, 1) := by decide +kernel
theorem dX6_nightIn_143 : decode cX6_nightIn 143 = .ok (.aload_n 1, 1) := by decide +kernel
theorem dX6_nightIn_144 : decode cX6_nightIn 144 = .ok (.bipush 26, 2) := by decide +kernel
theorem dX6_nightIn_146 : decode cX6_nightIn 146 = .ok (.iaload, 1) := by decide +kernel
theorem dX6_nightIn_147 : decode cX6_nightIn 147 = .ok (.imul, 1) := by decide +kernel
theorem dX6_nightIn_148 : decode cX6_nightIn 148 = .ok (.bipush 100, 2) := by decide +kernel
theorem dX6_nightIn_150 : decode cX6_nightIn 150 = .ok (.idiv, 1) := by decide +kernel
theorem dX6_nightIn_151 : decode cX6_nightIn 151 = .ok (.iadd, 1) := by decide +kernel
theorem dX6_nightIn_152 : decode cX6_nightIn 152 = .ok (.istore 5, 2) := by decide +kernel
theorem dX6_nightIn_154 : decode cX6_nightIn 154 = .ok (.iload_n 3, 1) := by decide +kernel
theorem dX6_nightIn_155 : decode cX6_nightIn 155 = .ok (.ifCond .ne 12, 3) := by decide +kernel
theorem dX6_nightIn_158 : decode cX6_nightIn 158 = .ok (.aload_n 1, 1) := by decide +kernel
theorem dX6_nightIn_159 : decode cX6_nightIn 159 = .ok (.iload 4, 2) := by decide +kernel
theorem dX6_nightIn_161 : decode cX6_nightIn 161 = .ok (.invokestatic 63, 3) := by decide +kernel
theorem dX6_nightIn_164 : decode cX6_nightIn 164 = .ok (.ifCond .eq 12, 3) := by decide +kernel
theorem dX6_nightIn_167 : decode cX6_nightIn 167 = .ok (.aload_n 1, 1) := by decide +kernel
theorem dX6_nightIn_168 : decode cX6_nightIn 168 = .ok (.iconst 3, 1) := by decide +kernel
theorem dX6_nightIn_169 : decode cX6_nightIn 169 = .ok (.iload 4, 2) := by decide +kernel
theorem dX6_nightIn_171 : decode cX6_nightIn 171 = .ok (.iadd, 1) := by decide +kernel
theorem dX6_nightIn_172 : decode cX6_nightIn 172 = .ok (.iaload, 1) := by decide +kernel
theorem dX6_nightIn_173 : decode cX6_nightIn 173 = .ok (.goto 5, 3) := by decide +kernel
theorem dX6_nightIn_176 : decode cX6_nightIn 176 = .ok (.iload 5, 2) := by decide +kernel
theorem dX6_nightIn_178 : decode cX6_nightIn 178 = .ok (.istore 5, 2) := by decide +kernel
theorem dX6_nightIn_180 : decode cX6_nightIn 180 = .ok (.aload_n 1, 1) := by decide +kernel
theorem dX6_nightIn_181 : decode cX6_nightIn 181 = .ok (.iconst 3, 1) := by decide +kernel
theorem dX6_nightIn_182 : decode cX6_nightIn 182 = .ok (.iload 4, 2) := by decide +kernel
theorem dX6_nightIn_184 : decode cX6_nightIn 184 = .ok (.iadd, 1) := by decide +kernel
theorem dX6_nightIn_185 : decode cX6_nightIn 185 = .ok (.iload 5, 2) := by decide +kernel
theorem dX6_nightIn_187 : decode cX6_nightIn 187 = .ok (.sipush 9999, 3) := by decide +kernel
theorem dX6_nightIn_190 : decode cX6_nightIn 190 = .ok (.if_icmp .le 9, 3) := by decide +kernel
theorem dX6_nightIn_193 : decode cX6_nightIn 193 = .ok (.sipush 9999, 3) := by decide +kernel
theorem dX6_nightIn_196 : decode cX6_nightIn 196 = .ok (.goto 5, 3) := by decide +kernel
theorem dX6_nightIn_199 : decode cX6_nightIn 199 = .ok (.iload 5, 2) := by decide +kernel
theorem dX6_nightIn_201 : decode cX6_nightIn 201 = .ok (.iastore, 1) := by decide +kernel
theorem dX6_nightIn_202 : decode cX6_nightIn 202 = .ok (.iinc 4 1, 3) := by decide +kernel
theorem dX6_nightIn_205 : decode cX6_nightIn 205 = .ok (.goto (-110), 3) := by decide +kernel
theorem dX6_nightIn_208 : decode cX6_nightIn 208 = .ok (.aload_n 1, 1) := by decide +kernel
theorem dX6_nightIn_209 : decode cX6_nightIn 209 = .ok (.iconst 0, 1) := by decide +kernel
theorem dX6_nightIn_210 : decode cX6_nightIn 210 = .ok (.dup2, 1) := by decide +kernel
theorem dX6_nightIn_211 : decode cX6_nightIn 211 = .ok (.iaload, 1) := by decide +kernel
theorem dX6_nightIn_212 : decode cX6_nightIn 212 = .ok (.iconst 1, 1) := by decide +kernel
theorem dX6_nightIn_213 : decode cX6_nightIn 213 = .ok (.iadd, 1) := by decide +kernel
theorem dX6_nightIn_214 : decode cX6_nightIn 214 = .ok (.iastore, 1) := by decide +kernel
theorem dX6_nightIn_215 : decode cX6_nightIn 215 = .ok (.return_, 1) := by decide +kernel
theorem dX6_nights_0 : decode cX6_nights 0 = .ok (.iload_n 1, 1) := by decide +kernel
theorem dX6_nights_1 : decode cX6_nights 1 = .ok (.iconst 1, 1) := by decide +kernel
theorem dX6_nights_2 : decode cX6_nights 2 = .ok (.bipush 40, 2) := by decide +kernel
theorem dX6_nights_4 : decode cX6_nights 4 = .ok (.invokestatic 47, 3) := by decide +kernel
theorem dX6_nights_7 : decode cX6_nights 7 = .ok (.ifCond .ne 5, 3) := by decide +kernel
theorem dX6_nights_10 : decode cX6_nights 10 = .ok (.iconst (-1), 1) := by decide +kernel
theorem dX6_nights_11 : decode cX6_nights 11 = .ok (.ireturn, 1) := by decide +kernel
theorem dX6_nights_12 : decode cX6_nights 12 = .ok (.aload_n 0, 1) := by decide +kernel
theorem dX6_nights_13 : decode cX6_nights 13 = .ok (.getfield 23, 3) := by decide +kernel
theorem dX6_nights_16 : decode cX6_nights 16 = .ok (.iconst 0, 1) := by decide +kernel
theorem dX6_nights_17 : decode cX6_nights 17 = .ok (.iaload, 1) := by decide +kernel
theorem dX6_nights_18 : decode cX6_nights 18 = .ok (.iload_n 1, 1) := by decide +kernel
theorem dX6_nights_19 : decode cX6_nights 19 = .ok (.iadd, 1) := by decide +kernel
theorem dX6_nights_20 : decode cX6_nights 20 = .ok (.sipush 9999, 3) := by decide +kernel
theorem dX6_nights_23 : decode cX6_nights 23 = .ok (.if_icmp .le 6, 3) := by decide +kernel
theorem dX6_nights_26 : decode cX6_nights 26 = .ok (.bipush (-3), 2) := by decide +kernel
theorem dX6_nights_28 : decode cX6_nights 28 = .ok (.ireturn, 1) := by decide +kernel
theorem dX6_nights_29 : decode cX6_nights 29 = .ok (.iconst 0, 1) := by decide +kernel
theorem dX6_nights_30 : decode cX6_nights 30 = .ok (.istore_n 2, 1) := by decide +kernel
theorem dX6_nights_31 : decode cX6_nights 31 = .ok (.iload_n 2, 1) := by decide +kernel
theorem dX6_nights_32 : decode cX6_nights 32 = .ok (.iload_n 1, 1) := by decide +kernel
theorem dX6_nights_33 : decode cX6_nights 33 = .ok (.if_icmp .ge 22, 3) := by decide +kernel
theorem dX6_nights_36 : decode cX6_nights 36 = .ok (.aload_n 0, 1) := by decide +kernel
theorem dX6_nights_37 : decode cX6_nights 37 = .ok (.invokevirtual 145, 3) := by decide +kernel
theorem dX6_nights_40 : decode cX6_nights 40 = .ok (.aload_n 0, 1) := by decide +kernel
theorem dX6_nights_41 : decode cX6_nights 41 = .ok (.aload_n 0, 1) := by decide +kernel
theorem dX6_nights_42 : decode cX6_nights 42 = .ok (.getfield 23, 3) := by decide +kernel
theorem dX6_nights_45 : decode cX6_nights 45 = .ok (.iconst 0, 1) := by decide +kernel
theorem dX6_nights_46 : decode cX6_nights 46 = .ok (.invokevirtual 148, 3) := by decide +kernel
theorem dX6_nights_49 : decode cX6_nights 49 = .ok (.iinc 2 1, 3) := by decide +kernel
theorem dX6_nights_52 : decode cX6_nights 52 = .ok (.goto (-21), 3) := by decide +kernel
theorem dX6_nights_55 : decode cX6_nights 55 = .ok (.aload_n 0, 1) := by decide +kernel
theorem dX6_nights_56 : decode cX6_nights 56 = .ok (.getfield 23, 3) := by decide +kernel
theorem dX6_nights_59 : decode cX6_nights 59 = .ok (.invokestatic 119, 3) := by decide +kernel
theorem dX6_nights_62 : decode cX6_nights 62 = .ok (.ireturn, 1) := by decide +kernel
theorem dX6_put_0 : decode cX6_put 0 = .ok (.aload_n 0, 1) := by decide +kernel
theorem dX6_put_1 : decode cX6_put 1 = .ok (.iload_n 1, 1) := by decide +kernel
theorem dX6_put_2 : decode cX6_put 2 = .ok (.invokevirtual 55, 3) := by decide +kernel
theorem dX6_put_5 : decode cX6_put 5 = .ok (.ifCond .eq 13, 3) := by decide +kernel
theorem dX6_put_8 : decode cX6_put 8 = .ok (.iload_n 2, 1) := by decide +kernel
theorem dX6_put_9 : decode cX6_put 9 = .ok (.iconst 0, 1) := by decide +kernel
theorem dX6_put_10 : decode cX6_put 10 = .ok (.bipush 20, 2) := by decide +kernel
theorem dX6_put_12 : decode cX6_put 12 = .ok (.invokestatic 47, 3) := by decide +kernel
theorem dX6_put_15 : decode cX6_put 15 = .ok (.ifCond .ne 5, 3) := by decide +kernel
theorem dX6_put_18 : decode cX6_put 18 = .ok (.iconst (-1), 1) := by decide +kernel
theorem dX6_put_19 : decode cX6_put 19 = .ok (.ireturn, 1) := by decide +kernel
theorem dX6_put_20 : decode cX6_put 20 = .ok (.aload_n 0, 1) := by decide +kernel
theorem dX6_put_21 : decode cX6_put 21 = .ok (.getfield 23, 3) := by decide +kernel
theorem dX6_put_24 : decode cX6_put 24 = .ok (.bipush 9, 2) := by decide +kernel
theorem dX6_put_26 : decode cX6_put 26 = .ok (.iload_n 1, 1) := by decide +kernel
theorem dX6_put_27 : decode cX6_put 27 = .ok (.iadd, 1) := by decide +kernel
theorem dX6_put_28 : decode cX6_put 28 = .ok (.iaload, 1) := by decide +kernel
theorem dX6_put_29 : decode cX6_put 29 = .ok (.istore_n 3, 1) := by decide +kernel
theorem dX6_put_30 : decode cX6_put 30 = .ok (.iload_n 3, 1) := by decide +kernel
theorem dX6_put_31 : decode cX6_put 31 = .ok (.iload_n 2, 1) := by decide +kernel
theorem dX6_put_32 : decode cX6_put 32 = .ok (.if_icmp .ne 6, 3) := by decide +kernel
theorem dX6_put_35 : decode cX6_put 35 = .ok (.bipush (-2), 2) := by decide +kernel
theorem dX6_put_37 : decode cX6_put 37 = .ok (.ireturn, 1) := by decide +kernel
theorem dX6_put_38 : decode cX6_put 38 = .ok (.aload_n 0, 1) := by decide +kernel
theorem dX6_put_39 : decode cX6_put 39 = .ok (.invokevirtual 145, 3) := by decide +kernel
theorem dX6_put_42 : decode cX6_put 42 = .ok (.aload_n 0, 1) := by decide +kernel
theorem dX6_put_43 : decode cX6_put 43 = .ok (.getfield 23, 3) := by decide +kernel
theorem dX6_put_46 : decode cX6_put 46 = .ok (.bipush 9, 2) := by decide +kernel
theorem dX6_put_48 : decode cX6_put 48 = .ok (.iload_n 1, 1) := by decide +kernel
theorem dX6_put_49 : decode cX6_put 49 = .ok (.iadd, 1) := by decide +kernel
theorem dX6_put_50 : decode cX6_put 50 = .ok (.iload_n 2, 1) := by decide +kernel
theorem dX6_put_51 : decode cX6_put 51 = .ok (.iastore, 1) := by decide +kernel
theorem dX6_put_52 : decode cX6_put 52 = .ok (.iload_n 3, 1) := by decide +kernel
theorem dX6_put_53 : decode cX6_put 53 = .ok (.ireturn, 1) := by decide +kernel
theorem dX6_pay_0 : decode cX6_pay 0 = .ok (.aload_n 0, 1) := by decide +kernel
theorem dX6_pay_1 : decode cX6_pay 1 = .ok (.iload_n 1, 1) := by decide +kernel
theorem dX6_pay_2 : decode cX6_pay 2 = .ok (.invokevirtual 55, 3) := by decide +kernel
theorem dX6_pay_5 : decode cX6_pay 5 = .ok (.ifCond .eq 14, 3) := by decide +kernel
theorem dX6_pay_8 : decode cX6_pay 8 = .ok (.iload_n 2, 1) := by decide +kernel
theorem dX6_pay_9 : decode cX6_pay 9 = .ok (.iconst 1, 1) := by decide +kernel
theorem dX6_pay_10 : decode cX6_pay 10 = .ok (.sipush 9999, 3) := by decide +kernel
theorem dX6_pay_13 : decode cX6_pay 13 = .ok (.invokestatic 47, 3) := by decide +kernel
theorem dX6_pay_16 : decode cX6_pay 16 = .ok (.ifCond .ne 5, 3) := by decide +kernel
theorem dX6_pay_19 : decode cX6_pay 19 = .ok (.iconst (-1), 1) := by decide +kernel
theorem dX6_pay_20 : decode cX6_pay 20 = .ok (.ireturn, 1) := by decide +kernel
theorem dX6_pay_21 : decode cX6_pay 21 = .ok (.aload_n 0, 1) := by decide +kernel
theorem dX6_pay_22 : decode cX6_pay 22 = .ok (.getfield 23, 3) := by decide +kernel
theorem dX6_pay_25 : decode cX6_pay 25 = .ok (.iconst 3, 1) := by decide +kernel
theorem dX6_pay_26 : decode cX6_pay 26 = .ok (.iload_n 1, 1) := by decide +kernel
theorem dX6_pay_27 : decode cX6_pay 27 = .ok (.iadd, 1) := by decide +kernel
theorem dX6_pay_28 : decode cX6_pay 28 = .ok (.iaload, 1) := by decide +kernel
theorem dX6_pay_29 : decode cX6_pay 29 = .ok (.ifCond .ne 6, 3) := by decide +kernel
theorem dX6_pay_32 : decode cX6_pay 32 = .ok (.bipush (-2), 2) := by decide +kernel
theorem dX6_pay_34 : decode cX6_pay 34 = .ok (.ireturn, 1) := by decide +kernel
theorem dX6_pay_35 : decode cX6_pay 35 = .ok (.aload_n 0, 1) := by decide +kernel
theorem dX6_pay_36 : decode cX6_pay 36 = .ok (.invokevirtual 145, 3) := by decide +kernel
theorem dX6_pay_39 : decode cX6_pay 39 = .ok (.aload_n 0, 1) := by decide +kernel
theorem dX6_pay_40 : decode cX6_pay 40 = .ok (.getfield 23, 3) := by decide +kernel
theorem dX6_pay_43 : decode cX6_pay 43 = .ok (.iconst 3, 1) := by decide +kernel
theorem dX6_pay_44 : decode cX6_pay 44 = .ok (.iload_n 1, 1) := by decide +kernel
theorem dX6_pay_45 : decode cX6_pay 45 = .ok (.iadd, 1) := by decide +kernel
theorem dX6_pay_46 : decode cX6_pay 46 = .ok (.aload_n 0, 1) := by decide +kernel
theorem dX6_pay_47 : decode cX6_pay 47 = .ok (.getfield 23, 3) := by decide +kernel
theorem dX6_pay_50 : decode cX6_pay 50 = .ok (.iconst 3, 1) := by decide +kernel
theorem dX6_pay_51 : decode cX6_pay 51 = .ok (.iload_n 1, 1) := by decide +kernel
theorem dX6_pay_52 : decode cX6_pay 52 = .ok (.iadd, 1) := by decide +kernel
theorem dX6_pay_53 : decode cX6_pay 53 = .ok (.iaload, 1) := by decide +kernel
theorem dX6_pay_54 : decode cX6_pay 54 = .ok (.iload_n 2, 1) := by decide +kernel
theorem dX6_pay_55 : decode cX6_pay 55 = .ok (.if_icmp .le 16, 3) := by decide +kernel
theorem dX6_pay_58 : decode cX6_pay 58 = .ok (.aload_n 0, 1) := by decide +kernel
theorem dX6_pay_59 : decode cX6_pay 59 = .ok (.getfield 23, 3) := by decide +kernel
theorem dX6_pay_62 : decode cX6_pay 62 = .ok (.iconst 3, 1) := by decide +kernel
theorem dX6_pay_63 : decode cX6_pay 63 = .ok (.iload_n 1, 1) := by decide +kernel
theorem dX6_pay_64 : decode cX6_pay 64 = .ok (.iadd, 1) := by decide +kernel
theorem dX6_pay_65 : decode cX6_pay 65 = .ok (.iaload, 1) := by decide +kernel
theorem dX6_pay_66 : decode cX6_pay 66 = .ok (.iload_n 2, 1) := by decide +kernel
theorem dX6_pay_67 : decode cX6_pay 67 = .ok (.isub, 1) := by decide +kernel
theorem dX6_pay_68 : decode cX6_pay 68 = .ok (.goto 4, 3) := by decide +kernel
theorem dX6_pay_71 : decode cX6_pay 71 = .ok (.iconst 0, 1) := by decide +kernel
theorem dX6_pay_72 : decode cX6_pay 72 = .ok (.iastore, 1) := by decide +kernel
theorem dX6_pay_73 : decode cX6_pay 73 = .ok (.aload_n 0, 1) := by decide +kernel
theorem dX6_pay_74 : decode cX6_pay 74 = .ok (.getfield 23, 3) := by decide +kernel
theorem dX6_pay_77 : decode cX6_pay 77 = .ok (.iconst 3, 1) := by decide +kernel
theorem dX6_pay_78 : decode cX6_pay 78 = .ok (.iload_n 1, 1) := by decide +kernel
theorem dX6_pay_79 : decode cX6_pay 79 = .ok (.iadd, 1) := by decide +kernel

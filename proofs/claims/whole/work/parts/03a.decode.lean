theorem dX0_init_0 : decode cX0_init 0 = .ok (.aload_n 0, 1) := by decide +kernel
theorem dX0_init_1 : decode cX0_init 1 = .ok (.invokespecial 3, 3) := by decide +kernel
theorem dX0_init_4 : decode cX0_init 4 = .ok (.aload_n 0, 1) := by decide +kernel
theorem dX0_init_5 : decode cX0_init 5 = .ok (.bipush 6, 2) := by decide +kernel
theorem dX0_init_7 : decode cX0_init 7 = .ok (.newarray .int, 2) := by decide +kernel
theorem dX0_init_9 : decode cX0_init 9 = .ok (.putfield 9, 3) := by decide +kernel
theorem dX0_init_12 : decode cX0_init 12 = .ok (.aload_n 0, 1) := by decide +kernel
theorem dX0_init_13 : decode cX0_init 13 = .ok (.bipush 6, 2) := by decide +kernel
theorem dX0_init_15 : decode cX0_init 15 = .ok (.newarray .int, 2) := by decide +kernel
theorem dX0_init_17 : decode cX0_init 17 = .ok (.putfield 15, 3) := by decide +kernel
theorem dX0_init_20 : decode cX0_init 20 = .ok (.aload_n 0, 1) := by decide +kernel
theorem dX0_init_21 : decode cX0_init 21 = .ok (.bipush 6, 2) := by decide +kernel
theorem dX0_init_23 : decode cX0_init 23 = .ok (.newarray .int, 2) := by decide +kernel
theorem dX0_init_25 : decode cX0_init 25 = .ok (.putfield 18, 3) := by decide +kernel
theorem dX0_init_28 : decode cX0_init 28 = .ok (.aload_n 0, 1) := by decide +kernel
theorem dX0_init_29 : decode cX0_init 29 = .ok (.iconst 5, 1) := by decide +kernel
theorem dX0_init_30 : decode cX0_init 30 = .ok (.newarray .int, 2) := by decide +kernel
theorem dX0_init_32 : decode cX0_init 32 = .ok (.putfield 21, 3) := by decide +kernel
theorem dX0_init_35 : decode cX0_init 35 = .ok (.aload_n 0, 1) := by decide +kernel
theorem dX0_init_36 : decode cX0_init 36 = .ok (.iconst 5, 1) := by decide +kernel
theorem dX0_init_37 : decode cX0_init 37 = .ok (.newarray .int, 2) := by decide +kernel
theorem dX0_init_39 : decode cX0_init 39 = .ok (.putfield 24, 3) := by decide +kernel
theorem dX0_init_42 : decode cX0_init 42 = .ok (.aload_n 0, 1) := by decide +kernel
theorem dX0_init_43 : decode cX0_init 43 = .ok (.iconst 5, 1) := by decide +kernel
theorem dX0_init_44 : decode cX0_init 44 = .ok (.newarray .int, 2) := by decide +kernel
theorem dX0_init_46 : decode cX0_init 46 = .ok (.putfield 27, 3) := by decide +kernel
theorem dX0_init_49 : decode cX0_init 49 = .ok (.aload_n 0, 1) := by decide +kernel
theorem dX0_init_50 : decode cX0_init 50 = .ok (.bipush 6, 2) := by decide +kernel
theorem dX0_init_52 : decode cX0_init 52 = .ok (.newarray .int, 2) := by decide +kernel
theorem dX0_init_54 : decode cX0_init 54 = .ok (.putfield 30, 3) := by decide +kernel
theorem dX0_init_57 : decode cX0_init 57 = .ok (.aload_n 0, 1) := by decide +kernel
theorem dX0_init_58 : decode cX0_init 58 = .ok (.bipush 6, 2) := by decide +kernel
theorem dX0_init_60 : decode cX0_init 60 = .ok (.newarray .int, 2) := by decide +kernel
theorem dX0_init_62 : decode cX0_init 62 = .ok (.putfield 33, 3) := by decide +kernel
theorem dX0_init_65 : decode cX0_init 65 = .ok (.aload_n 0, 1) := by decide +kernel
theorem dX0_init_66 : decode cX0_init 66 = .ok (.iconst 5, 1) := by decide +kernel
theorem dX0_init_67 : decode cX0_init 67 = .ok (.putfield 36, 3) := by decide +kernel
theorem dX0_init_70 : decode cX0_init 70 = .ok (.aload_n 0, 1) := by decide +kernel
theorem dX0_init_71 : decode cX0_init 71 = .ok (.iconst 1, 1) := by decide +kernel
theorem dX0_init_72 : decode cX0_init 72 = .ok (.putfield 40, 3) := by decide +kernel
theorem dX0_init_75 : decode cX0_init 75 = .ok (.return_, 1) := by decide +kernel
theorem dX0_takeFrom_0 : decode cX0_takeFrom 0 = .ok (.aload_n 0, 1) := by decide +kernel
theorem dX0_takeFrom_1 : decode cX0_takeFrom 1 = .ok (.aload_n 1, 1) := by decide +kernel
theorem dX0_takeFrom_2 : decode cX0_takeFrom 2 = .ok (.getfield 43, 3) := by decide +kernel
theorem dX0_takeFrom_5 : decode cX0_takeFrom 5 = .ok (.putfield 43, 3) := by decide +kernel
theorem dX0_takeFrom_8 : decode cX0_takeFrom 8 = .ok (.aload_n 0, 1) := by decide +kernel
theorem dX0_takeFrom_9 : decode cX0_takeFrom 9 = .ok (.aload_n 1, 1) := by decide +kernel
theorem dX0_takeFrom_10 : decode cX0_takeFrom 10 = .ok (.getfield 46, 3) := by decide +kernel
theorem dX0_takeFrom_13 : decode cX0_takeFrom 13 = .ok (.putfield 46, 3) := by decide +kernel
theorem dX0_takeFrom_16 : decode cX0_takeFrom 16 = .ok (.aload_n 0, 1) := by decide +kernel
theorem dX0_takeFrom_17 : decode cX0_takeFrom 17 = .ok (.aload_n 1, 1) := by decide +kernel
theorem dX0_takeFrom_18 : decode cX0_takeFrom 18 = .ok (.getfield 36, 3) := by decide +kernel
theorem dX0_takeFrom_21 : decode cX0_takeFrom 21 = .ok (.putfield 36, 3) := by decide +kernel
theorem dX0_takeFrom_24 : decode cX0_takeFrom 24 = .ok (.aload_n 0, 1) := by decide +kernel
theorem dX0_takeFrom_25 : decode cX0_takeFrom 25 = .ok (.aload_n 1, 1) := by decide +kernel
theorem dX0_takeFrom_26 : decode cX0_takeFrom 26 = .ok (.getfield 49, 3) := by decide +kernel
theorem dX0_takeFrom_29 : decode cX0_takeFrom 29 = .ok (.putfield 49, 3) := by decide +kernel
theorem dX0_takeFrom_32 : decode cX0_takeFrom 32 = .ok (.aload_n 0, 1) := by decide +kernel
theorem dX0_takeFrom_33 : decode cX0_takeFrom 33 = .ok (.aload_n 1, 1) := by decide +kernel
theorem dX0_takeFrom_34 : decode cX0_takeFrom 34 = .ok (.getfield 52, 3) := by decide +kernel
theorem dX0_takeFrom_37 : decode cX0_takeFrom 37 = .ok (.putfield 52, 3) := by decide +kernel
theorem dX0_takeFrom_40 : decode cX0_takeFrom 40 = .ok (.aload_n 0, 1) := by decide +kernel
theorem dX0_takeFrom_41 : decode cX0_takeFrom 41 = .ok (.aload_n 1, 1) := by decide +kernel
theorem dX0_takeFrom_42 : decode cX0_takeFrom 42 = .ok (.getfield 40, 3) := by decide +kernel
theorem dX0_takeFrom_45 : decode cX0_takeFrom 45 = .ok (.putfield 40, 3) := by decide +kernel
theorem dX0_takeFrom_48 : decode cX0_takeFrom 48 = .ok (.iconst 0, 1) := by decide +kernel
theorem dX0_takeFrom_49 : decode cX0_takeFrom 49 = .ok (.istore_n 2, 1) := by decide +kernel
theorem dX0_takeFrom_50 : decode cX0_takeFrom 50 = .ok (.iload_n 2, 1) := by decide +kernel
theorem dX0_takeFrom_51 : decode cX0_takeFrom 51 = .ok (.bipush 6, 2) := by decide +kernel
theorem dX0_takeFrom_53 : decode cX0_takeFrom 53 = .ok (.if_icmp .ge 52, 3) := by decide +kernel
theorem dX0_takeFrom_56 : decode cX0_takeFrom 56 = .ok (.aload_n 0, 1) := by decide +kernel
theorem dX0_takeFrom_57 : decode cX0_takeFrom 57 = .ok (.getfield 9, 3) := by decide +kernel
theorem dX0_takeFrom_60 : decode cX0_takeFrom 60 = .ok (.iload_n 2, 1) := by decide +kernel
theorem dX0_takeFrom_61 : decode cX0_takeFrom 61 = .ok (.aload_n 1, 1) := by decide +kernel
theorem dX0_takeFrom_62 : decode cX0_takeFrom 62 = .ok (.getfield 9, 3) := by decide +kernel
theorem dX0_takeFrom_65 : decode cX0_takeFrom 65 = .ok (.iload_n 2, 1) := by decide +kernel
theorem dX0_takeFrom_66 : decode cX0_takeFrom 66 = .ok (.iaload, 1) := by decide +kernel
theorem dX0_takeFrom_67 : decode cX0_takeFrom 67 = .ok (.iastore, 1) := by decide +kernel
theorem dX0_takeFrom_68 : decode cX0_takeFrom 68 = .ok (.aload_n 0, 1) := by decide +kernel
theorem dX0_takeFrom_69 : decode cX0_takeFrom 69 = .ok (.getfield 15, 3) := by decide +kernel
theorem dX0_takeFrom_72 : decode cX0_takeFrom 72 = .ok (.iload_n 2, 1) := by decide +kernel
theorem dX0_takeFrom_73 : decode cX0_takeFrom 73 = .ok (.aload_n 1, 1) := by decide +kernel
theorem dX0_takeFrom_74 : decode cX0_takeFrom 74 = .ok (.getfield 15, 3) := by decide +kernel
theorem dX0_takeFrom_77 : decode cX0_takeFrom 77 = .ok (.iload_n 2, 1) := by decide +kernel
theorem dX0_takeFrom_78 : decode cX0_takeFrom 78 = .ok (.iaload, 1) := by decide +kernel
theorem dX0_takeFrom_79 : decode cX0_takeFrom 79 = .ok (.iastore, 1) := by decide +kernel
theorem dX0_takeFrom_80 : decode cX0_takeFrom 80 = .ok (.aload_n 0, 1) := by decide +kernel
theorem dX0_takeFrom_81 : decode cX0_takeFrom 81 = .ok (.getfield 18, 3) := by decide +kernel
theorem dX0_takeFrom_84 : decode cX0_takeFrom 84 = .ok (.iload_n 2, 1) := by decide +kernel
theorem dX0_takeFrom_85 : decode cX0_takeFrom 85 = .ok (.aload_n 1, 1) := by decide +kernel
theorem dX0_takeFrom_86 : decode cX0_takeFrom 86 = .ok (.getfield 18, 3) := by decide +kernel
theorem dX0_takeFrom_89 : decode cX0_takeFrom 89 = .ok (.iload_n 2, 1) := by decide +kernel
theorem dX0_takeFrom_90 : decode cX0_takeFrom 90 = .ok (.iaload, 1) := by decide +kernel
theorem dX0_takeFrom_91 : decode cX0_takeFrom 91 = .ok (.iastore, 1) := by decide +kernel
theorem dX0_takeFrom_92 : decode cX0_takeFrom 92 = .ok (.aload_n 0, 1) := by decide +kernel
theorem dX0_takeFrom_93 : decode cX0_takeFrom 93 = .ok (.getfield 33, 3) := by decide +kernel
theorem dX0_takeFrom_96 : decode cX0_takeFrom 96 = .ok (.iload_n 2, 1) := by decide +kernel
theorem dX0_takeFrom_97 : decode cX0_takeFrom 97 = .ok (.iconst 0, 1) := by decide +kernel
theorem dX0_takeFrom_98 : decode cX0_takeFrom 98 = .ok (.iastore, 1) := by decide +kernel
theorem dX0_takeFrom_99 : decode cX0_takeFrom 99 = .ok (.iinc 2 1, 3) := by decide +kernel
theorem dX0_takeFrom_102 : decode cX0_takeFrom 102 = .ok (.goto (-52), 3) := by decide +kernel
theorem dX0_takeFrom_105 : decode cX0_takeFrom 105 = .ok (.iconst 0, 1) := by decide +kernel
theorem dX0_takeFrom_106 : decode cX0_takeFrom 106 = .ok (.istore_n 2, 1) := by decide +kernel
theorem dX0_takeFrom_107 : decode cX0_takeFrom 107 = .ok (.iload_n 2, 1) := by decide +kernel
theorem dX0_takeFrom_108 : decode cX0_takeFrom 108 = .ok (.iconst 5, 1) := by decide +kernel
theorem dX0_takeFrom_109 : decode cX0_takeFrom 109 = .ok (.if_icmp .ge 45, 3) := by decide +kernel
theorem dX0_takeFrom_112 : decode cX0_takeFrom 112 = .ok (.aload_n 0, 1) := by decide +kernel
theorem dX0_takeFrom_113 : decode cX0_takeFrom 113 = .ok (.getfield 21, 3) := by decide +kernel
theorem dX0_takeFrom_116 : decode cX0_takeFrom 116 = .ok (.iload_n 2, 1) := by decide +kernel
theorem dX0_takeFrom_117 : decode cX0_takeFrom 117 = .ok (.aload_n 1, 1) := by decide +kernel
theorem dX0_takeFrom_118 : decode cX0_takeFrom 118 = .ok (.getfield 21, 3) := by decide +kernel
theorem dX0_takeFrom_121 : decode cX0_takeFrom 121 = .ok (.iload_n 2, 1) := by decide +kernel
theorem dX0_takeFrom_122 : decode cX0_takeFrom 122 = .ok (.iaload, 1) := by decide +kernel
theorem dX0_takeFrom_123 : decode cX0_takeFrom 123 = .ok (.iastore, 1) := by decide +kernel
theorem dX0_takeFrom_124 : decode cX0_takeFrom 124 = .ok (.aload_n 0, 1) := by decide +kernel
theorem dX0_takeFrom_125 : decode cX0_takeFrom 125 = .ok (.getfield 24, 3) := by decide +kernel
theorem dX0_takeFrom_128 : decode cX0_takeFrom 128 = .ok (.iload_n 2, 1) := by decide +kernel
theorem dX0_takeFrom_129 : decode cX0_takeFrom 129 = .ok (.aload_n 1, 1) := by decide +kernel
theorem dX0_takeFrom_130 : decode cX0_takeFrom 130 = .ok (.getfield 24, 3) := by decide +kernel
theorem dX0_takeFrom_133 : decode cX0_takeFrom 133 = .ok (.iload_n 2, 1) := by decide +kernel
theorem dX0_takeFrom_134 : decode cX0_takeFrom 134 = .ok (.iaload, 1) := by decide +kernel
theorem dX0_takeFrom_135 : decode cX0_takeFrom 135 = .ok (.iastore, 1) := by decide +kernel
theorem dX0_takeFrom_136 : decode cX0_takeFrom 136 = .ok (.aload_n 0, 1) := by decide +kernel
theorem dX0_takeFrom_137 : decode cX0_takeFrom 137 = .ok (.getfield 27, 3) := by decide +kernel
theorem dX0_takeFrom_140 : decode cX0_takeFrom 140 = .ok (.iload_n 2, 1) := by decide +kernel
theorem dX0_takeFrom_141 : decode cX0_takeFrom 141 = .ok (.aload_n 1, 1) := by decide +kernel
theorem dX0_takeFrom_142 : decode cX0_takeFrom 142 = .ok (.getfield 27, 3) := by decide +kernel
theorem dX0_takeFrom_145 : decode cX0_takeFrom 145 = .ok (.iload_n 2, 1) := by decide +kernel
theorem dX0_takeFrom_146 : decode cX0_takeFrom 146 = .ok (.iaload, 1) := by decide +kernel
theorem dX0_takeFrom_147 : decode cX0_takeFrom 147 = .ok (.iastore, 1) := by decide +kernel
theorem dX0_takeFrom_148 : decode cX0_takeFrom 148 = .ok (.iinc 2 1, 3) := by decide +kernel
theorem dX0_takeFrom_151 : decode cX0_takeFrom 151 = .ok (.goto (-44), 3) := by decide +kernel
theorem dX0_takeFrom_154 : decode cX0_takeFrom 154 = .ok (.return_, 1) := by decide +kernel
theorem dX0_beginAnew_0 : decode cX0_beginAnew 0 = .ok (.aload_n 0, 1) := by decide +kernel
theorem dX0_beginAnew_1 : decode cX0_beginAnew 1 = .ok (.iconst 0, 1) := by decide +kernel
theorem dX0_beginAnew_2 : decode cX0_beginAnew 2 = .ok (.putfield 43, 3) := by decide +kernel
theorem dX0_beginAnew_5 : decode cX0_beginAnew 5 = .ok (.aload_n 0, 1) := by decide +kernel
theorem dX0_beginAnew_6 : decode cX0_beginAnew 6 = .ok (.iconst 0, 1) := by decide +kernel
theorem dX0_beginAnew_7 : decode cX0_beginAnew 7 = .ok (.putfield 46, 3) := by decide +kernel
theorem dX0_beginAnew_10 : decode cX0_beginAnew 10 = .ok (.aload_n 0, 1) := by decide +kernel
theorem dX0_beginAnew_11 : decode cX0_beginAnew 11 = .ok (.iconst 0, 1) := by decide +kernel
theorem dX0_beginAnew_12 : decode cX0_beginAnew 12 = .ok (.putfield 49, 3) := by decide +kernel
theorem dX0_beginAnew_15 : decode cX0_beginAnew 15 = .ok (.aload_n 0, 1) := by decide +kernel
theorem dX0_beginAnew_16 : decode cX0_beginAnew 16 = .ok (.iconst 0, 1) := by decide +kernel
theorem dX0_beginAnew_17 : decode cX0_beginAnew 17 = .ok (.putfield 52, 3) := by decide +kernel
theorem dX0_beginAnew_20 : decode cX0_beginAnew 20 = .ok (.return_, 1) := by decide +kernel
theorem dX0_hasHouse_0 : decode cX0_hasHouse 0 = .ok (.iload_n 1, 1) := by decide +kernel
theorem dX0_hasHouse_1 : decode cX0_hasHouse 1 = .ok (.ifCond .lt 15, 3) := by decide +kernel
theorem dX0_hasHouse_4 : decode cX0_hasHouse 4 = .ok (.iload_n 1, 1) := by decide +kernel
theorem dX0_hasHouse_5 : decode cX0_hasHouse 5 = .ok (.aload_n 0, 1) := by decide +kernel
theorem dX0_hasHouse_6 : decode cX0_hasHouse 6 = .ok (.getfield 43, 3) := by decide +kernel
theorem dX0_hasHouse_9 : decode cX0_hasHouse 9 = .ok (.if_icmp .ge 7, 3) := by decide +kernel
theorem dX0_hasHouse_12 : decode cX0_hasHouse 12 = .ok (.iconst 1, 1) := by decide +kernel
theorem dX0_hasHouse_13 : decode cX0_hasHouse 13 = .ok (.goto 4, 3) := by decide +kernel
theorem dX0_hasHouse_16 : decode cX0_hasHouse 16 = .ok (.iconst 0, 1) := by decide +kernel
theorem dX0_hasHouse_17 : decode cX0_hasHouse 17 = .ok (.ireturn, 1) := by decide +kernel
theorem dX0_hasHog_0 : decode cX0_hasHog 0 = .ok (.iload_n 1, 1) := by decide +kernel
theorem dX0_hasHog_1 : decode cX0_hasHog 1 = .ok (.ifCond .lt 15, 3) := by decide +kernel
theorem dX0_hasHog_4 : decode cX0_hasHog 4 = .ok (.iload_n 1, 1) := by decide +kernel
theorem dX0_hasHog_5 : decode cX0_hasHog 5 = .ok (.aload_n 0, 1) := by decide +kernel
theorem dX0_hasHog_6 : decode cX0_hasHog 6 = .ok (.getfield 46, 3) := by decide +kernel
theorem dX0_hasHog_9 : decode cX0_hasHog 9 = .ok (.if_icmp .ge 7, 3) := by decide +kernel
theorem dX0_hasHog_12 : decode cX0_hasHog 12 = .ok (.iconst 1, 1) := by decide +kernel
theorem dX0_hasHog_13 : decode cX0_hasHog 13 = .ok (.goto 4, 3) := by decide +kernel
theorem dX0_hasHog_16 : decode cX0_hasHog 16 = .ok (.iconst 0, 1) := by decide +kernel
theorem dX0_hasHog_17 : decode cX0_hasHog 17 = .ok (.ireturn, 1) := by decide +kernel
theorem dX0_addHouse_0 : decode cX0_addHouse 0 = .ok (.aload_n 0, 1) := by decide +kernel
theorem dX0_addHouse_1 : decode cX0_addHouse 1 = .ok (.getfield 43, 3) := by decide +kernel
theorem dX0_addHouse_4 : decode cX0_addHouse 4 = .ok (.istore 4, 2) := by decide +kernel
theorem dX0_addHouse_6 : decode cX0_addHouse 6 = .ok (.iload 4, 2) := by decide +kernel
theorem dX0_addHouse_8 : decode cX0_addHouse 8 = .ok (.bipush 6, 2) := by decide +kernel
theorem dX0_addHouse_10 : decode cX0_addHouse 10 = .ok (.if_icmp .lt 6, 3) := by decide +kernel
theorem dX0_addHouse_13 : decode cX0_addHouse 13 = .ok (.bipush (-3), 2) := by decide +kernel
theorem dX0_addHouse_15 : decode cX0_addHouse 15 = .ok (.ireturn, 1) := by decide +kernel
theorem dX0_addHouse_16 : decode cX0_addHouse 16 = .ok (.aload_n 0, 1) := by decide +kernel
theorem dX0_addHouse_17 : decode cX0_addHouse 17 = .ok (.getfield 9, 3) := by decide +kernel
theorem dX0_addHouse_20 : decode cX0_addHouse 20 = .ok (.iload 4, 2) := by decide +kernel
theorem dX0_addHouse_22 : decode cX0_addHouse 22 = .ok (.iload_n 1, 1) := by decide +kernel
theorem dX0_addHouse_23 : decode cX0_addHouse 23 = .ok (.iastore, 1) := by decide +kernel
theorem dX0_addHouse_24 : decode cX0_addHouse 24 = .ok (.aload_n 0, 1) := by decide +kernel
theorem dX0_addHouse_25 : decode cX0_addHouse 25 = .ok (.getfield 15, 3) := by decide +kernel
theorem dX0_addHouse_28 : decode cX0_addHouse 28 = .ok (.iload 4, 2) := by decide +kernel
theorem dX0_addHouse_30 : decode cX0_addHouse 30 = .ok (.iload_n 2, 1) := by decide +kernel
theorem dX0_addHouse_31 : decode cX0_addHouse 31 = .ok (.iastore, 1) := by decide +kernel
theorem dX0_addHouse_32 : decode cX0_addHouse 32 = .ok (.aload_n 0, 1) := by decide +kernel
theorem dX0_addHouse_33 : decode cX0_addHouse 33 = .ok (.getfield 18, 3) := by decide +kernel
theorem dX0_addHouse_36 : decode cX0_addHouse 36 = .ok (.iload 4, 2) := by decide +kernel
theorem dX0_addHouse_38 : decode cX0_addHouse 38 = .ok (.iload_n 3, 1) := by decide +kernel
theorem dX0_addHouse_39 : decode cX0_addHouse 39 = .ok (.iastore, 1) := by decide +kernel
theorem dX0_addHouse_40 : decode cX0_addHouse 40 = .ok (.aload_n 0, 1) := by decide +kernel
theorem dX0_addHouse_41 : decode cX0_addHouse 41 = .ok (.iload 4, 2) := by decide +kernel
theorem dX0_addHouse_43 : decode cX0_addHouse 43 = .ok (.iconst 1, 1) := by decide +kernel
theorem dX0_addHouse_44 : decode cX0_addHouse 44 = .ok (.iadd, 1) := by decide +kernel
theorem dX0_addHouse_45 : decode cX0_addHouse 45 = .ok (.putfield 43, 3) := by decide +kernel
theorem dX0_addHouse_48 : decode cX0_addHouse 48 = .ok (.iload 4, 2) := by decide +kernel
theorem dX0_addHouse_50 : decode cX0_addHouse 50 = .ok (.ireturn, 1) := by decide +kernel
theorem dX0_addHog_0 : decode cX0_addHog 0 = .ok (.aload_n 0, 1) := by decide +kernel
theorem dX0_addHog_1 : decode cX0_addHog 1 = .ok (.getfield 46, 3) := by decide +kernel
theorem dX0_addHog_4 : decode cX0_addHog 4 = .ok (.istore 4, 2) := by decide +kernel
theorem dX0_addHog_6 : decode cX0_addHog 6 = .ok (.iload 4, 2) := by decide +kernel
theorem dX0_addHog_8 : decode cX0_addHog 8 = .ok (.iconst 5, 1) := by decide +kernel
theorem dX0_addHog_9 : decode cX0_addHog 9 = .ok (.if_icmp .lt 6, 3) := by decide +kernel
theorem dX0_addHog_12 : decode cX0_addHog 12 = .ok (.bipush (-3), 2) := by decide +kernel
theorem dX0_addHog_14 : decode cX0_addHog 14 = .ok (.ireturn, 1) := by decide +kernel
theorem dX0_addHog_15 : decode cX0_addHog 15 = .ok (.aload_n 0, 1) := by decide +kernel
theorem dX0_addHog_16 : decode cX0_addHog 16 = .ok (.getfield 21, 3) := by decide +kernel
theorem dX0_addHog_19 : decode cX0_addHog 19 = .ok (.iload 4, 2) := by decide +kernel
theorem dX0_addHog_21 : decode cX0_addHog 21 = .ok (.iload_n 1, 1) := by decide +kernel
theorem dX0_addHog_22 : decode cX0_addHog 22 = .ok (.iastore, 1) := by decide +kernel
theorem dX0_addHog_23 : decode cX0_addHog 23 = .ok (.aload_n 0, 1) := by decide +kernel
theorem dX0_addHog_24 : decode cX0_addHog 24 = .ok (.getfield 24, 3) := by decide +kernel
theorem dX0_addHog_27 : decode cX0_addHog 27 = .ok (.iload 4, 2) := by decide +kernel
theorem dX0_addHog_29 : decode cX0_addHog 29 = .ok (.iload_n 2, 1) := by decide +kernel
theorem dX0_addHog_30 : decode cX0_addHog 30 = .ok (.iastore, 1) := by decide +kernel
theorem dX0_addHog_31 : decode cX0_addHog 31 = .ok (.aload_n 0, 1) := by decide +kernel
theorem dX0_addHog_32 : decode cX0_addHog 32 = .ok (.getfield 27, 3) := by decide +kernel
theorem dX0_addHog_35 : decode cX0_addHog 35 = .ok (.iload 4, 2) := by decide +kernel
theorem dX0_addHog_37 : decode cX0_addHog 37 = .ok (.iload_n 3, 1) := by decide +kernel
theorem dX0_addHog_38 : decode cX0_addHog 38 = .ok (.iastore, 1) := by decide +kernel
theorem dX0_addHog_39 : decode cX0_addHog 39 = .ok (.aload_n 0, 1) := by decide +kernel
theorem dX0_addHog_40 : decode cX0_addHog 40 = .ok (.iload 4, 2) := by decide +kernel
theorem dX0_addHog_42 : decode cX0_addHog 42 = .ok (.iconst 1, 1) := by decide +kernel
theorem dX0_addHog_43 : decode cX0_addHog 43 = .ok (.iadd, 1) := by decide +kernel
theorem dX0_addHog_44 : decode cX0_addHog 44 = .ok (.putfield 46, 3) := by decide +kernel
theorem dX0_addHog_47 : decode cX0_addHog 47 = .ok (.iload 4, 2) := by decide +kernel
theorem dX0_addHog_49 : decode cX0_addHog 49 = .ok (.ireturn, 1) := by decide +kernel
theorem dX0_isLost_0 : decode cX0_isLost 0 = .ok (.aload_n 0, 1) := by decide +kernel
theorem dX0_isLost_1 : decode cX0_isLost 1 = .ok (.getfield 18, 3) := by decide +kernel
theorem dX0_isLost_4 : decode cX0_isLost 4 = .ok (.iload_n 1, 1) := by decide +kernel
theorem dX0_isLost_5 : decode cX0_isLost 5 = .ok (.iaload, 1) := by decide +kernel
theorem dX0_isLost_6 : decode cX0_isLost 6 = .ok (.iconst 3, 1) := by decide +kernel
theorem dX0_isLost_7 : decode cX0_isLost 7 = .ok (.if_icmp .lt 7, 3) := by decide +kernel
theorem dX0_isLost_10 : decode cX0_isLost 10 = .ok (.iconst 1, 1) := by decide +kernel
theorem dX0_isLost_11 : decode cX0_isLost 11 = .ok (.goto 4, 3) := by decide +kernel
theorem dX0_isLost_14 : decode cX0_isLost 14 = .ok (.iconst 0, 1) := by decide +kernel
theorem dX0_isLost_15 : decode cX0_isLost 15 = .ok (.ireturn, 1) := by decide +kernel
theorem dX0_isWinter_0 : decode cX0_isWinter 0 = .ok (.aload_n 0, 1) := by decide +kernel
theorem dX0_isWinter_1 : decode cX0_isWinter 1 = .ok (.getfield 49, 3) := by decide +kernel
theorem dX0_isWinter_4 : decode cX0_isWinter 4 = .ok (.bipush 20, 2) := by decide +kernel
theorem dX0_isWinter_6 : decode cX0_isWinter 6 = .ok (.irem, 1) := by decide +kernel
theorem dX0_isWinter_7 : decode cX0_isWinter 7 = .ok (.bipush 15, 2) := by decide +kernel
theorem dX0_isWinter_9 : decode cX0_isWinter 9 = .ok (.if_icmp .lt 7, 3) := by decide +kernel
theorem dX0_isWinter_12 : decode cX0_isWinter 12 = .ok (.iconst 1, 1) := by decide +kernel
theorem dX0_isWinter_13 : decode cX0_isWinter 13 = .ok (.goto 4, 3) := by decide +kernel
theorem dX0_isWinter_16 : decode cX0_isWinter 16 = .ok (.iconst 0, 1) := by decide +kernel
theorem dX0_isWinter_17 : decode cX0_isWinter 17 = .ok (.ireturn, 1) := by decide +kernel
theorem dX0_lostSet_0 : decode cX0_lostSet 0 = .ok (.iconst 0, 1) := by decide +kernel
theorem dX0_lostSet_1 : decode cX0_lostSet 1 = .ok (.istore_n 1, 1) := by decide +kernel
theorem dX0_lostSet_2 : decode cX0_lostSet 2 = .ok (.iconst 0, 1) := by decide +kernel
theorem dX0_lostSet_3 : decode cX0_lostSet 3 = .ok (.istore_n 2, 1) := by decide +kernel
theorem dX0_lostSet_4 : decode cX0_lostSet 4 = .ok (.iload_n 2, 1) := by decide +kernel
theorem dX0_lostSet_5 : decode cX0_lostSet 5 = .ok (.aload_n 0, 1) := by decide +kernel
theorem dX0_lostSet_6 : decode cX0_lostSet 6 = .ok (.getfield 43, 3) := by decide +kernel
theorem dX0_lostSet_9 : decode cX0_lostSet 9 = .ok (.if_icmp .ge 23, 3) := by decide +kernel
theorem dX0_lostSet_12 : decode cX0_lostSet 12 = .ok (.aload_n 0, 1) := by decide +kernel
theorem dX0_lostSet_13 : decode cX0_lostSet 13 = .ok (.iload_n 2, 1) := by decide +kernel
theorem dX0_lostSet_14 : decode cX0_lostSet 14 = .ok (.invokevirtual 55, 3) := by decide +kernel
theorem dX0_lostSet_17 : decode cX0_lostSet 17 = .ok (.ifCond .eq 9, 3) := by decide +kernel
theorem dX0_lostSet_20 : decode cX0_lostSet 20 = .ok (.iload_n 1, 1) := by decide +kernel
theorem dX0_lostSet_21 : decode cX0_lostSet 21 = .ok (.iconst 1, 1) := by decide +kernel
theorem dX0_lostSet_22 : decode cX0_lostSet 22 = .ok (.iload_n 2, 1) := by decide +kernel
theorem dX0_lostSet_23 : decode cX0_lostSet 23 = .ok (.ishl, 1) := by decide +kernel
theorem dX0_lostSet_24 : decode cX0_lostSet 24 = .ok (.ior, 1) := by decide +kernel
theorem dX0_lostSet_25 : decode cX0_lostSet 25 = .ok (.istore_n 1, 1) := by decide +kernel
theorem dX0_lostSet_26 : decode cX0_lostSet 26 = .ok (.iinc 2 1, 3) := by decide +kernel
theorem dX0_lostSet_29 : decode cX0_lostSet 29 = .ok (.goto (-25), 3) := by decide +kernel
theorem dX0_lostSet_32 : decode cX0_lostSet 32 = .ok (.iload_n 1, 1) := by decide +kernel
theorem dX0_lostSet_33 : decode cX0_lostSet 33 = .ok (.ireturn, 1) := by decide +kernel
theorem dX0_owedByAll_0 : decode cX0_owedByAll 0 = .ok (.iconst 0, 1) := by decide +kernel
theorem dX0_owedByAll_1 : decode cX0_owedByAll 1 = .ok (.istore_n 1, 1) := by decide +kernel
theorem dX0_owedByAll_2 : decode cX0_owedByAll 2 = .ok (.iconst 0, 1) := by decide +kernel
theorem dX0_owedByAll_3 : decode cX0_owedByAll 3 = .ok (.istore_n 2, 1) := by decide +kernel
theorem dX0_owedByAll_4 : decode cX0_owedByAll 4 = .ok (.iload_n 2, 1) := by decide +kernel
theorem dX0_owedByAll_5 : decode cX0_owedByAll 5 = .ok (.aload_n 0, 1) := by decide +kernel
theorem dX0_owedByAll_6 : decode cX0_owedByAll 6 = .ok (.getfield 43, 3) := by decide +kernel
theorem dX0_owedByAll_9 : decode cX0_owedByAll 9 = .ok (.if_icmp .ge 18, 3) := by decide +kernel
theorem dX0_owedByAll_12 : decode cX0_owedByAll 12 = .ok (.iload_n 1, 1) := by decide +kernel
theorem dX0_owedByAll_13 : decode cX0_owedByAll 13 = .ok (.aload_n 0, 1) := by decide +kernel
theorem dX0_owedByAll_14 : decode cX0_owedByAll 14 = .ok (.getfield 9, 3) := by decide +kernel
theorem dX0_owedByAll_17 : decode cX0_owedByAll 17 = .ok (.iload_n 2, 1) := by decide +kernel
theorem dX0_owedByAll_18 : decode cX0_owedByAll 18 = .ok (.iaload, 1) := by decide +kernel
theorem dX0_owedByAll_19 : decode cX0_owedByAll 19 = .ok (.iadd, 1) := by decide +kernel
theorem dX0_owedByAll_20 : decode cX0_owedByAll 20 = .ok (.istore_n 1, 1) := by decide +kernel
theorem dX0_owedByAll_21 : decode cX0_owedByAll 21 = .ok (.iinc 2 1, 3) := by decide +kernel
theorem dX0_owedByAll_24 : decode cX0_owedByAll 24 = .ok (.goto (-20), 3) := by decide +kernel
theorem dX0_owedByAll_27 : decode cX0_owedByAll 27 = .ok (.iload_n 1, 1) := by decide +kernel
theorem dX0_owedByAll_28 : decode cX0_owedByAll 28 = .ok (.ireturn, 1) := by decide +kernel
theorem dX0_guests_0 : decode cX0_guests 0 = .ok (.iconst 0, 1) := by decide +kernel
theorem dX0_guests_1 : decode cX0_guests 1 = .ok (.istore_n 2, 1) := by decide +kernel
theorem dX0_guests_2 : decode cX0_guests 2 = .ok (.iconst 0, 1) := by decide +kernel
theorem dX0_guests_3 : decode cX0_guests 3 = .ok (.istore_n 3, 1) := by decide +kernel
theorem dX0_guests_4 : decode cX0_guests 4 = .ok (.iload_n 3, 1) := by decide +kernel
theorem dX0_guests_5 : decode cX0_guests 5 = .ok (.aload_n 0, 1) := by decide +kernel
theorem dX0_guests_6 : decode cX0_guests 6 = .ok (.getfield 46, 3) := by decide +kernel
theorem dX0_guests_9 : decode cX0_guests 9 = .ok (.if_icmp .ge 25, 3) := by decide +kernel
theorem dX0_guests_12 : decode cX0_guests 12 = .ok (.aload_n 0, 1) := by decide +kernel
theorem dX0_guests_13 : decode cX0_guests 13 = .ok (.getfield 27, 3) := by decide +kernel
theorem dX0_guests_16 : decode cX0_guests 16 = .ok (.iload_n 3, 1) := by decide +kernel
theorem dX0_guests_17 : decode cX0_guests 17 = .ok (.iaload, 1) := by decide +kernel
theorem dX0_guests_18 : decode cX0_guests 18 = .ok (.iload_n 1, 1) := by decide +kernel
theorem dX0_guests_19 : decode cX0_guests 19 = .ok (.if_icmp .ne 9, 3) := by decide +kernel
theorem dX0_guests_22 : decode cX0_guests 22 = .ok (.iload_n 2, 1) := by decide +kernel
theorem dX0_guests_23 : decode cX0_guests 23 = .ok (.iconst 1, 1) := by decide +kernel
theorem dX0_guests_24 : decode cX0_guests 24 = .ok (.iload_n 3, 1) := by decide +kernel
theorem dX0_guests_25 : decode cX0_guests 25 = .ok (.ishl, 1) := by decide +kernel
theorem dX0_guests_26 : decode cX0_guests 26 = .ok (.ior, 1) := by decide +kernel
theorem dX0_guests_27 : decode cX0_guests 27 = .ok (.istore_n 2, 1) := by decide +kernel
theorem dX0_guests_28 : decode cX0_guests 28 = .ok (.iinc 3 1, 3) := by decide +kernel
theorem dX0_guests_31 : decode cX0_guests 31 = .ok (.goto (-27), 3) := by decide +kernel
theorem dX0_guests_34 : decode cX0_guests 34 = .ok (.iload_n 2, 1) := by decide +kernel
theorem dX0_guests_35 : decode cX0_guests 35 = .ok (.ireturn, 1) := by decide +kernel
theorem dX0_appetite_0 : decode cX0_appetite 0 = .ok (.aload_n 0, 1) := by decide +kernel
theorem dX0_appetite_1 : decode cX0_appetite 1 = .ok (.getfield 21, 3) := by decide +kernel
theorem dX0_appetite_4 : decode cX0_appetite 4 = .ok (.iload_n 1, 1) := by decide +kernel
theorem dX0_appetite_5 : decode cX0_appetite 5 = .ok (.iaload, 1) := by decide +kernel
theorem dX0_appetite_6 : decode cX0_appetite 6 = .ok (.lookupswitch 44 #[(3, 26), (4, 35)], 26) := by decide +kernel
theorem dX0_appetite_32 : decode cX0_appetite 32 = .ok (.iconst 2, 1) := by decide +kernel
theorem dX0_appetite_33 : decode cX0_appetite 33 = .ok (.aload_n 0, 1) := by decide +kernel
theorem dX0_appetite_34 : decode cX0_appetite 34 = .ok (.getfield 24, 3) := by decide +kernel
theorem dX0_appetite_37 : decode cX0_appetite 37 = .ok (.iload_n 1, 1) := by decide +kernel
theorem dX0_appetite_38 : decode cX0_appetite 38 = .ok (.iaload, 1) := by decide +kernel
theorem dX0_appetite_39 : decode cX0_appetite 39 = .ok (.imul, 1) := by decide +kernel
theorem dX0_appetite_40 : decode cX0_appetite 40 = .ok (.ireturn, 1) := by decide +kernel
theorem dX0_appetite_41 : decode cX0_appetite 41 = .ok (.aload_n 0, 1) := by decide +kernel
theorem dX0_appetite_42 : decode cX0_appetite 42 = .ok (.getfield 24, 3) := by decide +kernel
theorem dX0_appetite_45 : decode cX0_appetite 45 = .ok (.iload_n 1, 1) := by decide +kernel
theorem dX0_appetite_46 : decode cX0_appetite 46 = .ok (.iaload, 1) := by decide +kernel
theorem dX0_appetite_47 : decode cX0_appetite 47 = .ok (.iconst 2, 1) := by decide +kernel
theorem dX0_appetite_48 : decode cX0_appetite 48 = .ok (.idiv, 1) := by decide +kernel
theorem dX0_appetite_49 : decode cX0_appetite 49 = .ok (.ireturn, 1) := by decide +kernel
theorem dX0_appetite_50 : decode cX0_appetite 50 = .ok (.aload_n 0, 1) := by decide +kernel
theorem dX0_appetite_51 : decode cX0_appetite 51 = .ok (.getfield 24, 3) := by decide +kernel
theorem dX0_appetite_54 : decode cX0_appetite 54 = .ok (.iload_n 1, 1) := by decide +kernel
theorem dX0_appetite_55 : decode cX0_appetite 55 = .ok (.iaload, 1) := by decide +kernel
theorem dX0_appetite_56 : decode cX0_appetite 56 = .ok (.ireturn, 1) := by decide +kernel
theorem dX0_takeOff_0 : decode cX0_takeOff 0 = .ok (.aload_n 0, 1) := by decide +kernel
theorem dX0_takeOff_1 : decode cX0_takeOff 1 = .ok (.getfield 9, 3) := by decide +kernel
theorem dX0_takeOff_4 : decode cX0_takeOff 4 = .ok (.iload_n 1, 1) := by decide +kernel
theorem dX0_takeOff_5 : decode cX0_takeOff 5 = .ok (.aload_n 0, 1) := by decide +kernel
theorem dX0_takeOff_6 : decode cX0_takeOff 6 = .ok (.getfield 9, 3) := by decide +kernel
theorem dX0_takeOff_9 : decode cX0_takeOff 9 = .ok (.iload_n 1, 1) := by decide +kernel
theorem dX0_takeOff_10 : decode cX0_takeOff 10 = .ok (.iaload, 1) := by decide +kernel
theorem dX0_takeOff_11 : decode cX0_takeOff 11 = .ok (.iload_n 2, 1) := by decide +kernel
theorem dX0_takeOff_12 : decode cX0_takeOff 12 = .ok (.if_icmp .le 14, 3) := by decide +kernel
theorem dX0_takeOff_15 : decode cX0_takeOff 15 = .ok (.aload_n 0, 1) := by decide +kernel
theorem dX0_takeOff_16 : decode cX0_takeOff 16 = .ok (.getfield 9, 3) := by decide +kernel
theorem dX0_takeOff_19 : decode cX0_takeOff 19 = .ok (.iload_n 1, 1) := by decide +kernel
theorem dX0_takeOff_20 : decode cX0_takeOff 20 = .ok (.iaload, 1) := by decide +kernel
theorem dX0_takeOff_21 : decode cX0_takeOff 21 = .ok (.iload_n 2, 1) := by decide +kernel
theorem dX0_takeOff_22 : decode cX0_takeOff 22 = .ok (.isub, 1) := by decide +kernel
theorem dX0_takeOff_23 : decode cX0_takeOff 23 = .ok (.goto 4, 3) := by decide +kernel
theorem dX0_takeOff_26 : decode cX0_takeOff 26 = .ok (.iconst 0, 1) := by decide +kernel
theorem dX0_takeOff_27 : decode cX0_takeOff 27 = .ok (.iastore, 1) := by decide +kernel
theorem dX0_takeOff_28 : decode cX0_takeOff 28 = .ok (.return_, 1) := by decide +kernel
theorem dX0_drawSaucer_0 : decode cX0_drawSaucer 0 = .ok (.aload_n 0, 1) := by decide +kernel
theorem dX0_drawSaucer_1 : decode cX0_drawSaucer 1 = .ok (.aload_n 0, 1) := by decide +kernel
theorem dX0_drawSaucer_2 : decode cX0_drawSaucer 2 = .ok (.getfield 40, 3) := by decide +kernel
theorem dX0_drawSaucer_5 : decode cX0_drawSaucer 5 = .ok (.i2l, 1) := by decide +kernel
theorem dX0_drawSaucer_6 : decode cX0_drawSaucer 6 = .ok (.ldc2_w 59, 3) := by decide +kernel
theorem dX0_drawSaucer_9 : decode cX0_drawSaucer 9 = .ok (.lmul, 1) := by decide +kernel
theorem dX0_drawSaucer_10 : decode cX0_drawSaucer 10 = .ok (.ldc2_w 61, 3) := by decide +kernel
theorem dX0_drawSaucer_13 : decode cX0_drawSaucer 13 = .ok (.ladd, 1) := by decide +kernel
theorem dX0_drawSaucer_14 : decode cX0_drawSaucer 14 = .ok (.ldc2_w 63, 3) := by decide +kernel
theorem dX0_drawSaucer_17 : decode cX0_drawSaucer 17 = .ok (.land, 1) := by decide +kernel
theorem dX0_drawSaucer_18 : decode cX0_drawSaucer 18 = .ok (.l2i, 1) := by decide +kernel
theorem dX0_drawSaucer_19 : decode cX0_drawSaucer 19 = .ok (.putfield 40, 3) := by decide +kernel
theorem dX0_drawSaucer_22 : decode cX0_drawSaucer 22 = .ok (.aload_n 0, 1) := by decide +kernel
theorem dX0_drawSaucer_23 : decode cX0_drawSaucer 23 = .ok (.getfield 43, 3) := by decide +kernel
theorem dX0_drawSaucer_26 : decode cX0_drawSaucer 26 = .ok (.ifCond .le 31, 3) := by decide +kernel
theorem dX0_drawSaucer_29 : decode cX0_drawSaucer 29 = .ok (.aload_n 0, 1) := by decide +kernel
theorem dX0_drawSaucer_30 : decode cX0_drawSaucer 30 = .ok (.getfield 15, 3) := by decide +kernel
theorem dX0_drawSaucer_33 : decode cX0_drawSaucer 33 = .ok (.aload_n 0, 1) := by decide +kernel
theorem dX0_drawSaucer_34 : decode cX0_drawSaucer 34 = .ok (.getfield 40, 3) := by decide +kernel
theorem dX0_drawSaucer_37 : decode cX0_drawSaucer 37 = .ok (.ldc 65, 2) := by decide +kernel
theorem dX0_drawSaucer_39 : decode cX0_drawSaucer 39 = .ok (.idiv, 1) := by decide +kernel
theorem dX0_drawSaucer_40 : decode cX0_drawSaucer 40 = .ok (.aload_n 0, 1) := by decide +kernel
theorem dX0_drawSaucer_41 : decode cX0_drawSaucer 41 = .ok (.getfield 43, 3) := by decide +kernel
theorem dX0_drawSaucer_44 : decode cX0_drawSaucer 44 = .ok (.irem, 1) := by decide +kernel
theorem dX0_drawSaucer_45 : decode cX0_drawSaucer 45 = .ok (.aload_n 0, 1) := by decide +kernel
theorem dX0_drawSaucer_46 : decode cX0_drawSaucer 46 = .ok (.getfield 40, 3) := by decide +kernel
theorem dX0_drawSaucer_49 : decode cX0_drawSaucer 49 = .ok (.sipush 128, 3) := by decide +kernel
theorem dX0_drawSaucer_52 : decode cX0_drawSaucer 52 = .ok (.idiv, 1) := by decide +kernel
theorem dX0_drawSaucer_53 : decode cX0_drawSaucer 53 = .ok (.bipush 21, 2) := by decide +kernel
theorem dX0_drawSaucer_55 : decode cX0_drawSaucer 55 = .ok (.irem, 1) := by decide +kernel
theorem dX0_drawSaucer_56 : decode cX0_drawSaucer 56 = .ok (.iastore, 1) := by decide +kernel
theorem dX0_drawSaucer_57 : decode cX0_drawSaucer 57 = .ok (.return_, 1) := by decide +kernel
theorem dX0_passNights_0 : decode cX0_passNights 0 = .ok (.iconst 0, 1) := by decide +kernel
theorem dX0_passNights_1 : decode cX0_passNights 1 = .ok (.istore_n 2, 1) := by decide +kernel
theorem dX0_passNights_2 : decode cX0_passNights 2 = .ok (.iload_n 2, 1) := by decide +kernel
theorem dX0_passNights_3 : decode cX0_passNights 3 = .ok (.iload_n 1, 1) := by decide +kernel
theorem dX0_passNights_4 : decode cX0_passNights 4 = .ok (.if_icmp .ge 14, 3) := by decide +kernel
theorem dX0_passNights_7 : decode cX0_passNights 7 = .ok (.aload_n 0, 1) := by decide +kernel
theorem dX0_passNights_8 : decode cX0_passNights 8 = .ok (.iconst 0, 1) := by decide +kernel
theorem dX0_passNights_9 : decode cX0_passNights 9 = .ok (.invokevirtual 66, 3) := by decide +kernel
theorem dX0_passNights_12 : decode cX0_passNights 12 = .ok (.iinc 2 1, 3) := by decide +kernel
theorem dX0_passNights_15 : decode cX0_passNights 15 = .ok (.goto (-13), 3) := by decide +kernel
theorem dX0_passNights_18 : decode cX0_passNights 18 = .ok (.return_, 1) := by decide +kernel
theorem dX0_passNight_0 : decode cX0_passNight 0 = .ok (.aload_n 0, 1) := by decide +kernel
theorem dX0_passNight_1 : decode cX0_passNight 1 = .ok (.invokevirtual 70, 3) := by decide +kernel
theorem dX0_passNight_4 : decode cX0_passNight 4 = .ok (.istore_n 2, 1) := by decide +kernel
theorem dX0_passNight_5 : decode cX0_passNight 5 = .ok (.iconst 0, 1) := by decide +kernel
theorem dX0_passNight_6 : decode cX0_passNight 6 = .ok (.istore_n 3, 1) := by decide +kernel
theorem dX0_passNight_7 : decode cX0_passNight 7 = .ok (.iload_n 3, 1) := by decide +kernel
theorem dX0_passNight_8 : decode cX0_passNight 8 = .ok (.aload_n 0, 1) := by decide +kernel
theorem dX0_passNight_9 : decode cX0_passNight 9 = .ok (.getfield 43, 3) := by decide +kernel
theorem dX0_passNight_12 : decode cX0_passNight 12 = .ok (.if_icmp .ge 37, 3) := by decide +kernel
theorem dX0_passNight_15 : decode cX0_passNight 15 = .ok (.aload_n 0, 1) := by decide +kernel
theorem dX0_passNight_16 : decode cX0_passNight 16 = .ok (.getfield 30, 3) := by decide +kernel
theorem dX0_passNight_19 : decode cX0_passNight 19 = .ok (.iload_n 3, 1) := by decide +kernel
theorem dX0_passNight_20 : decode cX0_passNight 20 = .ok (.iload_n 2, 1) := by decide +kernel
theorem dX0_passNight_21 : decode cX0_passNight 21 = .ok (.ifCond .ne 11, 3) := by decide +kernel
theorem dX0_passNight_24 : decode cX0_passNight 24 = .ok (.aload_n 0, 1) := by decide +kernel
theorem dX0_passNight_25 : decode cX0_passNight 25 = .ok (.iload_n 3, 1) := by decide +kernel
theorem dX0_passNight_26 : decode cX0_passNight 26 = .ok (.invokevirtual 55, 3) := by decide +kernel
theorem dX0_passNight_29 : decode cX0_passNight 29 = .ok (.ifCond .eq 7, 3) := by decide +kernel
theorem dX0_passNight_32 : decode cX0_passNight 32 = .ok (.iconst 0, 1) := by decide +kernel
theorem dX0_passNight_33 : decode cX0_passNight 33 = .ok (.goto 9, 3) := by decide +kernel
theorem dX0_passNight_36 : decode cX0_passNight 36 = .ok (.aload_n 0, 1) := by decide +kernel
theorem dX0_passNight_37 : decode cX0_passNight 37 = .ok (.getfield 15, 3) := by decide +kernel
theorem dX0_passNight_40 : decode cX0_passNight 40 = .ok (.iload_n 3, 1) := by decide +kernel
theorem dX0_passNight_41 : decode cX0_passNight 41 = .ok (.iaload, 1) := by decide +kernel
theorem dX0_passNight_42 : decode cX0_passNight 42 = .ok (.iastore, 1) := by decide +kernel
theorem dX0_passNight_43 : decode cX0_passNight 43 = .ok (.iinc 3 1, 3) := by decide +kernel
theorem dX0_passNight_46 : decode cX0_passNight 46 = .ok (.goto (-39), 3) := by decide +kernel
theorem dX0_passNight_49 : decode cX0_passNight 49 = .ok (.iload_n 2, 1) := by decide +kernel
theorem dX0_passNight_50 : decode cX0_passNight 50 = .ok (.ifCond .ne 36, 3) := by decide +kernel
theorem dX0_passNight_53 : decode cX0_passNight 53 = .ok (.iconst 0, 1) := by decide +kernel
theorem dX0_passNight_54 : decode cX0_passNight 54 = .ok (.istore_n 3, 1) := by decide +kernel
theorem dX0_passNight_55 : decode cX0_passNight 55 = .ok (.iload_n 3, 1) := by decide +kernel
theorem dX0_passNight_56 : decode cX0_passNight 56 = .ok (.aload_n 0, 1) := by decide +kernel
theorem dX0_passNight_57 : decode cX0_passNight 57 = .ok (.getfield 46, 3) := by decide +kernel
theorem dX0_passNight_60 : decode cX0_passNight 60 = .ok (.if_icmp .ge 22, 3) := by decide +kernel
theorem dX0_passNight_63 : decode cX0_passNight 63 = .ok (.iload_n 1, 1) := by decide +kernel
theorem dX0_passNight_64 : decode cX0_passNight 64 = .ok (.iload_n 3, 1) := by decide +kernel
theorem dX0_passNight_65 : decode cX0_passNight 65 = .ok (.ishr, 1) := by decide +kernel
theorem dX0_passNight_66 : decode cX0_passNight 66 = .ok (.iconst 1, 1) := by decide +kernel
theorem dX0_passNight_67 : decode cX0_passNight 67 = .ok (.iand, 1) := by decide +kernel
theorem dX0_passNight_68 : decode cX0_passNight 68 = .ok (.ifCond .ne 8, 3) := by decide +kernel
theorem dX0_passNight_71 : decode cX0_passNight 71 = .ok (.aload_n 0, 1) := by decide +kernel
theorem dX0_passNight_72 : decode cX0_passNight 72 = .ok (.iload_n 3, 1) := by decide +kernel
theorem dX0_passNight_73 : decode cX0_passNight 73 = .ok (.invokevirtual 74, 3) := by decide +kernel
theorem dX0_passNight_76 : decode cX0_passNight 76 = .ok (.iinc 3 1, 3) := by decide +kernel
theorem dX0_passNight_79 : decode cX0_passNight 79 = .ok (.goto (-24), 3) := by decide +kernel
theorem dX0_passNight_82 : decode cX0_passNight 82 = .ok (.aload_n 0, 1) := by decide +kernel
theorem dX0_passNight_83 : decode cX0_passNight 83 = .ok (.invokevirtual 77, 3) := by decide +kernel
theorem dX0_passNight_86 : decode cX0_passNight 86 = .ok (.aload_n 0, 1) := by decide +kernel
theorem dX0_passNight_87 : decode cX0_passNight 87 = .ok (.dup, 1) := by decide +kernel
theorem dX0_passNight_88 : decode cX0_passNight 88 = .ok (.getfield 49, 3) := by decide +kernel
theorem dX0_passNight_91 : decode cX0_passNight 91 = .ok (.iconst 1, 1) := by decide +kernel
theorem dX0_passNight_92 : decode cX0_passNight 92 = .ok (.iadd, 1) := by decide +kernel
theorem dX0_passNight_93 : decode cX0_passNight 93 = .ok (.putfield 49, 3) := by decide +kernel
theorem dX0_passNight_96 : decode cX0_passNight 96 = .ok (.return_, 1) := by decide +kernel
theorem dX0_visit_0 : decode cX0_visit 0 = .ok (.aload_n 0, 1) := by decide +kernel
theorem dX0_visit_1 : decode cX0_visit 1 = .ok (.getfield 27, 3) := by decide +kernel
theorem dX0_visit_4 : decode cX0_visit 4 = .ok (.iload_n 1, 1) := by decide +kernel
theorem dX0_visit_5 : decode cX0_visit 5 = .ok (.iaload, 1) := by decide +kernel
theorem dX0_visit_6 : decode cX0_visit 6 = .ok (.istore_n 2, 1) := by decide +kernel
theorem dX0_visit_7 : decode cX0_visit 7 = .ok (.aload_n 0, 1) := by decide +kernel
theorem dX0_visit_8 : decode cX0_visit 8 = .ok (.iload_n 2, 1) := by decide +kernel
theorem dX0_visit_9 : decode cX0_visit 9 = .ok (.invokevirtual 80, 3) := by decide +kernel
theorem dX0_visit_12 : decode cX0_visit 12 = .ok (.ifCond .ne 4, 3) := by decide +kernel
theorem dX0_visit_15 : decode cX0_visit 15 = .ok (.return_, 1) := by decide +kernel
theorem dX0_visit_16 : decode cX0_visit 16 = .ok (.aload_n 0, 1) := by decide +kernel
theorem dX0_visit_17 : decode cX0_visit 17 = .ok (.iload_n 2, 1) := by decide +kernel
theorem dX0_visit_18 : decode cX0_visit 18 = .ok (.invokevirtual 55, 3) := by decide +kernel
theorem dX0_visit_21 : decode cX0_visit 21 = .ok (.ifCond .ne 16, 3) := by decide +kernel
theorem dX0_visit_24 : decode cX0_visit 24 = .ok (.aload_n 0, 1) := by decide +kernel
theorem dX0_visit_25 : decode cX0_visit 25 = .ok (.iload_n 1, 1) := by decide +kernel
theorem dX0_visit_26 : decode cX0_visit 26 = .ok (.iload_n 2, 1) := by decide +kernel
theorem dX0_visit_27 : decode cX0_visit 27 = .ok (.invokevirtual 83, 3) := by decide +kernel
theorem dX0_visit_30 : decode cX0_visit 30 = .ok (.ifCond .eq 7, 3) := by decide +kernel
theorem dX0_visit_33 : decode cX0_visit 33 = .ok (.iconst 1, 1) := by decide +kernel
theorem dX0_visit_34 : decode cX0_visit 34 = .ok (.goto 4, 3) := by decide +kernel
theorem dX0_visit_37 : decode cX0_visit 37 = .ok (.iconst 0, 1) := by decide +kernel
theorem dX0_visit_38 : decode cX0_visit 38 = .ok (.istore_n 3, 1) := by decide +kernel
theorem dX0_visit_39 : decode cX0_visit 39 = .ok (.iload_n 3, 1) := by decide +kernel
theorem dX0_visit_40 : decode cX0_visit 40 = .ok (.ifCond .eq 27, 3) := by decide +kernel
theorem dX0_visit_43 : decode cX0_visit 43 = .ok (.aload_n 0, 1) := by decide +kernel
theorem dX0_visit_44 : decode cX0_visit 44 = .ok (.getfield 21, 3) := by decide +kernel
theorem dX0_visit_47 : decode cX0_visit 47 = .ok (.iload_n 1, 1) := by decide +kernel
theorem dX0_visit_48 : decode cX0_visit 48 = .ok (.iaload, 1) := by decide +kernel
theorem dX0_visit_49 : decode cX0_visit 49 = .ok (.iconst 1, 1) := by decide +kernel
theorem dX0_visit_50 : decode cX0_visit 50 = .ok (.if_icmp .eq 13, 3) := by decide +kernel
theorem dX0_visit_53 : decode cX0_visit 53 = .ok (.aload_n 0, 1) := by decide +kernel
theorem dX0_visit_54 : decode cX0_visit 54 = .ok (.getfield 21, 3) := by decide +kernel
theorem dX0_visit_57 : decode cX0_visit 57 = .ok (.iload_n 1, 1) := by decide +kernel
theorem dX0_visit_58 : decode cX0_visit 58 = .ok (.iaload, 1) := by decide +kernel
theorem dX0_visit_59 : decode cX0_visit 59 = .ok (.iconst 3, 1) := by decide +kernel
theorem dX0_visit_60 : decode cX0_visit 60 = .ok (.if_icmp .ne 7, 3) := by decide +kernel
theorem dX0_visit_63 : decode cX0_visit 63 = .ok (.iconst 1, 1) := by decide +kernel
theorem dX0_visit_64 : decode cX0_visit 64 = .ok (.goto 4, 3) := by decide +kernel
theorem dX0_visit_67 : decode cX0_visit 67 = .ok (.iconst 0, 1) := by decide +kernel
theorem dX0_visit_68 : decode cX0_visit 68 = .ok (.istore 4, 2) := by decide +kernel
theorem dX0_visit_70 : decode cX0_visit 70 = .ok (.iload 4, 2) := by decide +kernel
theorem dX0_visit_72 : decode cX0_visit 72 = .ok (.ifCond .ne 15, 3) := by decide +kernel
theorem dX0_visit_75 : decode cX0_visit 75 = .ok (.aload_n 0, 1) := by decide +kernel
theorem dX0_visit_76 : decode cX0_visit 76 = .ok (.getfield 27, 3) := by decide +kernel
theorem dX0_visit_79 : decode cX0_visit 79 = .ok (.iload_n 1, 1) := by decide +kernel
theorem dX0_visit_80 : decode cX0_visit 80 = .ok (.aload_n 0, 1) := by decide +kernel
theorem dX0_visit_81 : decode cX0_visit 81 = .ok (.iload_n 1, 1) := by decide +kernel
theorem dX0_visit_82 : decode cX0_visit 82 = .ok (.iload_n 2, 1) := by decide +kernel
theorem dX0_visit_83 : decode cX0_visit 83 = .ok (.invokevirtual 87, 3) := by decide +kernel
theorem dX0_visit_86 : decode cX0_visit 86 = .ok (.iastore, 1) := by decide +kernel
theorem dX0_visit_87 : decode cX0_visit 87 = .ok (.return_, 1) := by decide +kernel
theorem dX0_eat_0 : decode cX0_eat 0 = .ok (.aload_n 0, 1) := by decide +kernel
theorem dX0_eat_1 : decode cX0_eat 1 = .ok (.iload_n 1, 1) := by decide +kernel
theorem dX0_eat_2 : decode cX0_eat 2 = .ok (.invokevirtual 91, 3) := by decide +kernel
theorem dX0_eat_5 : decode cX0_eat 5 = .ok (.istore_n 3, 1) := by decide +kernel
theorem dX0_eat_6 : decode cX0_eat 6 = .ok (.iload_n 3, 1) := by decide +kernel
theorem dX0_eat_7 : decode cX0_eat 7 = .ok (.aload_n 0, 1) := by decide +kernel
theorem dX0_eat_8 : decode cX0_eat 8 = .ok (.getfield 30, 3) := by decide +kernel
theorem dX0_eat_11 : decode cX0_eat 11 = .ok (.iload_n 2, 1) := by decide +kernel
theorem dX0_eat_12 : decode cX0_eat 12 = .ok (.iaload, 1) := by decide +kernel
theorem dX0_eat_13 : decode cX0_eat 13 = .ok (.if_icmp .ge 7, 3) := by decide +kernel
theorem dX0_eat_16 : decode cX0_eat 16 = .ok (.iload_n 3, 1) := by decide +kernel
theorem dX0_eat_17 : decode cX0_eat 17 = .ok (.goto 9, 3) := by decide +kernel
theorem dX0_eat_20 : decode cX0_eat 20 = .ok (.aload_n 0, 1) := by decide +kernel
theorem dX0_eat_21 : decode cX0_eat 21 = .ok (.getfield 30, 3) := by decide +kernel
theorem dX0_eat_24 : decode cX0_eat 24 = .ok (.iload_n 2, 1) := by decide +kernel
theorem dX0_eat_25 : decode cX0_eat 25 = .ok (.iaload, 1) := by decide +kernel
theorem dX0_eat_26 : decode cX0_eat 26 = .ok (.istore 4, 2) := by decide +kernel
theorem dX0_eat_28 : decode cX0_eat 28 = .ok (.aload_n 0, 1) := by decide +kernel
theorem dX0_eat_29 : decode cX0_eat 29 = .ok (.getfield 30, 3) := by decide +kernel
theorem dX0_eat_32 : decode cX0_eat 32 = .ok (.iload_n 2, 1) := by decide +kernel
theorem dX0_eat_33 : decode cX0_eat 33 = .ok (.dup2, 1) := by decide +kernel
theorem dX0_eat_34 : decode cX0_eat 34 = .ok (.iaload, 1) := by decide +kernel
theorem dX0_eat_35 : decode cX0_eat 35 = .ok (.iload 4, 2) := by decide +kernel
theorem dX0_eat_37 : decode cX0_eat 37 = .ok (.isub, 1) := by decide +kernel
theorem dX0_eat_38 : decode cX0_eat 38 = .ok (.iastore, 1) := by decide +kernel
theorem dX0_eat_39 : decode cX0_eat 39 = .ok (.aload_n 0, 1) := by decide +kernel
theorem dX0_eat_40 : decode cX0_eat 40 = .ok (.dup, 1) := by decide +kernel
theorem dX0_eat_41 : decode cX0_eat 41 = .ok (.getfield 52, 3) := by decide +kernel
theorem dX0_eat_44 : decode cX0_eat 44 = .ok (.iload 4, 2) := by decide +kernel
theorem dX0_eat_46 : decode cX0_eat 46 = .ok (.iadd, 1) := by decide +kernel
theorem dX0_eat_47 : decode cX0_eat 47 = .ok (.putfield 52, 3) := by decide +kernel
theorem dX0_eat_50 : decode cX0_eat 50 = .ok (.aload_n 0, 1) := by decide +kernel
theorem dX0_eat_51 : decode cX0_eat 51 = .ok (.iload_n 2, 1) := by decide +kernel
theorem dX0_eat_52 : decode cX0_eat 52 = .ok (.iload 4, 2) := by decide +kernel
theorem dX0_eat_54 : decode cX0_eat 54 = .ok (.invokevirtual 95, 3) := by decide +kernel
theorem dX0_eat_57 : decode cX0_eat 57 = .ok (.iload 4, 2) := by decide +kernel
theorem dX0_eat_59 : decode cX0_eat 59 = .ok (.ifCond .le 13, 3) := by decide +kernel
theorem dX0_eat_62 : decode cX0_eat 62 = .ok (.aload_n 0, 1) := by decide +kernel
theorem dX0_eat_63 : decode cX0_eat 63 = .ok (.getfield 33, 3) := by decide +kernel
theorem dX0_eat_66 : decode cX0_eat 66 = .ok (.iload_n 2, 1) := by decide +kernel
theorem dX0_eat_67 : decode cX0_eat 67 = .ok (.dup2, 1) := by decide +kernel
theorem dX0_eat_68 : decode cX0_eat 68 = .ok (.iaload, 1) := by decide +kernel
theorem dX0_eat_69 : decode cX0_eat 69 = .ok (.iconst 1, 1) := by decide +kernel
theorem dX0_eat_70 : decode cX0_eat 70 = .ok (.iadd, 1) := by decide +kernel
theorem dX0_eat_71 : decode cX0_eat 71 = .ok (.iastore, 1) := by decide +kernel
theorem dX0_eat_72 : decode cX0_eat 72 = .ok (.iload 4, 2) := by decide +kernel
theorem dX0_eat_74 : decode cX0_eat 74 = .ok (.iload_n 3, 1) := by decide +kernel
theorem dX0_eat_75 : decode cX0_eat 75 = .ok (.if_icmp .ge 22, 3) := by decide +kernel
theorem dX0_eat_78 : decode cX0_eat 78 = .ok (.aload_n 0, 1) := by decide +kernel
theorem dX0_eat_79 : decode cX0_eat 79 = .ok (.getfield 9, 3) := by decide +kernel
theorem dX0_eat_82 : decode cX0_eat 82 = .ok (.iload_n 2, 1) := by decide +kernel
theorem dX0_eat_83 : decode cX0_eat 83 = .ok (.iaload, 1) := by decide +kernel
theorem dX0_eat_84 : decode cX0_eat 84 = .ok (.ifCond .le 13, 3) := by decide +kernel
theorem dX0_eat_87 : decode cX0_eat 87 = .ok (.aload_n 0, 1) := by decide +kernel
theorem dX0_eat_88 : decode cX0_eat 88 = .ok (.getfield 18, 3) := by decide +kernel
theorem dX0_eat_91 : decode cX0_eat 91 = .ok (.iload_n 2, 1) := by decide +kernel
theorem dX0_eat_92 : decode cX0_eat 92 = .ok (.dup2, 1) := by decide +kernel
theorem dX0_eat_93 : decode cX0_eat 93 = .ok (.iaload, 1) := by decide +kernel
theorem dX0_eat_94 : decode cX0_eat 94 = .ok (.iconst 1, 1) := by decide +kernel
theorem dX0_eat_95 : decode cX0_eat 95 = .ok (.iadd, 1) := by decide +kernel
theorem dX0_eat_96 : decode cX0_eat 96 = .ok (.iastore, 1) := by decide +kernel
theorem dX0_eat_97 : decode cX0_eat 97 = .ok (.iload 4, 2) := by decide +kernel
theorem dX0_eat_99 : decode cX0_eat 99 = .ok (.iload_n 3, 1) := by decide +kernel
theorem dX0_eat_100 : decode cX0_eat 100 = .ok (.if_icmp .ne 7, 3) := by decide +kernel
theorem dX0_eat_103 : decode cX0_eat 103 = .ok (.iconst 1, 1) := by decide +kernel
theorem dX0_eat_104 : decode cX0_eat 104 = .ok (.goto 4, 3) := by decide +kernel
theorem dX0_eat_107 : decode cX0_eat 107 = .ok (.iconst 0, 1) := by decide +kernel
theorem dX0_eat_108 : decode cX0_eat 108 = .ok (.ireturn, 1) := by decide +kernel
theorem dX0_nextHouse_0 : decode cX0_nextHouse 0 = .ok (.aload_n 0, 1) := by decide +kernel
theorem dX0_nextHouse_1 : decode cX0_nextHouse 1 = .ok (.getfield 21, 3) := by decide +kernel
theorem dX0_nextHouse_4 : decode cX0_nextHouse 4 = .ok (.iload_n 1, 1) := by decide +kernel
theorem dX0_nextHouse_5 : decode cX0_nextHouse 5 = .ok (.iaload, 1) := by decide +kernel
theorem dX0_nextHouse_6 : decode cX0_nextHouse 6 = .ok (.iconst 2, 1) := by decide +kernel
theorem dX0_nextHouse_7 : decode cX0_nextHouse 7 = .ok (.if_icmp .eq 13, 3) := by decide +kernel
theorem dX0_nextHouse_10 : decode cX0_nextHouse 10 = .ok (.aload_n 0, 1) := by decide +kernel
theorem dX0_nextHouse_11 : decode cX0_nextHouse 11 = .ok (.getfield 21, 3) := by decide +kernel
theorem dX0_nextHouse_14 : decode cX0_nextHouse 14 = .ok (.iload_n 1, 1) := by decide +kernel
theorem dX0_nextHouse_15 : decode cX0_nextHouse 15 = .ok (.iaload, 1) := by decide +kernel
theorem dX0_nextHouse_16 : decode cX0_nextHouse 16 = .ok (.iconst 4, 1) := by decide +kernel
theorem dX0_nextHouse_17 : decode cX0_nextHouse 17 = .ok (.if_icmp .ne 7, 3) := by decide +kernel
theorem dX0_nextHouse_20 : decode cX0_nextHouse 20 = .ok (.iconst 1, 1) := by decide +kernel
theorem dX0_nextHouse_21 : decode cX0_nextHouse 21 = .ok (.goto 4, 3) := by decide +kernel
theorem dX0_nextHouse_24 : decode cX0_nextHouse 24 = .ok (.iconst 0, 1) := by decide +kernel
theorem dX0_nextHouse_25 : decode cX0_nextHouse 25 = .ok (.istore_n 3, 1) := by decide +kernel
theorem dX0_nextHouse_26 : decode cX0_nextHouse 26 = .ok (.iload_n 2, 1) := by decide +kernel
theorem dX0_nextHouse_27 : decode cX0_nextHouse 27 = .ok (.istore 4, 2) := by decide +kernel
theorem dX0_nextHouse_29 : decode cX0_nextHouse 29 = .ok (.iconst 1, 1) := by decide +kernel
theorem dX0_nextHouse_30 : decode cX0_nextHouse 30 = .ok (.istore 5, 2) := by decide +kernel
theorem dX0_nextHouse_32 : decode cX0_nextHouse 32 = .ok (.iload_n 2, 1) := by decide +kernel
theorem dX0_nextHouse_33 : decode cX0_nextHouse 33 = .ok (.iconst 1, 1) := by decide +kernel
theorem dX0_nextHouse_34 : decode cX0_nextHouse 34 = .ok (.iadd, 1) := by decide +kernel
theorem dX0_nextHouse_35 : decode cX0_nextHouse 35 = .ok (.istore 6, 2) := by decide +kernel
theorem dX0_nextHouse_37 : decode cX0_nextHouse 37 = .ok (.iload 5, 2) := by decide +kernel
theorem dX0_nextHouse_39 : decode cX0_nextHouse 39 = .ok (.aload_n 0, 1) := by decide +kernel
theorem dX0_nextHouse_40 : decode cX0_nextHouse 40 = .ok (.getfield 43, 3) := by decide +kernel
theorem dX0_nextHouse_43 : decode cX0_nextHouse 43 = .ok (.if_icmp .ge 62, 3) := by decide +kernel
theorem dX0_nextHouse_46 : decode cX0_nextHouse 46 = .ok (.iload 6, 2) := by decide +kernel
theorem dX0_nextHouse_48 : decode cX0_nextHouse 48 = .ok (.aload_n 0, 1) := by decide +kernel
theorem dX0_nextHouse_49 : decode cX0_nextHouse 49 = .ok (.getfield 43, 3) := by decide +kernel
theorem dX0_nextHouse_52 : decode cX0_nextHouse 52 = .ok (.if_icmp .lt 6, 3) := by decide +kernel
theorem dX0_nextHouse_55 : decode cX0_nextHouse 55 = .ok (.iconst 0, 1) := by decide +kernel
theorem dX0_nextHouse_56 : decode cX0_nextHouse 56 = .ok (.istore 6, 2) := by decide +kernel
theorem dX0_nextHouse_58 : decode cX0_nextHouse 58 = .ok (.aload_n 0, 1) := by decide +kernel
theorem dX0_nextHouse_59 : decode cX0_nextHouse 59 = .ok (.iload 6, 2) := by decide +kernel
theorem dX0_nextHouse_61 : decode cX0_nextHouse 61 = .ok (.invokevirtual 55, 3) := by decide +kernel
theorem dX0_nextHouse_64 : decode cX0_nextHouse 64 = .ok (.ifCond .eq 6, 3) := by decide +kernel
theorem dX0_nextHouse_67 : decode cX0_nextHouse 67 = .ok (.goto 29, 3) := by decide +kernel
theorem dX0_nextHouse_70 : decode cX0_nextHouse 70 = .ok (.iload_n 3, 1) := by decide +kernel
theorem dX0_nextHouse_71 : decode cX0_nextHouse 71 = .ok (.ifCond .eq 12, 3) := by decide +kernel
theorem dX0_nextHouse_74 : decode cX0_nextHouse 74 = .ok (.aload_n 0, 1) := by decide +kernel
theorem dX0_nextHouse_75 : decode cX0_nextHouse 75 = .ok (.iload 6, 2) := by decide +kernel
theorem dX0_nextHouse_77 : decode cX0_nextHouse 77 = .ok (.invokevirtual 99, 3) := by decide +kernel
theorem dX0_nextHouse_80 : decode cX0_nextHouse 80 = .ok (.ifCond .ne 6, 3) := by decide +kernel
theorem dX0_nextHouse_83 : decode cX0_nextHouse 83 = .ok (.iload 6, 2) := by decide +kernel
theorem dX0_nextHouse_85 : decode cX0_nextHouse 85 = .ok (.ireturn, 1) := by decide +kernel
theorem dX0_nextHouse_86 : decode cX0_nextHouse 86 = .ok (.iload 4, 2) := by decide +kernel
theorem dX0_nextHouse_88 : decode cX0_nextHouse 88 = .ok (.iload_n 2, 1) := by decide +kernel
theorem dX0_nextHouse_89 : decode cX0_nextHouse 89 = .ok (.if_icmp .ne 7, 3) := by decide +kernel
theorem dX0_nextHouse_92 : decode cX0_nextHouse 92 = .ok (.iload 6, 2) := by decide +kernel
theorem dX0_nextHouse_94 : decode cX0_nextHouse 94 = .ok (.istore 4, 2) := by decide +kernel
theorem dX0_nextHouse_96 : decode cX0_nextHouse 96 = .ok (.iinc 5 1, 3) := by decide +kernel
theorem dX0_nextHouse_99 : decode cX0_nextHouse 99 = .ok (.iinc 6 1, 3) := by decide +kernel
theorem dX0_nextHouse_102 : decode cX0_nextHouse 102 = .ok (.goto (-65), 3) := by decide +kernel
theorem dX0_nextHouse_105 : decode cX0_nextHouse 105 = .ok (.iload 4, 2) := by decide +kernel
theorem dX0_nextHouse_107 : decode cX0_nextHouse 107 = .ok (.ireturn, 1) := by decide +kernel
theorem dX0_addInterest_0 : decode cX0_addInterest 0 = .ok (.iconst 0, 1) := by decide +kernel
theorem dX0_addInterest_1 : decode cX0_addInterest 1 = .ok (.istore_n 1, 1) := by decide +kernel
theorem dX0_addInterest_2 : decode cX0_addInterest 2 = .ok (.iload_n 1, 1) := by decide +kernel
theorem dX0_addInterest_3 : decode cX0_addInterest 3 = .ok (.aload_n 0, 1) := by decide +kernel
theorem dX0_addInterest_4 : decode cX0_addInterest 4 = .ok (.getfield 43, 3) := by decide +kernel
theorem dX0_addInterest_7 : decode cX0_addInterest 7 = .ok (.if_icmp .ge 59, 3) := by decide +kernel
theorem dX0_addInterest_10 : decode cX0_addInterest 10 = .ok (.aload_n 0, 1) := by decide +kernel
theorem dX0_addInterest_11 : decode cX0_addInterest 11 = .ok (.iload_n 1, 1) := by decide +kernel
theorem dX0_addInterest_12 : decode cX0_addInterest 12 = .ok (.invokevirtual 55, 3) := by decide +kernel
theorem dX0_addInterest_15 : decode cX0_addInterest 15 = .ok (.ifCond .ne 45, 3) := by decide +kernel
theorem dX0_addInterest_18 : decode cX0_addInterest 18 = .ok (.aload_n 0, 1) := by decide +kernel
theorem dX0_addInterest_19 : decode cX0_addInterest 19 = .ok (.getfield 9, 3) := by decide +kernel
theorem dX0_addInterest_22 : decode cX0_addInterest 22 = .ok (.iload_n 1, 1) := by decide +kernel
theorem dX0_addInterest_23 : decode cX0_addInterest 23 = .ok (.iaload, 1) := by decide +kernel
theorem dX0_addInterest_24 : decode cX0_addInterest 24 = .ok (.aload_n 0, 1) := by decide +kernel
theorem dX0_addInterest_25 : decode cX0_addInterest 25 = .ok (.getfield 9, 3) := by decide +kernel
theorem dX0_addInterest_28 : decode cX0_addInterest 28 = .ok (.iload_n 1, 1) := by decide +kernel
theorem dX0_addInterest_29 : decode cX0_addInterest 29 = .ok (.iaload, 1) := by decide +kernel
theorem dX0_addInterest_30 : decode cX0_addInterest 30 = .ok (.aload_n 0, 1) := by decide +kernel
theorem dX0_addInterest_31 : decode cX0_addInterest 31 = .ok (.getfield 36, 3) := by decide +kernel
theorem dX0_addInterest_34 : decode cX0_addInterest 34 = .ok (.imul, 1) := by decide +kernel
theorem dX0_addInterest_35 : decode cX0_addInterest 35 = .ok (.bipush 100, 2) := by decide +kernel
theorem dX0_addInterest_37 : decode cX0_addInterest 37 = .ok (.idiv, 1) := by decide +kernel
theorem dX0_addInterest_38 : decode cX0_addInterest 38 = .ok (.iadd, 1) := by decide +kernel
theorem dX0_addInterest_39 : decode cX0_addInterest 39 = .ok (.istore_n 2, 1) := by decide +kernel
theorem dX0_addInterest_40 : decode cX0_addInterest 40 = .ok (.aload_n 0, 1) := by decide +kernel
theorem dX0_addInterest_41 : decode cX0_addInterest 41 = .ok (.getfield 9, 3) := by decide +kernel
theorem dX0_addInterest_44 : decode cX0_addInterest 44 = .ok (.iload_n 1, 1) := by decide +kernel
theorem dX0_addInterest_45 : decode cX0_addInterest 45 = .ok (.iload_n 2, 1) := by decide +kernel
theorem dX0_addInterest_46 : decode cX0_addInterest 46 = .ok (.sipush 9999, 3) := by decide +kernel
theorem dX0_addInterest_49 : decode cX0_addInterest 49 = .ok (.if_icmp .ge 7, 3) := by decide +kernel
theorem dX0_addInterest_52 : decode cX0_addInterest 52 = .ok (.iload_n 2, 1) := by decide +kernel
theorem dX0_addInterest_53 : decode cX0_addInterest 53 = .ok (.goto 6, 3) := by decide +kernel
theorem dX0_addInterest_56 : decode cX0_addInterest 56 = .ok (.sipush 9999, 3) := by decide +kernel
theorem dX0_addInterest_59 : decode cX0_addInterest 59 = .ok (.iastore, 1) := by decide +kernel
theorem dX0_addInterest_60 : decode cX0_addInterest 60 = .ok (.iinc 1 1, 3) := by decide +kernel
theorem dX0_addInterest_63 : decode cX0_addInterest 63 = .ok (.goto (-61), 3) := by decide +kernel
theorem dX0_addInterest_66 : decode cX0_addInterest 66 = .ok (.return_, 1) := by decide +kernel
theorem dX1_init_0 : decode cX1_init 0 = .ok (.aload_n 0, 1) := by decide +kernel
theorem dX1_init_1 : decode cX1_init 1 = .ok (.invokespecial 3, 3) := by decide +kernel
theorem dX1_init_4 : decode cX1_init 4 = .ok (.aload_n 0, 1) := by decide +kernel
theorem dX1_init_5 : decode cX1_init 5 = .ok (.bipush 6, 2) := by decide +kernel
theorem dX1_init_7 : decode cX1_init 7 = .ok (.newarray .int, 2) := by decide +kernel
theorem dX1_init_9 : decode cX1_init 9 = .ok (.putfield 9, 3) := by decide +kernel
theorem dX1_init_12 : decode cX1_init 12 = .ok (.aload_n 0, 1) := by decide +kernel
theorem dX1_init_13 : decode cX1_init 13 = .ok (.bipush 6, 2) := by decide +kernel
theorem dX1_init_15 : decode cX1_init 15 = .ok (.newarray .int, 2) := by decide +kernel
theorem dX1_init_17 : decode cX1_init 17 = .ok (.putfield 15, 3) := by decide +kernel
theorem dX1_init_20 : decode cX1_init 20 = .ok (.return_, 1) := by decide +kernel
theorem dX1_find_0 : decode cX1_find 0 = .ok (.aload_n 1, 1) := by decide +kernel
theorem dX1_find_1 : decode cX1_find 1 = .ok (.getfield 18, 3) := by decide +kernel
theorem dX1_find_4 : decode cX1_find 4 = .ok (.istore 5, 2) := by decide +kernel
theorem dX1_find_6 : decode cX1_find 6 = .ok (.iload 5, 2) := by decide +kernel
theorem dX1_find_8 : decode cX1_find 8 = .ok (.iconst 1, 1) := by decide +kernel
theorem dX1_find_9 : decode cX1_find 9 = .ok (.if_icmp .ge 4, 3) := by decide +kernel
theorem dX1_find_12 : decode cX1_find 12 = .ok (.return_, 1) := by decide +kernel
theorem dX1_find_13 : decode cX1_find 13 = .ok (.aload_n 0, 1) := by decide +kernel
theorem dX1_find_14 : decode cX1_find 14 = .ok (.iconst (-1), 1) := by decide +kernel
theorem dX1_find_15 : decode cX1_find 15 = .ok (.putfield 24, 3) := by decide +kernel
theorem dX1_find_18 : decode cX1_find 18 = .ok (.iconst 0, 1) := by decide +kernel
theorem dX1_find_19 : decode cX1_find 19 = .ok (.istore 6, 2) := by decide +kernel
theorem dX1_find_21 : decode cX1_find 21 = .ok (.iload 6, 2) := by decide +kernel
theorem dX1_find_23 : decode cX1_find 23 = .ok (.iload 5, 2) := by decide +kernel
theorem dX1_find_25 : decode cX1_find 25 = .ok (.if_icmp .ge 17, 3) := by decide +kernel
theorem dX1_find_28 : decode cX1_find 28 = .ok (.aload_n 0, 1) := by decide +kernel
theorem dX1_find_29 : decode cX1_find 29 = .ok (.getfield 15, 3) := by decide +kernel
theorem dX1_find_32 : decode cX1_find 32 = .ok (.iload 6, 2) := by decide +kernel
theorem dX1_find_34 : decode cX1_find 34 = .ok (.iconst 0, 1) := by decide +kernel
theorem dX1_find_35 : decode cX1_find 35 = .ok (.iastore, 1) := by decide +kernel
theorem dX1_find_36 : decode cX1_find 36 = .ok (.iinc 6 1, 3) := by decide +kernel
theorem dX1_find_39 : decode cX1_find 39 = .ok (.goto (-18), 3) := by decide +kernel
theorem dX1_find_42 : decode cX1_find 42 = .ok (.aload_n 0, 1) := by decide +kernel
theorem dX1_find_43 : decode cX1_find 43 = .ok (.getfield 15, 3) := by decide +kernel
theorem dX1_find_46 : decode cX1_find 46 = .ok (.iload 5, 2) := by decide +kernel
theorem dX1_find_48 : decode cX1_find 48 = .ok (.iconst 1, 1) := by decide +kernel
theorem dX1_find_49 : decode cX1_find 49 = .ok (.isub, 1) := by decide +kernel
theorem dX1_find_50 : decode cX1_find 50 = .ok (.iload_n 3, 1) := by decide +kernel
theorem dX1_find_51 : decode cX1_find 51 = .ok (.iastore, 1) := by decide +kernel
theorem dX1_find_52 : decode cX1_find 52 = .ok (.iconst 1, 1) := by decide +kernel
theorem dX1_find_53 : decode cX1_find 53 = .ok (.istore 6, 2) := by decide +kernel
theorem dX1_find_55 : decode cX1_find 55 = .ok (.iconst 0, 1) := by decide +kernel
theorem dX1_find_56 : decode cX1_find 56 = .ok (.istore 7, 2) := by decide +kernel
theorem dX1_find_58 : decode cX1_find 58 = .ok (.iload 6, 2) := by decide +kernel
theorem dX1_find_60 : decode cX1_find 60 = .ok (.ifCond .eq 33, 3) := by decide +kernel
theorem dX1_find_63 : decode cX1_find 63 = .ok (.iload 7, 2) := by decide +kernel
theorem dX1_find_65 : decode cX1_find 65 = .ok (.sipush 10000, 3) := by decide +kernel
theorem dX1_find_68 : decode cX1_find 68 = .ok (.if_icmp .ge 25, 3) := by decide +kernel
theorem dX1_find_71 : decode cX1_find 71 = .ok (.aload_n 0, 1) := by decide +kernel
theorem dX1_find_72 : decode cX1_find 72 = .ok (.aload_n 1, 1) := by decide +kernel
theorem dX1_find_73 : decode cX1_find 73 = .ok (.aload_n 2, 1) := by decide +kernel
theorem dX1_find_74 : decode cX1_find 74 = .ok (.iload 4, 2) := by decide +kernel
theorem dX1_find_76 : decode cX1_find 76 = .ok (.invokevirtual 27, 3) := by decide +kernel
theorem dX1_find_79 : decode cX1_find 79 = .ok (.aload_n 0, 1) := by decide +kernel
theorem dX1_find_80 : decode cX1_find 80 = .ok (.iload 5, 2) := by decide +kernel
theorem dX1_find_82 : decode cX1_find 82 = .ok (.invokevirtual 31, 3) := by decide +kernel
theorem dX1_find_85 : decode cX1_find 85 = .ok (.istore 6, 2) := by decide +kernel
theorem dX1_find_87 : decode cX1_find 87 = .ok (.iinc 7 1, 3) := by decide +kernel
theorem dX1_find_90 : decode cX1_find 90 = .ok (.goto (-32), 3) := by decide +kernel
theorem dX1_find_93 : decode cX1_find 93 = .ok (.return_, 1) := by decide +kernel
theorem dX1_judge_0 : decode cX1_judge 0 = .ok (.aload_n 1, 1) := by decide +kernel
theorem dX1_judge_1 : decode cX1_judge 1 = .ok (.getfield 18, 3) := by decide +kernel
theorem dX1_judge_4 : decode cX1_judge 4 = .ok (.istore 4, 2) := by decide +kernel
theorem dX1_judge_6 : decode cX1_judge 6 = .ok (.aload_n 2, 1) := by decide +kernel
theorem dX1_judge_7 : decode cX1_judge 7 = .ok (.aload_n 1, 1) := by decide +kernel
theorem dX1_judge_8 : decode cX1_judge 8 = .ok (.invokevirtual 35, 3) := by decide +kernel
theorem dX1_judge_11 : decode cX1_judge 11 = .ok (.iconst 0, 1) := by decide +kernel
theorem dX1_judge_12 : decode cX1_judge 12 = .ok (.istore 5, 2) := by decide +kernel
theorem dX1_judge_14 : decode cX1_judge 14 = .ok (.iload 5, 2) := by decide +kernel
theorem dX1_judge_16 : decode cX1_judge 16 = .ok (.iload 4, 2) := by decide +kernel
theorem dX1_judge_18 : decode cX1_judge 18 = .ok (.if_icmp .ge 23, 3) := by decide +kernel
theorem dX1_judge_21 : decode cX1_judge 21 = .ok (.aload_n 2, 1) := by decide +kernel
theorem dX1_judge_22 : decode cX1_judge 22 = .ok (.getfield 39, 3) := by decide +kernel
theorem dX1_judge_25 : decode cX1_judge 25 = .ok (.iload 5, 2) := by decide +kernel
theorem dX1_judge_27 : decode cX1_judge 27 = .ok (.aload_n 0, 1) := by decide +kernel
theorem dX1_judge_28 : decode cX1_judge 28 = .ok (.getfield 15, 3) := by decide +kernel
theorem dX1_judge_31 : decode cX1_judge 31 = .ok (.iload 5, 2) := by decide +kernel
theorem dX1_judge_33 : decode cX1_judge 33 = .ok (.iaload, 1) := by decide +kernel
theorem dX1_judge_34 : decode cX1_judge 34 = .ok (.iastore, 1) := by decide +kernel
theorem dX1_judge_35 : decode cX1_judge 35 = .ok (.iinc 5 1, 3) := by decide +kernel
theorem dX1_judge_38 : decode cX1_judge 38 = .ok (.goto (-24), 3) := by decide +kernel
theorem dX1_judge_41 : decode cX1_judge 41 = .ok (.iload 4, 2) := by decide +kernel
theorem dX1_judge_43 : decode cX1_judge 43 = .ok (.istore 5, 2) := by decide +kernel
theorem dX1_judge_45 : decode cX1_judge 45 = .ok (.iconst 0, 1) := by decide +kernel
theorem dX1_judge_46 : decode cX1_judge 46 = .ok (.istore 6, 2) := by decide +kernel
theorem dX1_judge_48 : decode cX1_judge 48 = .ok (.iload 6, 2) := by decide +kernel
theorem dX1_judge_50 : decode cX1_judge 50 = .ok (.iload_n 3, 1) := by decide +kernel
theorem dX1_judge_51 : decode cX1_judge 51 = .ok (.if_icmp .ge 35, 3) := by decide +kernel
theorem dX1_judge_54 : decode cX1_judge 54 = .ok (.iload 5, 2) := by decide +kernel
theorem dX1_judge_56 : decode cX1_judge 56 = .ok (.aload_n 0, 1) := by decide +kernel
theorem dX1_judge_57 : decode cX1_judge 57 = .ok (.getfield 24, 3) := by decide +kernel
theorem dX1_judge_60 : decode cX1_judge 60 = .ok (.if_icmp .lt 26, 3) := by decide +kernel
theorem dX1_judge_63 : decode cX1_judge 63 = .ok (.aload_n 2, 1) := by decide +kernel
theorem dX1_judge_64 : decode cX1_judge 64 = .ok (.iconst 0, 1) := by decide +kernel
theorem dX1_judge_65 : decode cX1_judge 65 = .ok (.invokevirtual 42, 3) := by decide +kernel
theorem dX1_judge_68 : decode cX1_judge 68 = .ok (.iload 4, 2) := by decide +kernel
theorem dX1_judge_70 : decode cX1_judge 70 = .ok (.aload_n 2, 1) := by decide +kernel
theorem dX1_judge_71 : decode cX1_judge 71 = .ok (.invokevirtual 46, 3) := by decide +kernel
theorem dX1_judge_74 : decode cX1_judge 74 = .ok (.invokestatic 50, 3) := by decide +kernel
theorem dX1_judge_77 : decode cX1_judge 77 = .ok (.isub, 1) := by decide +kernel
theorem dX1_judge_78 : decode cX1_judge 78 = .ok (.istore 5, 2) := by decide +kernel
theorem dX1_judge_80 : decode cX1_judge 80 = .ok (.iinc 6 1, 3) := by decide +kernel
theorem dX1_judge_83 : decode cX1_judge 83 = .ok (.goto (-35), 3) := by decide +kernel
theorem dX1_judge_86 : decode cX1_judge 86 = .ok (.aload_n 2, 1) := by decide +kernel
theorem dX1_judge_87 : decode cX1_judge 87 = .ok (.invokevirtual 56, 3) := by decide +kernel
theorem dX1_judge_90 : decode cX1_judge 90 = .ok (.istore 6, 2) := by decide +kernel
theorem dX1_judge_92 : decode cX1_judge 92 = .ok (.iload 5, 2) := by decide +kernel
theorem dX1_judge_94 : decode cX1_judge 94 = .ok (.aload_n 0, 1) := by decide +kernel
theorem dX1_judge_95 : decode cX1_judge 95 = .ok (.getfield 24, 3) := by decide +kernel
theorem dX1_judge_98 : decode cX1_judge 98 = .ok (.if_icmp .gt 21, 3) := by decide +kernel
theorem dX1_judge_101 : decode cX1_judge 101 = .ok (.iload 5, 2) := by decide +kernel
theorem dX1_judge_103 : decode cX1_judge 103 = .ok (.aload_n 0, 1) := by decide +kernel
theorem dX1_judge_104 : decode cX1_judge 104 = .ok (.getfield 24, 3) := by decide +kernel
theorem dX1_judge_107 : decode cX1_judge 107 = .ok (.if_icmp .ne 54, 3) := by decide +kernel
theorem dX1_judge_110 : decode cX1_judge 110 = .ok (.iload 6, 2) := by decide +kernel
theorem dX1_judge_112 : decode cX1_judge 112 = .ok (.aload_n 0, 1) := by decide +kernel
theorem dX1_judge_113 : decode cX1_judge 113 = .ok (.getfield 59, 3) := by decide +kernel
theorem dX1_judge_116 : decode cX1_judge 116 = .ok (.if_icmp .ge 45, 3) := by decide +kernel
theorem dX1_judge_119 : decode cX1_judge 119 = .ok (.aload_n 0, 1) := by decide +kernel
theorem dX1_judge_120 : decode cX1_judge 120 = .ok (.iload 5, 2) := by decide +kernel
theorem dX1_judge_122 : decode cX1_judge 122 = .ok (.putfield 24, 3) := by decide +kernel
theorem dX1_judge_125 : decode cX1_judge 125 = .ok (.aload_n 0, 1) := by decide +kernel
theorem dX1_judge_126 : decode cX1_judge 126 = .ok (.iload 6, 2) := by decide +kernel
theorem dX1_judge_128 : decode cX1_judge 128 = .ok (.putfield 59, 3) := by decide +kernel
theorem dX1_judge_131 : decode cX1_judge 131 = .ok (.iconst 0, 1) := by decide +kernel
theorem dX1_judge_132 : decode cX1_judge 132 = .ok (.istore 7, 2) := by decide +kernel
theorem dX1_judge_134 : decode cX1_judge 134 = .ok (.iload 7, 2) := by decide +kernel
theorem dX1_judge_136 : decode cX1_judge 136 = .ok (.iload 4, 2) := by decide +kernel
theorem dX1_judge_138 : decode cX1_judge 138 = .ok (.if_icmp .ge 23, 3) := by decide +kernel
theorem dX1_judge_141 : decode cX1_judge 141 = .ok (.aload_n 0, 1) := by decide +kernel
theorem dX1_judge_142 : decode cX1_judge 142 = .ok (.getfield 9, 3) := by decide +kernel
theorem dX1_judge_145 : decode cX1_judge 145 = .ok (.iload 7, 2) := by decide +kernel
theorem dX1_judge_147 : decode cX1_judge 147 = .ok (.aload_n 0, 1) := by decide +kernel
theorem dX1_judge_148 : decode cX1_judge 148 = .ok (.getfield 15, 3) := by decide +kernel
theorem dX1_judge_151 : decode cX1_judge 151 = .ok (.iload 7, 2) := by decide +kernel
theorem dX1_judge_153 : decode cX1_judge 153 = .ok (.iaload, 1) := by decide +kernel
theorem dX1_judge_154 : decode cX1_judge 154 = .ok (.iastore, 1) := by decide +kernel
theorem dX1_judge_155 : decode cX1_judge 155 = .ok (.iinc 7 1, 3) := by decide +kernel
theorem dX1_judge_158 : decode cX1_judge 158 = .ok (.goto (-24), 3) := by decide +kernel
theorem dX1_judge_161 : decode cX1_judge 161 = .ok (.return_, 1) := by decide +kernel
theorem dX1_nextWay_0 : decode cX1_nextWay 0 = .ok (.iload_n 1, 1) := by decide +kernel
theorem dX1_nextWay_1 : decode cX1_nextWay 1 = .ok (.iconst 1, 1) := by decide +kernel
theorem dX1_nextWay_2 : decode cX1_nextWay 2 = .ok (.isub, 1) := by decide +kernel
theorem dX1_nextWay_3 : decode cX1_nextWay 3 = .ok (.istore_n 2, 1) := by decide +kernel
theorem dX1_nextWay_4 : decode cX1_nextWay 4 = .ok (.iload_n 2, 1) := by decide +kernel
theorem dX1_nextWay_5 : decode cX1_nextWay 5 = .ok (.ifCond .le 52, 3) := by decide +kernel
theorem dX1_nextWay_8 : decode cX1_nextWay 8 = .ok (.aload_n 0, 1) := by decide +kernel
theorem dX1_nextWay_9 : decode cX1_nextWay 9 = .ok (.getfield 15, 3) := by decide +kernel
theorem dX1_nextWay_12 : decode cX1_nextWay 12 = .ok (.iload_n 2, 1) := by decide +kernel
theorem dX1_nextWay_13 : decode cX1_nextWay 13 = .ok (.iaload, 1) := by decide +kernel
theorem dX1_nextWay_14 : decode cX1_nextWay 14 = .ok (.istore_n 3, 1) := by decide +kernel
theorem dX1_nextWay_15 : decode cX1_nextWay 15 = .ok (.aload_n 0, 1) := by decide +kernel
theorem dX1_nextWay_16 : decode cX1_nextWay 16 = .ok (.getfield 15, 3) := by decide +kernel
theorem dX1_nextWay_19 : decode cX1_nextWay 19 = .ok (.iload_n 2, 1) := by decide +kernel
theorem dX1_nextWay_20 : decode cX1_nextWay 20 = .ok (.iconst 0, 1) := by decide +kernel
theorem dX1_nextWay_21 : decode cX1_nextWay 21 = .ok (.iastore, 1) := by decide +kernel
theorem dX1_nextWay_22 : decode cX1_nextWay 22 = .ok (.iload_n 3, 1) := by decide +kernel
theorem dX1_nextWay_23 : decode cX1_nextWay 23 = .ok (.ifCond .le 28, 3) := by decide +kernel
theorem dX1_nextWay_26 : decode cX1_nextWay 26 = .ok (.aload_n 0, 1) := by decide +kernel
theorem dX1_nextWay_27 : decode cX1_nextWay 27 = .ok (.getfield 15, 3) := by decide +kernel
theorem dX1_nextWay_30 : decode cX1_nextWay 30 = .ok (.iload_n 2, 1) := by decide +kernel
theorem dX1_nextWay_31 : decode cX1_nextWay 31 = .ok (.iconst 1, 1) := by decide +kernel
theorem dX1_nextWay_32 : decode cX1_nextWay 32 = .ok (.isub, 1) := by decide +kernel
theorem dX1_nextWay_33 : decode cX1_nextWay 33 = .ok (.dup2, 1) := by decide +kernel
theorem dX1_nextWay_34 : decode cX1_nextWay 34 = .ok (.iaload, 1) := by decide +kernel
theorem dX1_nextWay_35 : decode cX1_nextWay 35 = .ok (.iconst 1, 1) := by decide +kernel
theorem dX1_nextWay_36 : decode cX1_nextWay 36 = .ok (.iadd, 1) := by decide +kernel
theorem dX1_nextWay_37 : decode cX1_nextWay 37 = .ok (.iastore, 1) := by decide +kernel
theorem dX1_nextWay_38 : decode cX1_nextWay 38 = .ok (.aload_n 0, 1) := by decide +kernel
theorem dX1_nextWay_39 : decode cX1_nextWay 39 = .ok (.getfield 15, 3) := by decide +kernel
theorem dX1_nextWay_42 : decode cX1_nextWay 42 = .ok (.iload_n 1, 1) := by decide +kernel
theorem dX1_nextWay_43 : decode cX1_nextWay 43 = .ok (.iconst 1, 1) := by decide +kernel
theorem dX1_nextWay_44 : decode cX1_nextWay 44 = .ok (.isub, 1) := by decide +kernel
theorem dX1_nextWay_45 : decode cX1_nextWay 45 = .ok (.iload_n 3, 1) := by decide +kernel
theorem dX1_nextWay_46 : decode cX1_nextWay 46 = .ok (.iconst 1, 1) := by decide +kernel
theorem dX1_nextWay_47 : decode cX1_nextWay 47 = .ok (.isub, 1) := by decide +kernel
theorem dX1_nextWay_48 : decode cX1_nextWay 48 = .ok (.iastore, 1) := by decide +kernel
theorem dX1_nextWay_49 : decode cX1_nextWay 49 = .ok (.iconst 1, 1) := by decide +kernel
theorem dX1_nextWay_50 : decode cX1_nextWay 50 = .ok (.ireturn, 1) := by decide +kernel
theorem dX1_nextWay_51 : decode cX1_nextWay 51 = .ok (.iinc 2 (-1), 3) := by decide +kernel
theorem dX1_nextWay_54 : decode cX1_nextWay 54 = .ok (.goto (-50), 3) := by decide +kernel
theorem dX1_nextWay_57 : decode cX1_nextWay 57 = .ok (.iconst 0, 1) := by decide +kernel
theorem dX1_nextWay_58 : decode cX1_nextWay 58 = .ok (.ireturn, 1) := by decide +kernel
theorem dX2_init_0 : decode cX2_init 0 = .ok (.aload_n 0, 1) := by decide +kernel
theorem dX2_init_1 : decode cX2_init 1 = .ok (.invokespecial 3, 3) := by decide +kernel
theorem dX2_init_4 : decode cX2_init 4 = .ok (.aload_n 0, 1) := by decide +kernel
theorem dX2_init_5 : decode cX2_init 5 = .ok (.bipush 8, 2) := by decide +kernel
theorem dX2_init_7 : decode cX2_init 7 = .ok (.anewarray 9, 3) := by decide +kernel
theorem dX2_init_10 : decode cX2_init 10 = .ok (.putfield 11, 3) := by decide +kernel
theorem dX2_init_13 : decode cX2_init 13 = .ok (.iconst 0, 1) := by decide +kernel
theorem dX2_init_14 : decode cX2_init 14 = .ok (.istore_n 1, 1) := by decide +kernel
theorem dX2_init_15 : decode cX2_init 15 = .ok (.iload_n 1, 1) := by decide +kernel
theorem dX2_init_16 : decode cX2_init 16 = .ok (.bipush 8, 2) := by decide +kernel
theorem dX2_init_18 : decode cX2_init 18 = .ok (.if_icmp .ge 22, 3) := by decide +kernel
theorem dX2_init_21 : decode cX2_init 21 = .ok (.aload_n 0, 1) := by decide +kernel
theorem dX2_init_22 : decode cX2_init 22 = .ok (.getfield 11, 3) := by decide +kernel
theorem dX2_init_25 : decode cX2_init 25 = .ok (.iload_n 1, 1) := by decide +kernel
theorem dX2_init_26 : decode cX2_init 26 = .ok (.new 9, 3) := by decide +kernel
theorem dX2_init_29 : decode cX2_init 29 = .ok (.dup, 1) := by decide +kernel
theorem dX2_init_30 : decode cX2_init 30 = .ok (.invokespecial 17, 3) := by decide +kernel
theorem dX2_init_33 : decode cX2_init 33 = .ok (.aastore, 1) := by decide +kernel
theorem dX2_init_34 : decode cX2_init 34 = .ok (.iinc 1 1, 3) := by decide +kernel
theorem dX2_init_37 : decode cX2_init 37 = .ok (.goto (-22), 3) := by decide +kernel
theorem dX2_init_40 : decode cX2_init 40 = .ok (.return_, 1) := by decide +kernel
theorem dX2_forget_0 : decode cX2_forget 0 = .ok (.aload_n 0, 1) := by decide +kernel
theorem dX2_forget_1 : decode cX2_forget 1 = .ok (.iconst 0, 1) := by decide +kernel
theorem dX2_forget_2 : decode cX2_forget 2 = .ok (.putfield 18, 3) := by decide +kernel
theorem dX2_forget_5 : decode cX2_forget 5 = .ok (.return_, 1) := by decide +kernel
theorem dX2_remember_0 : decode cX2_remember 0 = .ok (.aload_n 0, 1) := by decide +kernel
theorem dX2_remember_1 : decode cX2_remember 1 = .ok (.getfield 18, 3) := by decide +kernel
theorem dX2_remember_4 : decode cX2_remember 4 = .ok (.bipush 8, 2) := by decide +kernel
theorem dX2_remember_6 : decode cX2_remember 6 = .ok (.if_icmp .lt 7, 3) := by decide +kernel
theorem dX2_remember_9 : decode cX2_remember 9 = .ok (.aload_n 0, 1) := by decide +kernel
theorem dX2_remember_10 : decode cX2_remember 10 = .ok (.invokevirtual 22, 3) := by decide +kernel
theorem dX2_remember_13 : decode cX2_remember 13 = .ok (.aload_n 0, 1) := by decide +kernel
theorem dX2_remember_14 : decode cX2_remember 14 = .ok (.getfield 11, 3) := by decide +kernel
theorem dX2_remember_17 : decode cX2_remember 17 = .ok (.aload_n 0, 1) := by decide +kernel
theorem dX2_remember_18 : decode cX2_remember 18 = .ok (.getfield 18, 3) := by decide +kernel
theorem dX2_remember_21 : decode cX2_remember 21 = .ok (.aaload, 1) := by decide +kernel
theorem dX2_remember_22 : decode cX2_remember 22 = .ok (.aload_n 1, 1) := by decide +kernel
theorem dX2_remember_23 : decode cX2_remember 23 = .ok (.invokevirtual 25, 3) := by decide +kernel
theorem dX2_remember_26 : decode cX2_remember 26 = .ok (.aload_n 0, 1) := by decide +kernel
theorem dX2_remember_27 : decode cX2_remember 27 = .ok (.dup, 1) := by decide +kernel
theorem dX2_remember_28 : decode cX2_remember 28 = .ok (.getfield 18, 3) := by decide +kernel
theorem dX2_remember_31 : decode cX2_remember 31 = .ok (.iconst 1, 1) := by decide +kernel
theorem dX2_remember_32 : decode cX2_remember 32 = .ok (.iadd, 1) := by decide +kernel
theorem dX2_remember_33 : decode cX2_remember 33 = .ok (.putfield 18, 3) := by decide +kernel
theorem dX2_remember_36 : decode cX2_remember 36 = .ok (.return_, 1) := by decide +kernel
theorem dX2_dropOldest_0 : decode cX2_dropOldest 0 = .ok (.aload_n 0, 1) := by decide +kernel
theorem dX2_dropOldest_1 : decode cX2_dropOldest 1 = .ok (.getfield 11, 3) := by decide +kernel
theorem dX2_dropOldest_4 : decode cX2_dropOldest 4 = .ok (.iconst 0, 1) := by decide +kernel
theorem dX2_dropOldest_5 : decode cX2_dropOldest 5 = .ok (.aaload, 1) := by decide +kernel
theorem dX2_dropOldest_6 : decode cX2_dropOldest 6 = .ok (.astore_n 1, 1) := by decide +kernel
theorem dX2_dropOldest_7 : decode cX2_dropOldest 7 = .ok (.iconst 1, 1) := by decide +kernel
theorem dX2_dropOldest_8 : decode cX2_dropOldest 8 = .ok (.istore_n 2, 1) := by decide +kernel
theorem dX2_dropOldest_9 : decode cX2_dropOldest 9 = .ok (.iload_n 2, 1) := by decide +kernel
theorem dX2_dropOldest_10 : decode cX2_dropOldest 10 = .ok (.bipush 8, 2) := by decide +kernel
theorem dX2_dropOldest_12 : decode cX2_dropOldest 12 = .ok (.if_icmp .ge 23, 3) := by decide +kernel
theorem dX2_dropOldest_15 : decode cX2_dropOldest 15 = .ok (.aload_n 0, 1) := by decide +kernel
theorem dX2_dropOldest_16 : decode cX2_dropOldest 16 = .ok (.getfield 11, 3) := by decide +kernel
theorem dX2_dropOldest_19 : decode cX2_dropOldest 19 = .ok (.iload_n 2, 1) := by decide +kernel
theorem dX2_dropOldest_20 : decode cX2_dropOldest 20 = .ok (.iconst 1, 1) := by decide +kernel
theorem dX2_dropOldest_21 : decode cX2_dropOldest 21 = .ok (.isub, 1) := by decide +kernel
theorem dX2_dropOldest_22 : decode cX2_dropOldest 22 = .ok (.aload_n 0, 1) := by decide +kernel
theorem dX2_dropOldest_23 : decode cX2_dropOldest 23 = .ok (.getfield 11, 3) := by decide +kernel
theorem dX2_dropOldest_26 : decode cX2_dropOldest 26 = .ok (.iload_n 2, 1) := by decide +kernel
theorem dX2_dropOldest_27 : decode cX2_dropOldest 27 = .ok (.aaload, 1) := by decide +kernel
theorem dX2_dropOldest_28 : decode cX2_dropOldest 28 = .ok (.aastore, 1) := by decide +kernel
theorem dX2_dropOldest_29 : decode cX2_dropOldest 29 = .ok (.iinc 2 1, 3) := by decide +kernel
theorem dX2_dropOldest_32 : decode cX2_dropOldest 32 = .ok (.goto (-23), 3) := by decide +kernel
theorem dX2_dropOldest_35 : decode cX2_dropOldest 35 = .ok (.aload_n 0, 1) := by decide +kernel
theorem dX2_dropOldest_36 : decode cX2_dropOldest 36 = .ok (.getfield 11, 3) := by decide +kernel
theorem dX2_dropOldest_39 : decode cX2_dropOldest 39 = .ok (.bipush 7, 2) := by decide +kernel
theorem dX2_dropOldest_41 : decode cX2_dropOldest 41 = .ok (.aload_n 1, 1) := by decide +kernel
theorem dX2_dropOldest_42 : decode cX2_dropOldest 42 = .ok (.aastore, 1) := by decide +kernel
theorem dX2_dropOldest_43 : decode cX2_dropOldest 43 = .ok (.aload_n 0, 1) := by decide +kernel
theorem dX2_dropOldest_44 : decode cX2_dropOldest 44 = .ok (.bipush 7, 2) := by decide +kernel
theorem dX2_dropOldest_46 : decode cX2_dropOldest 46 = .ok (.putfield 18, 3) := by decide +kernel
theorem dX2_dropOldest_49 : decode cX2_dropOldest 49 = .ok (.return_, 1) := by decide +kernel
theorem dX2_bringBack_0 : decode cX2_bringBack 0 = .ok (.aload_n 0, 1) := by decide +kernel
theorem dX2_bringBack_1 : decode cX2_bringBack 1 = .ok (.getfield 18, 3) := by decide +kernel
theorem dX2_bringBack_4 : decode cX2_bringBack 4 = .ok (.ifCond .le 26, 3) := by decide +kernel
theorem dX2_bringBack_7 : decode cX2_bringBack 7 = .ok (.aload_n 0, 1) := by decide +kernel
theorem dX2_bringBack_8 : decode cX2_bringBack 8 = .ok (.dup, 1) := by decide +kernel
theorem dX2_bringBack_9 : decode cX2_bringBack 9 = .ok (.getfield 18, 3) := by decide +kernel
theorem dX2_bringBack_12 : decode cX2_bringBack 12 = .ok (.iconst 1, 1) := by decide +kernel
theorem dX2_bringBack_13 : decode cX2_bringBack 13 = .ok (.isub, 1) := by decide +kernel
theorem dX2_bringBack_14 : decode cX2_bringBack 14 = .ok (.putfield 18, 3) := by decide +kernel
theorem dX2_bringBack_17 : decode cX2_bringBack 17 = .ok (.aload_n 1, 1) := by decide +kernel
theorem dX2_bringBack_18 : decode cX2_bringBack 18 = .ok (.aload_n 0, 1) := by decide +kernel
theorem dX2_bringBack_19 : decode cX2_bringBack 19 = .ok (.getfield 11, 3) := by decide +kernel
theorem dX2_bringBack_22 : decode cX2_bringBack 22 = .ok (.aload_n 0, 1) := by decide +kernel
theorem dX2_bringBack_23 : decode cX2_bringBack 23 = .ok (.getfield 18, 3) := by decide +kernel
theorem dX2_bringBack_26 : decode cX2_bringBack 26 = .ok (.aaload, 1) := by decide +kernel
theorem dX2_bringBack_27 : decode cX2_bringBack 27 = .ok (.invokevirtual 25, 3) := by decide +kernel
theorem dX2_bringBack_30 : decode cX2_bringBack 30 = .ok (.return_, 1) := by decide +kernel
theorem dX2_takeFrom_0 : decode cX2_takeFrom 0 = .ok (.aload_n 0, 1) := by decide +kernel
theorem dX2_takeFrom_1 : decode cX2_takeFrom 1 = .ok (.aload_n 1, 1) := by decide +kernel
theorem dX2_takeFrom_2 : decode cX2_takeFrom 2 = .ok (.getfield 18, 3) := by decide +kernel
theorem dX2_takeFrom_5 : decode cX2_takeFrom 5 = .ok (.putfield 18, 3) := by decide +kernel
theorem dX2_takeFrom_8 : decode cX2_takeFrom 8 = .ok (.iconst 0, 1) := by decide +kernel
theorem dX2_takeFrom_9 : decode cX2_takeFrom 9 = .ok (.istore_n 2, 1) := by decide +kernel
theorem dX2_takeFrom_10 : decode cX2_takeFrom 10 = .ok (.iload_n 2, 1) := by decide +kernel
theorem dX2_takeFrom_11 : decode cX2_takeFrom 11 = .ok (.bipush 8, 2) := by decide +kernel
theorem dX2_takeFrom_13 : decode cX2_takeFrom 13 = .ok (.if_icmp .ge 24, 3) := by decide +kernel
theorem dX2_takeFrom_16 : decode cX2_takeFrom 16 = .ok (.aload_n 0, 1) := by decide +kernel
theorem dX2_takeFrom_17 : decode cX2_takeFrom 17 = .ok (.getfield 11, 3) := by decide +kernel
theorem dX2_takeFrom_20 : decode cX2_takeFrom 20 = .ok (.iload_n 2, 1) := by decide +kernel
theorem dX2_takeFrom_21 : decode cX2_takeFrom 21 = .ok (.aaload, 1) := by decide +kernel
theorem dX2_takeFrom_22 : decode cX2_takeFrom 22 = .ok (.aload_n 1, 1) := by decide +kernel
theorem dX2_takeFrom_23 : decode cX2_takeFrom 23 = .ok (.getfield 11, 3) := by decide +kernel
theorem dX2_takeFrom_26 : decode cX2_takeFrom 26 = .ok (.iload_n 2, 1) := by decide +kernel
theorem dX2_takeFrom_27 : decode cX2_takeFrom 27 = .ok (.aaload, 1) := by decide +kernel
theorem dX2_takeFrom_28 : decode cX2_takeFrom 28 = .ok (.invokevirtual 25, 3) := by decide +kernel
theorem dX2_takeFrom_31 : decode cX2_takeFrom 31 = .ok (.iinc 2 1, 3) := by decide +kernel
theorem dX2_takeFrom_34 : decode cX2_takeFrom 34 = .ok (.goto (-24), 3) := by decide +kernel
theorem dX2_takeFrom_37 : decode cX2_takeFrom 37 = .ok (.return_, 1) := by decide +kernel
theorem dX3_init_0 : decode cX3_init 0 = .ok (.aload_n 0, 1) := by decide +kernel
theorem dX3_init_1 : decode cX3_init 1 = .ok (.invokespecial 3, 3) := by decide +kernel
theorem dX3_init_4 : decode cX3_init 4 = .ok (.aload_n 0, 1) := by decide +kernel
theorem dX3_init_5 : decode cX3_init 5 = .ok (.bipush 24, 2) := by decide +kernel
theorem dX3_init_7 : decode cX3_init 7 = .ok (.newarray .long, 2) := by decide +kernel
theorem dX3_init_9 : decode cX3_init 9 = .ok (.putfield 9, 3) := by decide +kernel
theorem dX3_init_12 : decode cX3_init 12 = .ok (.return_, 1) := by decide +kernel
theorem dX3_begin_0 : decode cX3_begin 0 = .ok (.aload_n 0, 1) := by decide +kernel
theorem dX3_begin_1 : decode cX3_begin 1 = .ok (.iconst 1, 1) := by decide +kernel
theorem dX3_begin_2 : decode cX3_begin 2 = .ok (.putfield 15, 3) := by decide +kernel
theorem dX3_begin_5 : decode cX3_begin 5 = .ok (.aload_n 0, 1) := by decide +kernel
theorem dX3_begin_6 : decode cX3_begin 6 = .ok (.iload_n 1, 1) := by decide +kernel
theorem dX3_begin_7 : decode cX3_begin 7 = .ok (.putfield 19, 3) := by decide +kernel
theorem dX3_begin_10 : decode cX3_begin 10 = .ok (.aload_n 0, 1) := by decide +kernel
theorem dX3_begin_11 : decode cX3_begin 11 = .ok (.iload_n 2, 1) := by decide +kernel
theorem dX3_begin_12 : decode cX3_begin 12 = .ok (.putfield 23, 3) := by decide +kernel
theorem dX3_begin_15 : decode cX3_begin 15 = .ok (.iconst 0, 1) := by decide +kernel
theorem dX3_begin_16 : decode cX3_begin 16 = .ok (.istore_n 3, 1) := by decide +kernel
theorem dX3_begin_17 : decode cX3_begin 17 = .ok (.iload_n 3, 1) := by decide +kernel
theorem dX3_begin_18 : decode cX3_begin 18 = .ok (.bipush 24, 2) := by decide +kernel
theorem dX3_begin_20 : decode cX3_begin 20 = .ok (.if_icmp .ge 16, 3) := by decide +kernel
theorem dX3_begin_23 : decode cX3_begin 23 = .ok (.aload_n 0, 1) := by decide +kernel
theorem dX3_begin_24 : decode cX3_begin 24 = .ok (.getfield 9, 3) := by decide +kernel
theorem dX3_begin_27 : decode cX3_begin 27 = .ok (.iload_n 3, 1) := by decide +kernel
theorem dX3_begin_28 : decode cX3_begin 28 = .ok (.lconst 0, 1) := by decide +kernel
theorem dX3_begin_29 : decode cX3_begin 29 = .ok (.lastore, 1) := by decide +kernel
theorem dX3_begin_30 : decode cX3_begin 30 = .ok (.iinc 3 1, 3) := by decide +kernel
theorem dX3_begin_33 : decode cX3_begin 33 = .ok (.goto (-16), 3) := by decide +kernel
theorem dX3_begin_36 : decode cX3_begin 36 = .ok (.return_, 1) := by decide +kernel
theorem dX3_hasItems_0 : decode cX3_hasItems 0 = .ok (.iload_n 1, 1) := by decide +kernel
theorem dX3_hasItems_1 : decode cX3_hasItems 1 = .ok (.ifCond .lt 21, 3) := by decide +kernel
theorem dX3_hasItems_4 : decode cX3_hasItems 4 = .ok (.iload_n 2, 1) := by decide +kernel
theorem dX3_hasItems_5 : decode cX3_hasItems 5 = .ok (.ifCond .lt 17, 3) := by decide +kernel
theorem dX3_hasItems_8 : decode cX3_hasItems 8 = .ok (.iload_n 1, 1) := by decide +kernel
theorem dX3_hasItems_9 : decode cX3_hasItems 9 = .ok (.aload_n 0, 1) := by decide +kernel
theorem dX3_hasItems_10 : decode cX3_hasItems 10 = .ok (.getfield 23, 3) := by decide +kernel
theorem dX3_hasItems_13 : decode cX3_hasItems 13 = .ok (.iload_n 2, 1) := by decide +kernel
theorem dX3_hasItems_14 : decode cX3_hasItems 14 = .ok (.isub, 1) := by decide +kernel
theorem dX3_hasItems_15 : decode cX3_hasItems 15 = .ok (.if_icmp .gt 7, 3) := by decide +kernel
theorem dX3_hasItems_18 : decode cX3_hasItems 18 = .ok (.iconst 1, 1) := by decide +kernel
theorem dX3_hasItems_19 : decode cX3_hasItems 19 = .ok (.goto 4, 3) := by decide +kernel
theorem dX3_hasItems_22 : decode cX3_hasItems 22 = .ok (.iconst 0, 1) := by decide +kernel
theorem dX3_hasItems_23 : decode cX3_hasItems 23 = .ok (.ireturn, 1) := by decide +kernel
theorem dX3_refusal_0 : decode cX3_refusal 0 = .ok (.aload_n 0, 1) := by decide +kernel
theorem dX3_refusal_1 : decode cX3_refusal 1 = .ok (.getfield 15, 3) := by decide +kernel
theorem dX3_refusal_4 : decode cX3_refusal 4 = .ok (.ifCond .ne 6, 3) := by decide +kernel
theorem dX3_refusal_7 : decode cX3_refusal 7 = .ok (.bipush (-11), 2) := by decide +kernel
theorem dX3_refusal_9 : decode cX3_refusal 9 = .ok (.ireturn, 1) := by decide +kernel
theorem dX3_refusal_10 : decode cX3_refusal 10 = .ok (.aload_n 0, 1) := by decide +kernel
theorem dX3_refusal_11 : decode cX3_refusal 11 = .ok (.getfield 19, 3) := by decide +kernel
theorem dX3_refusal_14 : decode cX3_refusal 14 = .ok (.iload_n 1, 1) := by decide +kernel
theorem dX3_refusal_15 : decode cX3_refusal 15 = .ok (.if_icmp .eq 6, 3) := by decide +kernel
theorem dX3_refusal_18 : decode cX3_refusal 18 = .ok (.bipush (-12), 2) := by decide +kernel
theorem dX3_refusal_20 : decode cX3_refusal 20 = .ok (.ireturn, 1) := by decide +kernel
theorem dX3_refusal_21 : decode cX3_refusal 21 = .ok (.aload_n 0, 1) := by decide +kernel
theorem dX3_refusal_22 : decode cX3_refusal 22 = .ok (.iload_n 2, 1) := by decide +kernel
theorem dX3_refusal_23 : decode cX3_refusal 23 = .ok (.iload_n 3, 1) := by decide +kernel
theorem dX3_refusal_24 : decode cX3_refusal 24 = .ok (.invokevirtual 26, 3) := by decide +kernel
theorem dX3_refusal_27 : decode cX3_refusal 27 = .ok (.ifCond .eq 7, 3) := by decide +kernel
theorem dX3_refusal_30 : decode cX3_refusal 30 = .ok (.iconst 0, 1) := by decide +kernel
theorem dX3_refusal_31 : decode cX3_refusal 31 = .ok (.goto 5, 3) := by decide +kernel
theorem dX3_refusal_34 : decode cX3_refusal 34 = .ok (.bipush (-13), 2) := by decide +kernel
theorem dX3_refusal_36 : decode cX3_refusal 36 = .ok (.ireturn, 1) := by decide +kernel
theorem dX3_write_0 : decode cX3_write 0 = .ok (.aload_n 0, 1) := by decide +kernel
theorem dX3_write_1 : decode cX3_write 1 = .ok (.iload_n 1, 1) := by decide +kernel
theorem dX3_write_2 : decode cX3_write 2 = .ok (.iconst 1, 1) := by decide +kernel
theorem dX3_write_3 : decode cX3_write 3 = .ok (.invokevirtual 26, 3) := by decide +kernel
theorem dX3_write_6 : decode cX3_write 6 = .ok (.ifCond .ne 4, 3) := by decide +kernel
theorem dX3_write_9 : decode cX3_write 9 = .ok (.return_, 1) := by decide +kernel
theorem dX3_write_10 : decode cX3_write 10 = .ok (.aload_n 0, 1) := by decide +kernel
theorem dX3_write_11 : decode cX3_write 11 = .ok (.getfield 19, 3) := by decide +kernel
theorem dX3_write_14 : decode cX3_write 14 = .ok (.tableswitch 64 0 2 #[26, 39, 52], 26) := by decide +kernel
theorem dX3_write_40 : decode cX3_write 40 = .ok (.aload_n 0, 1) := by decide +kernel
theorem dX3_write_41 : decode cX3_write 41 = .ok (.getfield 9, 3) := by decide +kernel
theorem dX3_write_44 : decode cX3_write 44 = .ok (.iload_n 1, 1) := by decide +kernel
theorem dX3_write_45 : decode cX3_write 45 = .ok (.lload_n 2, 1) := by decide +kernel
theorem dX3_write_46 : decode cX3_write 46 = .ok (.l2i, 1) := by decide +kernel
theorem dX3_write_47 : decode cX3_write 47 = .ok (.i2b, 1) := by decide +kernel
theorem dX3_write_48 : decode cX3_write 48 = .ok (.i2l, 1) := by decide +kernel
theorem dX3_write_49 : decode cX3_write 49 = .ok (.lastore, 1) := by decide +kernel
theorem dX3_write_50 : decode cX3_write 50 = .ok (.goto 35, 3) := by decide +kernel
theorem dX3_write_53 : decode cX3_write 53 = .ok (.aload_n 0, 1) := by decide +kernel
theorem dX3_write_54 : decode cX3_write 54 = .ok (.getfield 9, 3) := by decide +kernel
theorem dX3_write_57 : decode cX3_write 57 = .ok (.iload_n 1, 1) := by decide +kernel
theorem dX3_write_58 : decode cX3_write 58 = .ok (.lload_n 2, 1) := by decide +kernel
theorem dX3_write_59 : decode cX3_write 59 = .ok (.l2i, 1) := by decide +kernel
theorem dX3_write_60 : decode cX3_write 60 = .ok (.i2s, 1) := by decide +kernel
theorem dX3_write_61 : decode cX3_write 61 = .ok (.i2l, 1) := by decide +kernel
theorem dX3_write_62 : decode cX3_write 62 = .ok (.lastore, 1) := by decide +kernel
theorem dX3_write_63 : decode cX3_write 63 = .ok (.goto 22, 3) := by decide +kernel
theorem dX3_write_66 : decode cX3_write 66 = .ok (.aload_n 0, 1) := by decide +kernel
theorem dX3_write_67 : decode cX3_write 67 = .ok (.getfield 9, 3) := by decide +kernel
theorem dX3_write_70 : decode cX3_write 70 = .ok (.iload_n 1, 1) := by decide +kernel
theorem dX3_write_71 : decode cX3_write 71 = .ok (.lload_n 2, 1) := by decide +kernel
theorem dX3_write_72 : decode cX3_write 72 = .ok (.l2i, 1) := by decide +kernel
theorem dX3_write_73 : decode cX3_write 73 = .ok (.i2l, 1) := by decide +kernel
theorem dX3_write_74 : decode cX3_write 74 = .ok (.lastore, 1) := by decide +kernel
theorem dX3_write_75 : decode cX3_write 75 = .ok (.goto 10, 3) := by decide +kernel
theorem dX3_write_78 : decode cX3_write 78 = .ok (.aload_n 0, 1) := by decide +kernel
theorem dX3_write_79 : decode cX3_write 79 = .ok (.getfield 9, 3) := by decide +kernel
theorem dX3_write_82 : decode cX3_write 82 = .ok (.iload_n 1, 1) := by decide +kernel
theorem dX3_write_83 : decode cX3_write 83 = .ok (.lload_n 2, 1) := by decide +kernel
theorem dX3_write_84 : decode cX3_write 84 = .ok (.lastore, 1) := by decide +kernel
theorem dX3_write_85 : decode cX3_write 85 = .ok (.return_, 1) := by decide +kernel
theorem dX4_init_0 : decode cX4_init 0 = .ok (.aload_n 0, 1) := by decide +kernel
theorem dX4_init_1 : decode cX4_init 1 = .ok (.invokespecial 3, 3) := by decide +kernel
theorem dX4_init_4 : decode cX4_init 4 = .ok (.aload_n 0, 1) := by decide +kernel
theorem dX4_init_5 : decode cX4_init 5 = .ok (.bipush 80, 2) := by decide +kernel
theorem dX4_init_7 : decode cX4_init 7 = .ok (.newarray .int, 2) := by decide +kernel
theorem dX4_init_9 : decode cX4_init 9 = .ok (.putfield 9, 3) := by decide +kernel
theorem dX4_init_12 : decode cX4_init 12 = .ok (.aload_n 0, 1) := by decide +kernel
theorem dX4_init_13 : decode cX4_init 13 = .ok (.new 15, 3) := by decide +kernel
theorem dX4_init_16 : decode cX4_init 16 = .ok (.dup, 1) := by decide +kernel
theorem dX4_init_17 : decode cX4_init 17 = .ok (.invokespecial 17, 3) := by decide +kernel
theorem dX4_init_20 : decode cX4_init 20 = .ok (.putfield 18, 3) := by decide +kernel
theorem dX4_init_23 : decode cX4_init 23 = .ok (.return_, 1) := by decide +kernel
theorem dX4_add_0 : decode cX4_add 0 = .ok (.aload_n 0, 1) := by decide +kernel
theorem dX4_add_1 : decode cX4_add 1 = .ok (.getfield 22, 3) := by decide +kernel
theorem dX4_add_4 : decode cX4_add 4 = .ok (.bipush 80, 2) := by decide +kernel
theorem dX4_add_6 : decode cX4_add 6 = .ok (.if_icmp .ge 23, 3) := by decide +kernel
theorem dX4_add_9 : decode cX4_add 9 = .ok (.aload_n 0, 1) := by decide +kernel
theorem dX4_add_10 : decode cX4_add 10 = .ok (.getfield 9, 3) := by decide +kernel
theorem dX4_add_13 : decode cX4_add 13 = .ok (.aload_n 0, 1) := by decide +kernel
theorem dX4_add_14 : decode cX4_add 14 = .ok (.getfield 22, 3) := by decide +kernel
theorem dX4_add_17 : decode cX4_add 17 = .ok (.iload_n 1, 1) := by decide +kernel
theorem dX4_add_18 : decode cX4_add 18 = .ok (.iastore, 1) := by decide +kernel
theorem dX4_add_19 : decode cX4_add 19 = .ok (.aload_n 0, 1) := by decide +kernel
theorem dX4_add_20 : decode cX4_add 20 = .ok (.dup, 1) := by decide +kernel
theorem dX4_add_21 : decode cX4_add 21 = .ok (.getfield 22, 3) := by decide +kernel
theorem dX4_add_24 : decode cX4_add 24 = .ok (.iconst 1, 1) := by decide +kernel
theorem dX4_add_25 : decode cX4_add 25 = .ok (.iadd, 1) := by decide +kernel
theorem dX4_add_26 : decode cX4_add 26 = .ok (.putfield 22, 3) := by decide +kernel
theorem dX4_add_29 : decode cX4_add 29 = .ok (.aload_n 0, 1) := by decide +kernel
theorem dX4_add_30 : decode cX4_add 30 = .ok (.getfield 22, 3) := by decide +kernel
theorem dX4_add_33 : decode cX4_add 33 = .ok (.ireturn, 1) := by decide +kernel
theorem dX4_tellLane_0 : decode cX4_tellLane 0 = .ok (.aload_n 0, 1) := by decide +kernel
theorem dX4_tellLane_1 : decode cX4_tellLane 1 = .ok (.iconst 0, 1) := by decide +kernel
theorem dX4_tellLane_2 : decode cX4_tellLane 2 = .ok (.putfield 26, 3) := by decide +kernel
theorem dX4_tellLane_5 : decode cX4_tellLane 5 = .ok (.aload_n 0, 1) := by decide +kernel
theorem dX4_tellLane_6 : decode cX4_tellLane 6 = .ok (.getfield 18, 3) := by decide +kernel
theorem dX4_tellLane_9 : decode cX4_tellLane 9 = .ok (.invokevirtual 29, 3) := by decide +kernel
theorem dX4_tellLane_12 : decode cX4_tellLane 12 = .ok (.aload_n 0, 1) := by decide +kernel
theorem dX4_tellLane_13 : decode cX4_tellLane 13 = .ok (.bipush 20, 2) := by decide +kernel
theorem dX4_tellLane_15 : decode cX4_tellLane 15 = .ok (.invokevirtual 32, 3) := by decide +kernel
theorem dX4_tellLane_18 : decode cX4_tellLane 18 = .ok (.istore_n 1, 1) := by decide +kernel
theorem dX4_tellLane_19 : decode cX4_tellLane 19 = .ok (.iload_n 1, 1) := by decide +kernel
theorem dX4_tellLane_20 : decode cX4_tellLane 20 = .ok (.ifCond .ge 5, 3) := by decide +kernel
theorem dX4_tellLane_23 : decode cX4_tellLane 23 = .ok (.iconst 0, 1) := by decide +kernel
theorem dX4_tellLane_24 : decode cX4_tellLane 24 = .ok (.ireturn, 1) := by decide +kernel
theorem dX4_tellLane_25 : decode cX4_tellLane 25 = .ok (.aload_n 0, 1) := by decide +kernel
theorem dX4_tellLane_26 : decode cX4_tellLane 26 = .ok (.getfield 18, 3) := by decide +kernel
theorem dX4_tellLane_29 : decode cX4_tellLane 29 = .ok (.iload_n 1, 1) := by decide +kernel
theorem dX4_tellLane_30 : decode cX4_tellLane 30 = .ok (.putfield 36, 3) := by decide +kernel
theorem dX4_tellLane_33 : decode cX4_tellLane 33 = .ok (.aload_n 0, 1) := by decide +kernel
theorem dX4_tellLane_34 : decode cX4_tellLane 34 = .ok (.bipush 59, 2) := by decide +kernel
theorem dX4_tellLane_36 : decode cX4_tellLane 36 = .ok (.invokevirtual 39, 3) := by decide +kernel
theorem dX4_tellLane_39 : decode cX4_tellLane 39 = .ok (.ifCond .ne 12, 3) := by decide +kernel
theorem dX4_tellLane_42 : decode cX4_tellLane 42 = .ok (.aload_n 0, 1) := by decide +kernel
theorem dX4_tellLane_43 : decode cX4_tellLane 43 = .ok (.aload_n 0, 1) := by decide +kernel
theorem dX4_tellLane_44 : decode cX4_tellLane 44 = .ok (.getfield 26, 3) := by decide +kernel
theorem dX4_tellLane_47 : decode cX4_tellLane 47 = .ok (.invokevirtual 43, 3) := by decide +kernel
theorem dX4_tellLane_50 : decode cX4_tellLane 50 = .ok (.ireturn, 1) := by decide +kernel
theorem dX4_tellLane_51 : decode cX4_tellLane 51 = .ok (.aload_n 0, 1) := by decide +kernel
theorem dX4_tellLane_52 : decode cX4_tellLane 52 = .ok (.invokevirtual 46, 3) := by decide +kernel
theorem dX4_tellLane_55 : decode cX4_tellLane 55 = .ok (.ifCond .ne 5, 3) := by decide +kernel
theorem dX4_tellLane_58 : decode cX4_tellLane 58 = .ok (.iconst 0, 1) := by decide +kernel
theorem dX4_tellLane_59 : decode cX4_tellLane 59 = .ok (.ireturn, 1) := by decide +kernel
theorem dX4_tellLane_60 : decode cX4_tellLane 60 = .ok (.aload_n 0, 1) := by decide +kernel
theorem dX4_tellLane_61 : decode cX4_tellLane 61 = .ok (.bipush 59, 2) := by decide +kernel
theorem dX4_tellLane_63 : decode cX4_tellLane 63 = .ok (.invokevirtual 39, 3) := by decide +kernel
theorem dX4_tellLane_66 : decode cX4_tellLane 66 = .ok (.ifCond .eq 12, 3) := by decide +kernel
theorem dX4_tellLane_69 : decode cX4_tellLane 69 = .ok (.aload_n 0, 1) := by decide +kernel
theorem dX4_tellLane_70 : decode cX4_tellLane 70 = .ok (.invokevirtual 50, 3) := by decide +kernel
theorem dX4_tellLane_73 : decode cX4_tellLane 73 = .ok (.ifCond .ne 5, 3) := by decide +kernel
theorem dX4_tellLane_76 : decode cX4_tellLane 76 = .ok (.iconst 0, 1) := by decide +kernel
theorem dX4_tellLane_77 : decode cX4_tellLane 77 = .ok (.ireturn, 1) := by decide +kernel
theorem dX4_tellLane_78 : decode cX4_tellLane 78 = .ok (.aload_n 0, 1) := by decide +kernel
theorem dX4_tellLane_79 : decode cX4_tellLane 79 = .ok (.invokevirtual 53, 3) := by decide +kernel
theorem dX4_tellLane_82 : decode cX4_tellLane 82 = .ok (.iconst (-1), 1) := by decide +kernel
theorem dX4_tellLane_83 : decode cX4_tellLane 83 = .ok (.if_icmp .eq 14, 3) := by decide +kernel
theorem dX4_tellLane_86 : decode cX4_tellLane 86 = .ok (.aload_n 0, 1) := by decide +kernel
theorem dX4_tellLane_87 : decode cX4_tellLane 87 = .ok (.aload_n 0, 1) := by decide +kernel
theorem dX4_tellLane_88 : decode cX4_tellLane 88 = .ok (.getfield 26, 3) := by decide +kernel
theorem dX4_tellLane_91 : decode cX4_tellLane 91 = .ok (.invokevirtual 43, 3) := by decide +kernel
theorem dX4_tellLane_94 : decode cX4_tellLane 94 = .ok (.ifCond .eq 7, 3) := by decide +kernel
theorem dX4_tellLane_97 : decode cX4_tellLane 97 = .ok (.iconst 1, 1) := by decide +kernel
theorem dX4_tellLane_98 : decode cX4_tellLane 98 = .ok (.goto 4, 3) := by decide +kernel
theorem dX4_tellLane_101 : decode cX4_tellLane 101 = .ok (.iconst 0, 1) := by decide +kernel
theorem dX4_tellLane_102 : decode cX4_tellLane 102 = .ok (.ireturn, 1) := by decide +kernel
theorem dX4_tellHouses_0 : decode cX4_tellHouses 0 = .ok (.iconst 1, 1) := by decide +kernel
theorem dX4_tellHouses_1 : decode cX4_tellHouses 1 = .ok (.istore_n 1, 1) := by decide +kernel
theorem dX4_tellHouses_2 : decode cX4_tellHouses 2 = .ok (.iload_n 1, 1) := by decide +kernel
theorem dX4_tellHouses_3 : decode cX4_tellHouses 3 = .ok (.bipush 6, 2) := by decide +kernel
theorem dX4_tellHouses_5 : decode cX4_tellHouses 5 = .ok (.if_icmp .gt 36, 3) := by decide +kernel
theorem dX4_tellHouses_8 : decode cX4_tellHouses 8 = .ok (.aload_n 0, 1) := by decide +kernel
theorem dX4_tellHouses_9 : decode cX4_tellHouses 9 = .ok (.invokevirtual 57, 3) := by decide +kernel
theorem dX4_tellHouses_12 : decode cX4_tellHouses 12 = .ok (.ifCond .ne 5, 3) := by decide +kernel
theorem dX4_tellHouses_15 : decode cX4_tellHouses 15 = .ok (.iconst 0, 1) := by decide +kernel
theorem dX4_tellHouses_16 : decode cX4_tellHouses 16 = .ok (.ireturn, 1) := by decide +kernel
theorem dX4_tellHouses_17 : decode cX4_tellHouses 17 = .ok (.iload_n 1, 1) := by decide +kernel
theorem dX4_tellHouses_18 : decode cX4_tellHouses 18 = .ok (.bipush 6, 2) := by decide +kernel
theorem dX4_tellHouses_20 : decode cX4_tellHouses 20 = .ok (.if_icmp .eq 21, 3) := by decide +kernel
theorem dX4_tellHouses_23 : decode cX4_tellHouses 23 = .ok (.aload_n 0, 1) := by decide +kernel
theorem dX4_tellHouses_24 : decode cX4_tellHouses 24 = .ok (.bipush 44, 2) := by decide +kernel
theorem dX4_tellHouses_26 : decode cX4_tellHouses 26 = .ok (.invokevirtual 39, 3) := by decide +kernel
theorem dX4_tellHouses_29 : decode cX4_tellHouses 29 = .ok (.ifCond .ne 6, 3) := by decide +kernel
theorem dX4_tellHouses_32 : decode cX4_tellHouses 32 = .ok (.goto 9, 3) := by decide +kernel
theorem dX4_tellHouses_35 : decode cX4_tellHouses 35 = .ok (.iinc 1 1, 3) := by decide +kernel
theorem dX4_tellHouses_38 : decode cX4_tellHouses 38 = .ok (.goto (-36), 3) := by decide +kernel
theorem dX4_tellHouses_41 : decode cX4_tellHouses 41 = .ok (.iconst 1, 1) := by decide +kernel
theorem dX4_tellHouses_42 : decode cX4_tellHouses 42 = .ok (.ireturn, 1) := by decide +kernel
theorem dX4_tellHouse_0 : decode cX4_tellHouse 0 = .ok (.aload_n 0, 1) := by decide +kernel
theorem dX4_tellHouse_1 : decode cX4_tellHouse 1 = .ok (.bipush 99, 2) := by decide +kernel
theorem dX4_tellHouse_3 : decode cX4_tellHouse 3 = .ok (.invokevirtual 32, 3) := by decide +kernel
theorem dX4_tellHouse_6 : decode cX4_tellHouse 6 = .ok (.istore_n 1, 1) := by decide +kernel
theorem dX4_tellHouse_7 : decode cX4_tellHouse 7 = .ok (.iload_n 1, 1) := by decide +kernel
theorem dX4_tellHouse_8 : decode cX4_tellHouse 8 = .ok (.ifCond .ge 5, 3) := by decide +kernel
theorem dX4_tellHouse_11 : decode cX4_tellHouse 11 = .ok (.iconst 0, 1) := by decide +kernel
theorem dX4_tellHouse_12 : decode cX4_tellHouse 12 = .ok (.ireturn, 1) := by decide +kernel
theorem dX4_tellHouse_13 : decode cX4_tellHouse 13 = .ok (.aload_n 0, 1) := by decide +kernel
theorem dX4_tellHouse_14 : decode cX4_tellHouse 14 = .ok (.bipush 46, 2) := by decide +kernel
theorem dX4_tellHouse_16 : decode cX4_tellHouse 16 = .ok (.invokevirtual 39, 3) := by decide +kernel
theorem dX4_tellHouse_19 : decode cX4_tellHouse 19 = .ok (.ifCond .ne 12, 3) := by decide +kernel
theorem dX4_tellHouse_22 : decode cX4_tellHouse 22 = .ok (.aload_n 0, 1) := by decide +kernel
theorem dX4_tellHouse_23 : decode cX4_tellHouse 23 = .ok (.aload_n 0, 1) := by decide +kernel
theorem dX4_tellHouse_24 : decode cX4_tellHouse 24 = .ok (.getfield 26, 3) := by decide +kernel
theorem dX4_tellHouse_27 : decode cX4_tellHouse 27 = .ok (.invokevirtual 43, 3) := by decide +kernel
theorem dX4_tellHouse_30 : decode cX4_tellHouse 30 = .ok (.ireturn, 1) := by decide +kernel
theorem dX4_tellHouse_31 : decode cX4_tellHouse 31 = .ok (.aload_n 0, 1) := by decide +kernel
theorem dX4_tellHouse_32 : decode cX4_tellHouse 32 = .ok (.bipush 20, 2) := by decide +kernel
theorem dX4_tellHouse_34 : decode cX4_tellHouse 34 = .ok (.invokevirtual 32, 3) := by decide +kernel
theorem dX4_tellHouse_37 : decode cX4_tellHouse 37 = .ok (.istore_n 2, 1) := by decide +kernel
theorem dX4_tellHouse_38 : decode cX4_tellHouse 38 = .ok (.iload_n 2, 1) := by decide +kernel
theorem dX4_tellHouse_39 : decode cX4_tellHouse 39 = .ok (.ifCond .ge 5, 3) := by decide +kernel
theorem dX4_tellHouse_42 : decode cX4_tellHouse 42 = .ok (.iconst 0, 1) := by decide +kernel
theorem dX4_tellHouse_43 : decode cX4_tellHouse 43 = .ok (.ireturn, 1) := by decide +kernel
theorem dX4_tellHouse_44 : decode cX4_tellHouse 44 = .ok (.iconst 0, 1) := by decide +kernel
theorem dX4_tellHouse_45 : decode cX4_tellHouse 45 = .ok (.istore_n 3, 1) := by decide +kernel
theorem dX4_tellHouse_46 : decode cX4_tellHouse 46 = .ok (.iload_n 3, 1) := by decide +kernel
theorem dX4_tellHouse_47 : decode cX4_tellHouse 47 = .ok (.iconst 3, 1) := by decide +kernel
theorem dX4_tellHouse_48 : decode cX4_tellHouse 48 = .ok (.if_icmp .ge 18, 3) := by decide +kernel
theorem dX4_tellHouse_51 : decode cX4_tellHouse 51 = .ok (.aload_n 0, 1) := by decide +kernel
theorem dX4_tellHouse_52 : decode cX4_tellHouse 52 = .ok (.bipush 33, 2) := by decide +kernel
theorem dX4_tellHouse_54 : decode cX4_tellHouse 54 = .ok (.invokevirtual 39, 3) := by decide +kernel
theorem dX4_tellHouse_57 : decode cX4_tellHouse 57 = .ok (.ifCond .eq 9, 3) := by decide +kernel
theorem dX4_tellHouse_60 : decode cX4_tellHouse 60 = .ok (.iinc 3 1, 3) := by decide +kernel
theorem dX4_tellHouse_63 : decode cX4_tellHouse 63 = .ok (.goto (-17), 3) := by decide +kernel
theorem dX4_tellHouse_66 : decode cX4_tellHouse 66 = .ok (.aload_n 0, 1) := by decide +kernel
theorem dX4_tellHouse_67 : decode cX4_tellHouse 67 = .ok (.getfield 18, 3) := by decide +kernel
theorem dX4_tellHouse_70 : decode cX4_tellHouse 70 = .ok (.bipush 10, 2) := by decide +kernel
theorem dX4_tellHouse_72 : decode cX4_tellHouse 72 = .ok (.iload_n 1, 1) := by decide +kernel
theorem dX4_tellHouse_73 : decode cX4_tellHouse 73 = .ok (.imul, 1) := by decide +kernel
theorem dX4_tellHouse_74 : decode cX4_tellHouse 74 = .ok (.iload_n 2, 1) := by decide +kernel
theorem dX4_tellHouse_75 : decode cX4_tellHouse 75 = .ok (.iload_n 3, 1) := by decide +kernel
theorem dX4_tellHouse_76 : decode cX4_tellHouse 76 = .ok (.invokevirtual 60, 3) := by decide +kernel
theorem dX4_tellHouse_79 : decode cX4_tellHouse 79 = .ok (.pop, 1) := by decide +kernel
theorem dX4_tellHouse_80 : decode cX4_tellHouse 80 = .ok (.iconst 1, 1) := by decide +kernel
theorem dX4_tellHouse_81 : decode cX4_tellHouse 81 = .ok (.ireturn, 1) := by decide +kernel
theorem dX4_tellHogs_0 : decode cX4_tellHogs 0 = .ok (.iconst 1, 1) := by decide +kernel
theorem dX4_tellHogs_1 : decode cX4_tellHogs 1 = .ok (.istore_n 1, 1) := by decide +kernel
theorem dX4_tellHogs_2 : decode cX4_tellHogs 2 = .ok (.iload_n 1, 1) := by decide +kernel
theorem dX4_tellHogs_3 : decode cX4_tellHogs 3 = .ok (.iconst 5, 1) := by decide +kernel
theorem dX4_tellHogs_4 : decode cX4_tellHogs 4 = .ok (.if_icmp .gt 35, 3) := by decide +kernel
theorem dX4_tellHogs_7 : decode cX4_tellHogs 7 = .ok (.aload_n 0, 1) := by decide +kernel
theorem dX4_tellHogs_8 : decode cX4_tellHogs 8 = .ok (.invokevirtual 64, 3) := by decide +kernel
theorem dX4_tellHogs_11 : decode cX4_tellHogs 11 = .ok (.ifCond .ne 5, 3) := by decide +kernel
theorem dX4_tellHogs_14 : decode cX4_tellHogs 14 = .ok (.iconst 0, 1) := by decide +kernel
theorem dX4_tellHogs_15 : decode cX4_tellHogs 15 = .ok (.ireturn, 1) := by decide +kernel
theorem dX4_tellHogs_16 : decode cX4_tellHogs 16 = .ok (.iload_n 1, 1) := by decide +kernel
theorem dX4_tellHogs_17 : decode cX4_tellHogs 17 = .ok (.iconst 5, 1) := by decide +kernel
theorem dX4_tellHogs_18 : decode cX4_tellHogs 18 = .ok (.if_icmp .eq 21, 3) := by decide +kernel
theorem dX4_tellHogs_21 : decode cX4_tellHogs 21 = .ok (.aload_n 0, 1) := by decide +kernel
theorem dX4_tellHogs_22 : decode cX4_tellHogs 22 = .ok (.bipush 44, 2) := by decide +kernel
theorem dX4_tellHogs_24 : decode cX4_tellHogs 24 = .ok (.invokevirtual 39, 3) := by decide +kernel
theorem dX4_tellHogs_27 : decode cX4_tellHogs 27 = .ok (.ifCond .ne 6, 3) := by decide +kernel
theorem dX4_tellHogs_30 : decode cX4_tellHogs 30 = .ok (.goto 9, 3) := by decide +kernel
theorem dX4_tellHogs_33 : decode cX4_tellHogs 33 = .ok (.iinc 1 1, 3) := by decide +kernel
theorem dX4_tellHogs_36 : decode cX4_tellHogs 36 = .ok (.goto (-34), 3) := by decide +kernel
theorem dX4_tellHogs_39 : decode cX4_tellHogs 39 = .ok (.iconst 1, 1) := by decide +kernel
theorem dX4_tellHogs_40 : decode cX4_tellHogs 40 = .ok (.ireturn, 1) := by decide +kernel
theorem dX4_tellHog_0 : decode cX4_tellHog 0 = .ok (.aload_n 0, 1) := by decide +kernel
theorem dX4_tellHog_1 : decode cX4_tellHog 1 = .ok (.invokevirtual 53, 3) := by decide +kernel
theorem dX4_tellHog_4 : decode cX4_tellHog 4 = .ok (.invokestatic 67, 3) := by decide +kernel
theorem dX4_tellHog_7 : decode cX4_tellHog 7 = .ok (.istore_n 1, 1) := by decide +kernel
theorem dX4_tellHog_8 : decode cX4_tellHog 8 = .ok (.iload_n 1, 1) := by decide +kernel
theorem dX4_tellHog_9 : decode cX4_tellHog 9 = .ok (.ifCond .ge 12, 3) := by decide +kernel
theorem dX4_tellHog_12 : decode cX4_tellHog 12 = .ok (.aload_n 0, 1) := by decide +kernel
theorem dX4_tellHog_13 : decode cX4_tellHog 13 = .ok (.aload_n 0, 1) := by decide +kernel
theorem dX4_tellHog_14 : decode cX4_tellHog 14 = .ok (.getfield 26, 3) := by decide +kernel
theorem dX4_tellHog_17 : decode cX4_tellHog 17 = .ok (.invokevirtual 43, 3) := by decide +kernel
theorem dX4_tellHog_20 : decode cX4_tellHog 20 = .ok (.ireturn, 1) := by decide +kernel
theorem dX4_tellHog_21 : decode cX4_tellHog 21 = .ok (.aload_n 0, 1) := by decide +kernel
theorem dX4_tellHog_22 : decode cX4_tellHog 22 = .ok (.dup, 1) := by decide +kernel
theorem dX4_tellHog_23 : decode cX4_tellHog 23 = .ok (.getfield 26, 3) := by decide +kernel
theorem dX4_tellHog_26 : decode cX4_tellHog 26 = .ok (.iconst 1, 1) := by decide +kernel
theorem dX4_tellHog_27 : decode cX4_tellHog 27 = .ok (.iadd, 1) := by decide +kernel
theorem dX4_tellHog_28 : decode cX4_tellHog 28 = .ok (.putfield 26, 3) := by decide +kernel
theorem dX4_tellHog_31 : decode cX4_tellHog 31 = .ok (.aload_n 0, 1) := by decide +kernel
theorem dX4_tellHog_32 : decode cX4_tellHog 32 = .ok (.invokevirtual 53, 3) := by decide +kernel
theorem dX4_tellHog_35 : decode cX4_tellHog 35 = .ok (.bipush 48, 2) := by decide +kernel
theorem dX4_tellHog_37 : decode cX4_tellHog 37 = .ok (.isub, 1) := by decide +kernel
theorem dX4_tellHog_38 : decode cX4_tellHog 38 = .ok (.istore_n 2, 1) := by decide +kernel
theorem dX4_tellHog_39 : decode cX4_tellHog 39 = .ok (.iload_n 2, 1) := by decide +kernel
theorem dX4_tellHog_40 : decode cX4_tellHog 40 = .ok (.iconst 1, 1) := by decide +kernel
theorem dX4_tellHog_41 : decode cX4_tellHog 41 = .ok (.if_icmp .lt 9, 3) := by decide +kernel
theorem dX4_tellHog_44 : decode cX4_tellHog 44 = .ok (.iload_n 2, 1) := by decide +kernel
theorem dX4_tellHog_45 : decode cX4_tellHog 45 = .ok (.bipush 9, 2) := by decide +kernel
theorem dX4_tellHog_47 : decode cX4_tellHog 47 = .ok (.if_icmp .le 12, 3) := by decide +kernel
theorem dX4_tellHog_50 : decode cX4_tellHog 50 = .ok (.aload_n 0, 1) := by decide +kernel
theorem dX4_tellHog_51 : decode cX4_tellHog 51 = .ok (.aload_n 0, 1) := by decide +kernel
theorem dX4_tellHog_52 : decode cX4_tellHog 52 = .ok (.getfield 26, 3) := by decide +kernel
theorem dX4_tellHog_55 : decode cX4_tellHog 55 = .ok (.invokevirtual 43, 3) := by decide +kernel
theorem dX4_tellHog_58 : decode cX4_tellHog 58 = .ok (.ireturn, 1) := by decide +kernel
theorem dX4_tellHog_59 : decode cX4_tellHog 59 = .ok (.aload_n 0, 1) := by decide +kernel
theorem dX4_tellHog_60 : decode cX4_tellHog 60 = .ok (.dup, 1) := by decide +kernel
theorem dX4_tellHog_61 : decode cX4_tellHog 61 = .ok (.getfield 26, 3) := by decide +kernel
theorem dX4_tellHog_64 : decode cX4_tellHog 64 = .ok (.iconst 1, 1) := by decide +kernel
theorem dX4_tellHog_65 : decode cX4_tellHog 65 = .ok (.iadd, 1) := by decide +kernel
theorem dX4_tellHog_66 : decode cX4_tellHog 66 = .ok (.putfield 26, 3) := by decide +kernel
theorem dX4_tellHog_69 : decode cX4_tellHog 69 = .ok (.iconst 0, 1) := by decide +kernel
theorem dX4_tellHog_70 : decode cX4_tellHog 70 = .ok (.istore_n 3, 1) := by decide +kernel
theorem dX4_tellHog_71 : decode cX4_tellHog 71 = .ok (.aload_n 0, 1) := by decide +kernel
theorem dX4_tellHog_72 : decode cX4_tellHog 72 = .ok (.bipush 64, 2) := by decide +kernel
theorem dX4_tellHog_74 : decode cX4_tellHog 74 = .ok (.invokevirtual 39, 3) := by decide +kernel
theorem dX4_tellHog_77 : decode cX4_tellHog 77 = .ok (.ifCond .eq 41, 3) := by decide +kernel
theorem dX4_tellHog_80 : decode cX4_tellHog 80 = .ok (.aload_n 0, 1) := by decide +kernel
theorem dX4_tellHog_81 : decode cX4_tellHog 81 = .ok (.invokevirtual 53, 3) := by decide +kernel
theorem dX4_tellHog_84 : decode cX4_tellHog 84 = .ok (.bipush 48, 2) := by decide +kernel
theorem dX4_tellHog_86 : decode cX4_tellHog 86 = .ok (.isub, 1) := by decide +kernel
theorem dX4_tellHog_87 : decode cX4_tellHog 87 = .ok (.istore_n 3, 1) := by decide +kernel
theorem dX4_tellHog_88 : decode cX4_tellHog 88 = .ok (.aload_n 0, 1) := by decide +kernel
theorem dX4_tellHog_89 : decode cX4_tellHog 89 = .ok (.getfield 18, 3) := by decide +kernel
theorem dX4_tellHog_92 : decode cX4_tellHog 92 = .ok (.iload_n 3, 1) := by decide +kernel
theorem dX4_tellHog_93 : decode cX4_tellHog 93 = .ok (.invokevirtual 70, 3) := by decide +kernel
theorem dX4_tellHog_96 : decode cX4_tellHog 96 = .ok (.ifCond .ne 12, 3) := by decide +kernel
theorem dX4_tellHog_99 : decode cX4_tellHog 99 = .ok (.aload_n 0, 1) := by decide +kernel
theorem dX4_tellHog_100 : decode cX4_tellHog 100 = .ok (.aload_n 0, 1) := by decide +kernel
theorem dX4_tellHog_101 : decode cX4_tellHog 101 = .ok (.getfield 26, 3) := by decide +kernel
theorem dX4_tellHog_104 : decode cX4_tellHog 104 = .ok (.invokevirtual 43, 3) := by decide +kernel
theorem dX4_tellHog_107 : decode cX4_tellHog 107 = .ok (.ireturn, 1) := by decide +kernel
theorem dX4_tellHog_108 : decode cX4_tellHog 108 = .ok (.aload_n 0, 1) := by decide +kernel
theorem dX4_tellHog_109 : decode cX4_tellHog 109 = .ok (.dup, 1) := by decide +kernel
theorem dX4_tellHog_110 : decode cX4_tellHog 110 = .ok (.getfield 26, 3) := by decide +kernel
theorem dX4_tellHog_113 : decode cX4_tellHog 113 = .ok (.iconst 1, 1) := by decide +kernel
theorem dX4_tellHog_114 : decode cX4_tellHog 114 = .ok (.iadd, 1) := by decide +kernel
theorem dX4_tellHog_115 : decode cX4_tellHog 115 = .ok (.putfield 26, 3) := by decide +kernel
theorem dX4_tellHog_118 : decode cX4_tellHog 118 = .ok (.aload_n 0, 1) := by decide +kernel
theorem dX4_tellHog_119 : decode cX4_tellHog 119 = .ok (.getfield 18, 3) := by decide +kernel
theorem dX4_tellHog_122 : decode cX4_tellHog 122 = .ok (.iload_n 1, 1) := by decide +kernel
theorem dX4_tellHog_123 : decode cX4_tellHog 123 = .ok (.iload_n 2, 1) := by decide +kernel
theorem dX4_tellHog_124 : decode cX4_tellHog 124 = .ok (.iload_n 3, 1) := by decide +kernel
theorem dX4_tellHog_125 : decode cX4_tellHog 125 = .ok (.invokevirtual 73, 3) := by decide +kernel
theorem dX4_tellHog_128 : decode cX4_tellHog 128 = .ok (.pop, 1) := by decide +kernel
theorem dX4_tellHog_129 : decode cX4_tellHog 129 = .ok (.iconst 1, 1) := by decide +kernel
theorem dX4_tellHog_130 : decode cX4_tellHog 130 = .ok (.ireturn, 1) := by decide +kernel
theorem dX4_kindOf_0 : decode cX4_kindOf 0 = .ok (.iload_n 0, 1) := by decide +kernel
theorem dX4_kindOf_1 : decode cX4_kindOf 1 = .ok (.lookupswitch 61 #[(102, 57), (103, 53), (112, 51), (115, 55), (121, 59)], 51) := by decide +kernel
theorem dX4_kindOf_52 : decode cX4_kindOf 52 = .ok (.iconst 0, 1) := by decide +kernel
theorem dX4_kindOf_53 : decode cX4_kindOf 53 = .ok (.ireturn, 1) := by decide +kernel
theorem dX4_kindOf_54 : decode cX4_kindOf 54 = .ok (.iconst 1, 1) := by decide +kernel
theorem dX4_kindOf_55 : decode cX4_kindOf 55 = .ok (.ireturn, 1) := by decide +kernel
theorem dX4_kindOf_56 : decode cX4_kindOf 56 = .ok (.iconst 2, 1) := by decide +kernel
theorem dX4_kindOf_57 : decode cX4_kindOf 57 = .ok (.ireturn, 1) := by decide +kernel
theorem dX4_kindOf_58 : decode cX4_kindOf 58 = .ok (.iconst 3, 1) := by decide +kernel
theorem dX4_kindOf_59 : decode cX4_kindOf 59 = .ok (.ireturn, 1) := by decide +kernel
theorem dX4_kindOf_60 : decode cX4_kindOf 60 = .ok (.iconst 4, 1) := by decide +kernel
theorem dX4_kindOf_61 : decode cX4_kindOf 61 = .ok (.ireturn, 1) := by decide +kernel
theorem dX4_kindOf_62 : decode cX4_kindOf 62 = .ok (.iconst (-1), 1) := by decide +kernel
theorem dX4_kindOf_63 : decode cX4_kindOf 63 = .ok (.ireturn, 1) := by decide +kernel
theorem dX4_number_0 : decode cX4_number 0 = .ok (.aload_n 0, 1) := by decide +kernel
theorem dX4_number_1 : decode cX4_number 1 = .ok (.invokevirtual 53, 3) := by decide +kernel
theorem dX4_number_4 : decode cX4_number 4 = .ok (.invokestatic 76, 3) := by decide +kernel
theorem dX4_number_7 : decode cX4_number 7 = .ok (.ifCond .ne 14, 3) := by decide +kernel
theorem dX4_number_10 : decode cX4_number 10 = .ok (.aload_n 0, 1) := by decide +kernel
theorem dX4_number_11 : decode cX4_number 11 = .ok (.aload_n 0, 1) := by decide +kernel
theorem dX4_number_12 : decode cX4_number 12 = .ok (.getfield 26, 3) := by decide +kernel
theorem dX4_number_15 : decode cX4_number 15 = .ok (.invokevirtual 43, 3) := by decide +kernel
theorem dX4_number_18 : decode cX4_number 18 = .ok (.pop, 1) := by decide +kernel
theorem dX4_number_19 : decode cX4_number 19 = .ok (.iconst (-1), 1) := by decide +kernel
theorem dX4_number_20 : decode cX4_number 20 = .ok (.ireturn, 1) := by decide +kernel
theorem dX4_number_21 : decode cX4_number 21 = .ok (.aload_n 0, 1) := by decide +kernel
theorem dX4_number_22 : decode cX4_number 22 = .ok (.getfield 26, 3) := by decide +kernel
theorem dX4_number_25 : decode cX4_number 25 = .ok (.istore_n 2, 1) := by decide +kernel
theorem dX4_number_26 : decode cX4_number 26 = .ok (.iconst 0, 1) := by decide +kernel
theorem dX4_number_27 : decode cX4_number 27 = .ok (.istore_n 3, 1) := by decide +kernel
theorem dX4_number_28 : decode cX4_number 28 = .ok (.iconst 0, 1) := by decide +kernel
theorem dX4_number_29 : decode cX4_number 29 = .ok (.istore 4, 2) := by decide +kernel
theorem dX4_number_31 : decode cX4_number 31 = .ok (.iload 4, 2) := by decide +kernel
theorem dX4_number_33 : decode cX4_number 33 = .ok (.iconst 2, 1) := by decide +kernel
theorem dX4_number_34 : decode cX4_number 34 = .ok (.if_icmp .ge 63, 3) := by decide +kernel
theorem dX4_number_37 : decode cX4_number 37 = .ok (.aload_n 0, 1) := by decide +kernel
theorem dX4_number_38 : decode cX4_number 38 = .ok (.getfield 26, 3) := by decide +kernel
theorem dX4_number_41 : decode cX4_number 41 = .ok (.aload_n 0, 1) := by decide +kernel
theorem dX4_number_42 : decode cX4_number 42 = .ok (.getfield 22, 3) := by decide +kernel
theorem dX4_number_45 : decode cX4_number 45 = .ok (.if_icmp .ge 52, 3) := by decide +kernel
theorem dX4_number_48 : decode cX4_number 48 = .ok (.aload_n 0, 1) := by decide +kernel
theorem dX4_number_49 : decode cX4_number 49 = .ok (.getfield 9, 3) := by decide +kernel
theorem dX4_number_52 : decode cX4_number 52 = .ok (.aload_n 0, 1) := by decide +kernel
theorem dX4_number_53 : decode cX4_number 53 = .ok (.getfield 26, 3) := by decide +kernel
theorem dX4_number_56 : decode cX4_number 56 = .ok (.iaload, 1) := by decide +kernel
theorem dX4_number_57 : decode cX4_number 57 = .ok (.invokestatic 76, 3) := by decide +kernel
theorem dX4_number_60 : decode cX4_number 60 = .ok (.ifCond .eq 37, 3) := by decide +kernel
theorem dX4_number_63 : decode cX4_number 63 = .ok (.bipush 10, 2) := by decide +kernel
theorem dX4_number_65 : decode cX4_number 65 = .ok (.iload_n 3, 1) := by decide +kernel
theorem dX4_number_66 : decode cX4_number 66 = .ok (.imul, 1) := by decide +kernel
theorem dX4_number_67 : decode cX4_number 67 = .ok (.aload_n 0, 1) := by decide +kernel
theorem dX4_number_68 : decode cX4_number 68 = .ok (.getfield 9, 3) := by decide +kernel
theorem dX4_number_71 : decode cX4_number 71 = .ok (.aload_n 0, 1) := by decide +kernel
theorem dX4_number_72 : decode cX4_number 72 = .ok (.getfield 26, 3) := by decide +kernel
theorem dX4_number_75 : decode cX4_number 75 = .ok (.iaload, 1) := by decide +kernel
theorem dX4_number_76 : decode cX4_number 76 = .ok (.iadd, 1) := by decide +kernel
theorem dX4_number_77 : decode cX4_number 77 = .ok (.bipush 48, 2) := by decide +kernel
theorem dX4_number_79 : decode cX4_number 79 = .ok (.isub, 1) := by decide +kernel
theorem dX4_number_80 : decode cX4_number 80 = .ok (.istore_n 3, 1) := by decide +kernel
theorem dX4_number_81 : decode cX4_number 81 = .ok (.aload_n 0, 1) := by decide +kernel
theorem dX4_number_82 : decode cX4_number 82 = .ok (.dup, 1) := by decide +kernel
theorem dX4_number_83 : decode cX4_number 83 = .ok (.getfield 26, 3) := by decide +kernel
theorem dX4_number_86 : decode cX4_number 86 = .ok (.iconst 1, 1) := by decide +kernel
theorem dX4_number_87 : decode cX4_number 87 = .ok (.iadd, 1) := by decide +kernel
theorem dX4_number_88 : decode cX4_number 88 = .ok (.putfield 26, 3) := by decide +kernel
theorem dX4_number_91 : decode cX4_number 91 = .ok (.iinc 4 1, 3) := by decide +kernel
theorem dX4_number_94 : decode cX4_number 94 = .ok (.goto (-63), 3) := by decide +kernel
theorem dX4_number_97 : decode cX4_number 97 = .ok (.iload_n 3, 1) := by decide +kernel
theorem dX4_number_98 : decode cX4_number 98 = .ok (.iload_n 1, 1) := by decide +kernel
theorem dX4_number_99 : decode cX4_number 99 = .ok (.if_icmp .le 11, 3) := by decide +kernel
theorem dX4_number_102 : decode cX4_number 102 = .ok (.aload_n 0, 1) := by decide +kernel
theorem dX4_number_103 : decode cX4_number 103 = .ok (.iload_n 2, 1) := by decide +kernel
theorem dX4_number_104 : decode cX4_number 104 = .ok (.invokevirtual 43, 3) := by decide +kernel
theorem dX4_number_107 : decode cX4_number 107 = .ok (.pop, 1) := by decide +kernel
theorem dX4_number_108 : decode cX4_number 108 = .ok (.iconst (-1), 1) := by decide +kernel
theorem dX4_number_109 : decode cX4_number 109 = .ok (.ireturn, 1) := by decide +kernel
theorem dX4_number_110 : decode cX4_number 110 = .ok (.iload_n 3, 1) := by decide +kernel
theorem dX4_number_111 : decode cX4_number 111 = .ok (.ireturn, 1) := by decide +kernel
theorem dX4_isDigit_0 : decode cX4_isDigit 0 = .ok (.iload_n 0, 1) := by decide +kernel
theorem dX4_isDigit_1 : decode cX4_isDigit 1 = .ok (.bipush 48, 2) := by decide +kernel
theorem dX4_isDigit_3 : decode cX4_isDigit 3 = .ok (.if_icmp .lt 13, 3) := by decide +kernel
theorem dX4_isDigit_6 : decode cX4_isDigit 6 = .ok (.iload_n 0, 1) := by decide +kernel
theorem dX4_isDigit_7 : decode cX4_isDigit 7 = .ok (.bipush 57, 2) := by decide +kernel
theorem dX4_isDigit_9 : decode cX4_isDigit 9 = .ok (.if_icmp .gt 7, 3) := by decide +kernel
theorem dX4_isDigit_12 : decode cX4_isDigit 12 = .ok (.iconst 1, 1) := by decide +kernel
theorem dX4_isDigit_13 : decode cX4_isDigit 13 = .ok (.goto 4, 3) := by decide +kernel
theorem dX4_isDigit_16 : decode cX4_isDigit 16 = .ok (.iconst 0, 1) := by decide +kernel
theorem dX4_isDigit_17 : decode cX4_isDigit 17 = .ok (.ireturn, 1) := by decide +kernel
theorem dX4_look_0 : decode cX4_look 0 = .ok (.aload_n 0, 1) := by decide +kernel
theorem dX4_look_1 : decode cX4_look 1 = .ok (.getfield 26, 3) := by decide +kernel
theorem dX4_look_4 : decode cX4_look 4 = .ok (.aload_n 0, 1) := by decide +kernel
theorem dX4_look_5 : decode cX4_look 5 = .ok (.getfield 22, 3) := by decide +kernel
theorem dX4_look_8 : decode cX4_look 8 = .ok (.if_icmp .ge 30, 3) := by decide +kernel
theorem dX4_look_11 : decode cX4_look 11 = .ok (.aload_n 0, 1) := by decide +kernel
theorem dX4_look_12 : decode cX4_look 12 = .ok (.getfield 9, 3) := by decide +kernel
theorem dX4_look_15 : decode cX4_look 15 = .ok (.aload_n 0, 1) := by decide +kernel
theorem dX4_look_16 : decode cX4_look 16 = .ok (.getfield 26, 3) := by decide +kernel
theorem dX4_look_19 : decode cX4_look 19 = .ok (.iaload, 1) := by decide +kernel
theorem dX4_look_20 : decode cX4_look 20 = .ok (.bipush 32, 2) := by decide +kernel
theorem dX4_look_22 : decode cX4_look 22 = .ok (.if_icmp .ne 16, 3) := by decide +kernel
theorem dX4_look_25 : decode cX4_look 25 = .ok (.aload_n 0, 1) := by decide +kernel
theorem dX4_look_26 : decode cX4_look 26 = .ok (.dup, 1) := by decide +kernel
theorem dX4_look_27 : decode cX4_look 27 = .ok (.getfield 26, 3) := by decide +kernel
theorem dX4_look_30 : decode cX4_look 30 = .ok (.iconst 1, 1) := by decide +kernel
theorem dX4_look_31 : decode cX4_look 31 = .ok (.iadd, 1) := by decide +kernel
theorem dX4_look_32 : decode cX4_look 32 = .ok (.putfield 26, 3) := by decide +kernel
theorem dX4_look_35 : decode cX4_look 35 = .ok (.goto (-35), 3) := by decide +kernel
theorem dX4_look_38 : decode cX4_look 38 = .ok (.aload_n 0, 1) := by decide +kernel
theorem dX4_look_39 : decode cX4_look 39 = .ok (.getfield 26, 3) := by decide +kernel
theorem dX4_look_42 : decode cX4_look 42 = .ok (.aload_n 0, 1) := by decide +kernel
theorem dX4_look_43 : decode cX4_look 43 = .ok (.getfield 22, 3) := by decide +kernel
theorem dX4_look_46 : decode cX4_look 46 = .ok (.if_icmp .ge 15, 3) := by decide +kernel
theorem dX4_look_49 : decode cX4_look 49 = .ok (.aload_n 0, 1) := by decide +kernel
theorem dX4_look_50 : decode cX4_look 50 = .ok (.getfield 9, 3) := by decide +kernel
theorem dX4_look_53 : decode cX4_look 53 = .ok (.aload_n 0, 1) := by decide +kernel
theorem dX4_look_54 : decode cX4_look 54 = .ok (.getfield 26, 3) := by decide +kernel
theorem dX4_look_57 : decode cX4_look 57 = .ok (.iaload, 1) := by decide +kernel
theorem dX4_look_58 : decode cX4_look 58 = .ok (.goto 4, 3) := by decide +kernel
theorem dX4_look_61 : decode cX4_look 61 = .ok (.iconst (-1), 1) := by decide +kernel
theorem dX4_look_62 : decode cX4_look 62 = .ok (.ireturn, 1) := by decide +kernel
theorem dX4_takes_0 : decode cX4_takes 0 = .ok (.aload_n 0, 1) := by decide +kernel
theorem dX4_takes_1 : decode cX4_takes 1 = .ok (.invokevirtual 53, 3) := by decide +kernel
theorem dX4_takes_4 : decode cX4_takes 4 = .ok (.iload_n 1, 1) := by decide +kernel
theorem dX4_takes_5 : decode cX4_takes 5 = .ok (.if_icmp .eq 5, 3) := by decide +kernel
theorem dX4_takes_8 : decode cX4_takes 8 = .ok (.iconst 0, 1) := by decide +kernel
theorem dX4_takes_9 : decode cX4_takes 9 = .ok (.ireturn, 1) := by decide +kernel
theorem dX4_takes_10 : decode cX4_takes 10 = .ok (.aload_n 0, 1) := by decide +kernel
theorem dX4_takes_11 : decode cX4_takes 11 = .ok (.dup, 1) := by decide +kernel
theorem dX4_takes_12 : decode cX4_takes 12 = .ok (.getfield 26, 3) := by decide +kernel
theorem dX4_takes_15 : decode cX4_takes 15 = .ok (.iconst 1, 1) := by decide +kernel
theorem dX4_takes_16 : decode cX4_takes 16 = .ok (.iadd, 1) := by decide +kernel
theorem dX4_takes_17 : decode cX4_takes 17 = .ok (.putfield 26, 3) := by decide +kernel
theorem dX4_takes_20 : decode cX4_takes 20 = .ok (.iconst 1, 1) := by decide +kernel
theorem dX4_takes_21 : decode cX4_takes 21 = .ok (.ireturn, 1) := by decide +kernel
theorem dX4_faultAt_0 : decode cX4_faultAt 0 = .ok (.aload_n 0, 1) := by decide +kernel
theorem dX4_faultAt_1 : decode cX4_faultAt 1 = .ok (.bipush (-20), 2) := by decide +kernel
theorem dX4_faultAt_3 : decode cX4_faultAt 3 = .ok (.iload_n 1, 1) := by decide +kernel
theorem dX4_faultAt_4 : decode cX4_faultAt 4 = .ok (.isub, 1) := by decide +kernel
theorem dX4_faultAt_5 : decode cX4_faultAt 5 = .ok (.putfield 79, 3) := by decide +kernel
theorem dX4_faultAt_8 : decode cX4_faultAt 8 = .ok (.iconst 0, 1) := by decide +kernel
theorem dX4_faultAt_9 : decode cX4_faultAt 9 = .ok (.ireturn, 1) := by decide +kernel
theorem dX5_init_0 : decode cX5_init 0 = .ok (.aload_n 0, 1) := by decide +kernel
theorem dX5_init_1 : decode cX5_init 1 = .ok (.invokespecial 1, 3) := by decide +kernel
theorem dX5_init_4 : decode cX5_init 4 = .ok (.aload_n 0, 1) := by decide +kernel
theorem dX5_init_5 : decode cX5_init 5 = .ok (.new 7, 3) := by decide +kernel
theorem dX5_init_8 : decode cX5_init 8 = .ok (.dup, 1) := by decide +kernel
theorem dX5_init_9 : decode cX5_init 9 = .ok (.invokespecial 9, 3) := by decide +kernel
theorem dX5_init_12 : decode cX5_init 12 = .ok (.putfield 10, 3) := by decide +kernel
theorem dX5_init_15 : decode cX5_init 15 = .ok (.aload_n 0, 1) := by decide +kernel
theorem dX5_init_16 : decode cX5_init 16 = .ok (.new 7, 3) := by decide +kernel
theorem dX5_init_19 : decode cX5_init 19 = .ok (.dup, 1) := by decide +kernel
theorem dX5_init_20 : decode cX5_init 20 = .ok (.invokespecial 9, 3) := by decide +kernel
theorem dX5_init_23 : decode cX5_init 23 = .ok (.putfield 16, 3) := by decide +kernel
theorem dX5_init_26 : decode cX5_init 26 = .ok (.aload_n 0, 1) := by decide +kernel
theorem dX5_init_27 : decode cX5_init 27 = .ok (.new 19, 3) := by decide +kernel
theorem dX5_init_30 : decode cX5_init 30 = .ok (.dup, 1) := by decide +kernel
theorem dX5_init_31 : decode cX5_init 31 = .ok (.invokespecial 21, 3) := by decide +kernel
theorem dX5_init_34 : decode cX5_init 34 = .ok (.putfield 22, 3) := by decide +kernel
theorem dX5_init_37 : decode cX5_init 37 = .ok (.aload_n 0, 1) := by decide +kernel
theorem dX5_init_38 : decode cX5_init 38 = .ok (.new 26, 3) := by decide +kernel
theorem dX5_init_41 : decode cX5_init 41 = .ok (.dup, 1) := by decide +kernel
theorem dX5_init_42 : decode cX5_init 42 = .ok (.invokespecial 28, 3) := by decide +kernel
theorem dX5_init_45 : decode cX5_init 45 = .ok (.putfield 29, 3) := by decide +kernel
theorem dX5_init_48 : decode cX5_init 48 = .ok (.aload_n 0, 1) := by decide +kernel
theorem dX5_init_49 : decode cX5_init 49 = .ok (.new 33, 3) := by decide +kernel
theorem dX5_init_52 : decode cX5_init 52 = .ok (.dup, 1) := by decide +kernel
theorem dX5_init_53 : decode cX5_init 53 = .ok (.invokespecial 35, 3) := by decide +kernel
theorem dX5_init_56 : decode cX5_init 56 = .ok (.putfield 36, 3) := by decide +kernel
theorem dX5_init_59 : decode cX5_init 59 = .ok (.aload_n 0, 1) := by decide +kernel
theorem dX5_init_60 : decode cX5_init 60 = .ok (.iconst 4, 1) := by decide +kernel
theorem dX5_init_61 : decode cX5_init 61 = .ok (.anewarray 40, 3) := by decide +kernel
theorem dX5_init_64 : decode cX5_init 64 = .ok (.putfield 42, 3) := by decide +kernel
theorem dX5_init_67 : decode cX5_init 67 = .ok (.iconst 0, 1) := by decide +kernel
theorem dX5_init_68 : decode cX5_init 68 = .ok (.istore_n 1, 1) := by decide +kernel
theorem dX5_init_69 : decode cX5_init 69 = .ok (.iload_n 1, 1) := by decide +kernel
theorem dX5_init_70 : decode cX5_init 70 = .ok (.iconst 4, 1) := by decide +kernel
theorem dX5_init_71 : decode cX5_init 71 = .ok (.if_icmp .ge 22, 3) := by decide +kernel
theorem dX5_init_74 : decode cX5_init 74 = .ok (.aload_n 0, 1) := by decide +kernel
theorem dX5_init_75 : decode cX5_init 75 = .ok (.getfield 42, 3) := by decide +kernel
theorem dX5_init_78 : decode cX5_init 78 = .ok (.iload_n 1, 1) := by decide +kernel

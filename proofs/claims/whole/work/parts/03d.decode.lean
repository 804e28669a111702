theorem dX6_pay_80 : decode cX6_pay 80 = .ok (.iaload, 1) := by decide +kernel
theorem dX6_pay_81 : decode cX6_pay 81 = .ok (.ireturn, 1) := by decide +kernel
theorem dX6_drive_0 : decode cX6_drive 0 = .ok (.aload_n 0, 1) := by decide +kernel
theorem dX6_drive_1 : decode cX6_drive 1 = .ok (.iload_n 1, 1) := by decide +kernel
theorem dX6_drive_2 : decode cX6_drive 2 = .ok (.invokevirtual 71, 3) := by decide +kernel
theorem dX6_drive_5 : decode cX6_drive 5 = .ok (.ifCond .eq 11, 3) := by decide +kernel
theorem dX6_drive_8 : decode cX6_drive 8 = .ok (.aload_n 0, 1) := by decide +kernel
theorem dX6_drive_9 : decode cX6_drive 9 = .ok (.iload_n 2, 1) := by decide +kernel
theorem dX6_drive_10 : decode cX6_drive 10 = .ok (.invokevirtual 55, 3) := by decide +kernel
theorem dX6_drive_13 : decode cX6_drive 13 = .ok (.ifCond .ne 5, 3) := by decide +kernel
theorem dX6_drive_16 : decode cX6_drive 16 = .ok (.iconst (-1), 1) := by decide +kernel
theorem dX6_drive_17 : decode cX6_drive 17 = .ok (.ireturn, 1) := by decide +kernel
theorem dX6_drive_18 : decode cX6_drive 18 = .ok (.aload_n 0, 1) := by decide +kernel
theorem dX6_drive_19 : decode cX6_drive 19 = .ok (.getfield 23, 3) := by decide +kernel
theorem dX6_drive_22 : decode cX6_drive 22 = .ok (.bipush 21, 2) := by decide +kernel
theorem dX6_drive_24 : decode cX6_drive 24 = .ok (.iload_n 1, 1) := by decide +kernel
theorem dX6_drive_25 : decode cX6_drive 25 = .ok (.iadd, 1) := by decide +kernel
theorem dX6_drive_26 : decode cX6_drive 26 = .ok (.iaload, 1) := by decide +kernel
theorem dX6_drive_27 : decode cX6_drive 27 = .ok (.istore_n 3, 1) := by decide +kernel
theorem dX6_drive_28 : decode cX6_drive 28 = .ok (.iload_n 3, 1) := by decide +kernel
theorem dX6_drive_29 : decode cX6_drive 29 = .ok (.iload_n 2, 1) := by decide +kernel
theorem dX6_drive_30 : decode cX6_drive 30 = .ok (.if_icmp .ne 6, 3) := by decide +kernel
theorem dX6_drive_33 : decode cX6_drive 33 = .ok (.bipush (-2), 2) := by decide +kernel
theorem dX6_drive_35 : decode cX6_drive 35 = .ok (.ireturn, 1) := by decide +kernel
theorem dX6_drive_36 : decode cX6_drive 36 = .ok (.aload_n 0, 1) := by decide +kernel
theorem dX6_drive_37 : decode cX6_drive 37 = .ok (.invokevirtual 145, 3) := by decide +kernel
theorem dX6_drive_40 : decode cX6_drive 40 = .ok (.aload_n 0, 1) := by decide +kernel
theorem dX6_drive_41 : decode cX6_drive 41 = .ok (.getfield 23, 3) := by decide +kernel
theorem dX6_drive_44 : decode cX6_drive 44 = .ok (.bipush 21, 2) := by decide +kernel
theorem dX6_drive_46 : decode cX6_drive 46 = .ok (.iload_n 1, 1) := by decide +kernel
theorem dX6_drive_47 : decode cX6_drive 47 = .ok (.iadd, 1) := by decide +kernel
theorem dX6_drive_48 : decode cX6_drive 48 = .ok (.iload_n 2, 1) := by decide +kernel
theorem dX6_drive_49 : decode cX6_drive 49 = .ok (.iastore, 1) := by decide +kernel
theorem dX6_drive_50 : decode cX6_drive 50 = .ok (.iload_n 3, 1) := by decide +kernel
theorem dX6_drive_51 : decode cX6_drive 51 = .ok (.ireturn, 1) := by decide +kernel
theorem dX6_forgive_0 : decode cX6_forgive 0 = .ok (.aload_n 0, 1) := by decide +kernel
theorem dX6_forgive_1 : decode cX6_forgive 1 = .ok (.iload_n 1, 1) := by decide +kernel
theorem dX6_forgive_2 : decode cX6_forgive 2 = .ok (.invokevirtual 55, 3) := by decide +kernel
theorem dX6_forgive_5 : decode cX6_forgive 5 = .ok (.ifCond .ne 5, 3) := by decide +kernel
theorem dX6_forgive_8 : decode cX6_forgive 8 = .ok (.iconst (-1), 1) := by decide +kernel
theorem dX6_forgive_9 : decode cX6_forgive 9 = .ok (.ireturn, 1) := by decide +kernel
theorem dX6_forgive_10 : decode cX6_forgive 10 = .ok (.aload_n 0, 1) := by decide +kernel
theorem dX6_forgive_11 : decode cX6_forgive 11 = .ok (.getfield 23, 3) := by decide +kernel
theorem dX6_forgive_14 : decode cX6_forgive 14 = .ok (.bipush 15, 2) := by decide +kernel
theorem dX6_forgive_16 : decode cX6_forgive 16 = .ok (.iload_n 1, 1) := by decide +kernel
theorem dX6_forgive_17 : decode cX6_forgive 17 = .ok (.iadd, 1) := by decide +kernel
theorem dX6_forgive_18 : decode cX6_forgive 18 = .ok (.iaload, 1) := by decide +kernel
theorem dX6_forgive_19 : decode cX6_forgive 19 = .ok (.istore_n 2, 1) := by decide +kernel
theorem dX6_forgive_20 : decode cX6_forgive 20 = .ok (.iload_n 2, 1) := by decide +kernel
theorem dX6_forgive_21 : decode cX6_forgive 21 = .ok (.ifCond .ne 6, 3) := by decide +kernel
theorem dX6_forgive_24 : decode cX6_forgive 24 = .ok (.bipush (-2), 2) := by decide +kernel
theorem dX6_forgive_26 : decode cX6_forgive 26 = .ok (.ireturn, 1) := by decide +kernel
theorem dX6_forgive_27 : decode cX6_forgive 27 = .ok (.aload_n 0, 1) := by decide +kernel
theorem dX6_forgive_28 : decode cX6_forgive 28 = .ok (.invokevirtual 145, 3) := by decide +kernel
theorem dX6_forgive_31 : decode cX6_forgive 31 = .ok (.aload_n 0, 1) := by decide +kernel
theorem dX6_forgive_32 : decode cX6_forgive 32 = .ok (.getfield 23, 3) := by decide +kernel
theorem dX6_forgive_35 : decode cX6_forgive 35 = .ok (.bipush 15, 2) := by decide +kernel
theorem dX6_forgive_37 : decode cX6_forgive 37 = .ok (.iload_n 1, 1) := by decide +kernel
theorem dX6_forgive_38 : decode cX6_forgive 38 = .ok (.iadd, 1) := by decide +kernel
theorem dX6_forgive_39 : decode cX6_forgive 39 = .ok (.iconst 0, 1) := by decide +kernel
theorem dX6_forgive_40 : decode cX6_forgive 40 = .ok (.iastore, 1) := by decide +kernel
theorem dX6_forgive_41 : decode cX6_forgive 41 = .ok (.iload_n 2, 1) := by decide +kernel
theorem dX6_forgive_42 : decode cX6_forgive 42 = .ok (.ireturn, 1) := by decide +kernel
theorem dX6_drift_0 : decode cX6_drift 0 = .ok (.iload_n 1, 1) := by decide +kernel
theorem dX6_drift_1 : decode cX6_drift 1 = .ok (.iconst 1, 1) := by decide +kernel
theorem dX6_drift_2 : decode cX6_drift 2 = .ok (.bipush 40, 2) := by decide +kernel
theorem dX6_drift_4 : decode cX6_drift 4 = .ok (.invokestatic 47, 3) := by decide +kernel
theorem dX6_drift_7 : decode cX6_drift 7 = .ok (.ifCond .ne 5, 3) := by decide +kernel
theorem dX6_drift_10 : decode cX6_drift 10 = .ok (.iconst (-1), 1) := by decide +kernel
theorem dX6_drift_11 : decode cX6_drift 11 = .ok (.ireturn, 1) := by decide +kernel
theorem dX6_drift_12 : decode cX6_drift 12 = .ok (.aload_n 0, 1) := by decide +kernel
theorem dX6_drift_13 : decode cX6_drift 13 = .ok (.getfield 23, 3) := by decide +kernel
theorem dX6_drift_16 : decode cX6_drift 16 = .ok (.iconst 0, 1) := by decide +kernel
theorem dX6_drift_17 : decode cX6_drift 17 = .ok (.iaload, 1) := by decide +kernel
theorem dX6_drift_18 : decode cX6_drift 18 = .ok (.iload_n 1, 1) := by decide +kernel
theorem dX6_drift_19 : decode cX6_drift 19 = .ok (.iadd, 1) := by decide +kernel
theorem dX6_drift_20 : decode cX6_drift 20 = .ok (.sipush 9999, 3) := by decide +kernel
theorem dX6_drift_23 : decode cX6_drift 23 = .ok (.if_icmp .le 6, 3) := by decide +kernel
theorem dX6_drift_26 : decode cX6_drift 26 = .ok (.bipush (-3), 2) := by decide +kernel
theorem dX6_drift_28 : decode cX6_drift 28 = .ok (.ireturn, 1) := by decide +kernel
theorem dX6_drift_29 : decode cX6_drift 29 = .ok (.iconst 0, 1) := by decide +kernel
theorem dX6_drift_30 : decode cX6_drift 30 = .ok (.istore_n 2, 1) := by decide +kernel
theorem dX6_drift_31 : decode cX6_drift 31 = .ok (.iload_n 2, 1) := by decide +kernel
theorem dX6_drift_32 : decode cX6_drift 32 = .ok (.iload_n 1, 1) := by decide +kernel
theorem dX6_drift_33 : decode cX6_drift 33 = .ok (.if_icmp .ge 96, 3) := by decide +kernel
theorem dX6_drift_36 : decode cX6_drift 36 = .ok (.aload_n 0, 1) := by decide +kernel
theorem dX6_drift_37 : decode cX6_drift 37 = .ok (.invokevirtual 145, 3) := by decide +kernel
theorem dX6_drift_40 : decode cX6_drift 40 = .ok (.aload_n 0, 1) := by decide +kernel
theorem dX6_drift_41 : decode cX6_drift 41 = .ok (.getfield 23, 3) := by decide +kernel
theorem dX6_drift_44 : decode cX6_drift 44 = .ok (.iconst 1, 1) := by decide +kernel
theorem dX6_drift_45 : decode cX6_drift 45 = .ok (.aload_n 0, 1) := by decide +kernel
theorem dX6_drift_46 : decode cX6_drift 46 = .ok (.getfield 23, 3) := by decide +kernel
theorem dX6_drift_49 : decode cX6_drift 49 = .ok (.iconst 1, 1) := by decide +kernel
theorem dX6_drift_50 : decode cX6_drift 50 = .ok (.iaload, 1) := by decide +kernel
theorem dX6_drift_51 : decode cX6_drift 51 = .ok (.i2l, 1) := by decide +kernel
theorem dX6_drift_52 : decode cX6_drift 52 = .ok (.ldc2_w 151, 3) := by decide +kernel
theorem dX6_drift_55 : decode cX6_drift 55 = .ok (.lmul, 1) := by decide +kernel
theorem dX6_drift_56 : decode cX6_drift 56 = .ok (.ldc2_w 153, 3) := by decide +kernel
theorem dX6_drift_59 : decode cX6_drift 59 = .ok (.ladd, 1) := by decide +kernel
theorem dX6_drift_60 : decode cX6_drift 60 = .ok (.ldc2_w 155, 3) := by decide +kernel
theorem dX6_drift_63 : decode cX6_drift 63 = .ok (.lrem, 1) := by decide +kernel
theorem dX6_drift_64 : decode cX6_drift 64 = .ok (.l2i, 1) := by decide +kernel
theorem dX6_drift_65 : decode cX6_drift 65 = .ok (.iastore, 1) := by decide +kernel
theorem dX6_drift_66 : decode cX6_drift 66 = .ok (.aload_n 0, 1) := by decide +kernel
theorem dX6_drift_67 : decode cX6_drift 67 = .ok (.getfield 23, 3) := by decide +kernel
theorem dX6_drift_70 : decode cX6_drift 70 = .ok (.bipush 27, 2) := by decide +kernel
theorem dX6_drift_72 : decode cX6_drift 72 = .ok (.iaload, 1) := by decide +kernel
theorem dX6_drift_73 : decode cX6_drift 73 = .ok (.ifCond .le 41, 3) := by decide +kernel
theorem dX6_drift_76 : decode cX6_drift 76 = .ok (.aload_n 0, 1) := by decide +kernel
theorem dX6_drift_77 : decode cX6_drift 77 = .ok (.getfield 23, 3) := by decide +kernel
theorem dX6_drift_80 : decode cX6_drift 80 = .ok (.bipush 9, 2) := by decide +kernel
theorem dX6_drift_82 : decode cX6_drift 82 = .ok (.aload_n 0, 1) := by decide +kernel
theorem dX6_drift_83 : decode cX6_drift 83 = .ok (.getfield 23, 3) := by decide +kernel
theorem dX6_drift_86 : decode cX6_drift 86 = .ok (.iconst 1, 1) := by decide +kernel
theorem dX6_drift_87 : decode cX6_drift 87 = .ok (.iaload, 1) := by decide +kernel
theorem dX6_drift_88 : decode cX6_drift 88 = .ok (.ldc 157, 2) := by decide +kernel
theorem dX6_drift_90 : decode cX6_drift 90 = .ok (.idiv, 1) := by decide +kernel
theorem dX6_drift_91 : decode cX6_drift 91 = .ok (.aload_n 0, 1) := by decide +kernel
theorem dX6_drift_92 : decode cX6_drift 92 = .ok (.getfield 23, 3) := by decide +kernel
theorem dX6_drift_95 : decode cX6_drift 95 = .ok (.bipush 27, 2) := by decide +kernel
theorem dX6_drift_97 : decode cX6_drift 97 = .ok (.iaload, 1) := by decide +kernel
theorem dX6_drift_98 : decode cX6_drift 98 = .ok (.irem, 1) := by decide +kernel
theorem dX6_drift_99 : decode cX6_drift 99 = .ok (.iadd, 1) := by decide +kernel
theorem dX6_drift_100 : decode cX6_drift 100 = .ok (.aload_n 0, 1) := by decide +kernel
theorem dX6_drift_101 : decode cX6_drift 101 = .ok (.getfield 23, 3) := by decide +kernel
theorem dX6_drift_104 : decode cX6_drift 104 = .ok (.iconst 1, 1) := by decide +kernel
theorem dX6_drift_105 : decode cX6_drift 105 = .ok (.iaload, 1) := by decide +kernel
theorem dX6_drift_106 : decode cX6_drift 106 = .ok (.sipush 128, 3) := by decide +kernel
theorem dX6_drift_109 : decode cX6_drift 109 = .ok (.idiv, 1) := by decide +kernel
theorem dX6_drift_110 : decode cX6_drift 110 = .ok (.bipush 21, 2) := by decide +kernel
theorem dX6_drift_112 : decode cX6_drift 112 = .ok (.irem, 1) := by decide +kernel
theorem dX6_drift_113 : decode cX6_drift 113 = .ok (.iastore, 1) := by decide +kernel
theorem dX6_drift_114 : decode cX6_drift 114 = .ok (.aload_n 0, 1) := by decide +kernel
theorem dX6_drift_115 : decode cX6_drift 115 = .ok (.aload_n 0, 1) := by decide +kernel
theorem dX6_drift_116 : decode cX6_drift 116 = .ok (.getfield 23, 3) := by decide +kernel
theorem dX6_drift_119 : decode cX6_drift 119 = .ok (.iconst 0, 1) := by decide +kernel
theorem dX6_drift_120 : decode cX6_drift 120 = .ok (.invokevirtual 148, 3) := by decide +kernel
theorem dX6_drift_123 : decode cX6_drift 123 = .ok (.iinc 2 1, 3) := by decide +kernel
theorem dX6_drift_126 : decode cX6_drift 126 = .ok (.goto (-95), 3) := by decide +kernel
theorem dX6_drift_129 : decode cX6_drift 129 = .ok (.aload_n 0, 1) := by decide +kernel
theorem dX6_drift_130 : decode cX6_drift 130 = .ok (.getfield 23, 3) := by decide +kernel
theorem dX6_drift_133 : decode cX6_drift 133 = .ok (.invokestatic 119, 3) := by decide +kernel
theorem dX6_drift_136 : decode cX6_drift 136 = .ok (.ireturn, 1) := by decide +kernel
theorem dX6_undo_0 : decode cX6_undo 0 = .ok (.aload_n 0, 1) := by decide +kernel
theorem dX6_undo_1 : decode cX6_undo 1 = .ok (.getfield 23, 3) := by decide +kernel
theorem dX6_undo_4 : decode cX6_undo 4 = .ok (.bipush 39, 2) := by decide +kernel
theorem dX6_undo_6 : decode cX6_undo 6 = .ok (.iaload, 1) := by decide +kernel
theorem dX6_undo_7 : decode cX6_undo 7 = .ok (.ifCond .ne 6, 3) := by decide +kernel
theorem dX6_undo_10 : decode cX6_undo 10 = .ok (.bipush (-4), 2) := by decide +kernel
theorem dX6_undo_12 : decode cX6_undo 12 = .ok (.ireturn, 1) := by decide +kernel
theorem dX6_undo_13 : decode cX6_undo 13 = .ok (.aload_n 0, 1) := by decide +kernel
theorem dX6_undo_14 : decode cX6_undo 14 = .ok (.getfield 23, 3) := by decide +kernel
theorem dX6_undo_17 : decode cX6_undo 17 = .ok (.bipush 39, 2) := by decide +kernel
theorem dX6_undo_19 : decode cX6_undo 19 = .ok (.dup2, 1) := by decide +kernel
theorem dX6_undo_20 : decode cX6_undo 20 = .ok (.iaload, 1) := by decide +kernel
theorem dX6_undo_21 : decode cX6_undo 21 = .ok (.iconst 1, 1) := by decide +kernel
theorem dX6_undo_22 : decode cX6_undo 22 = .ok (.isub, 1) := by decide +kernel
theorem dX6_undo_23 : decode cX6_undo 23 = .ok (.iastore, 1) := by decide +kernel
theorem dX6_undo_24 : decode cX6_undo 24 = .ok (.aload_n 0, 1) := by decide +kernel
theorem dX6_undo_25 : decode cX6_undo 25 = .ok (.getfield 23, 3) := by decide +kernel
theorem dX6_undo_28 : decode cX6_undo 28 = .ok (.bipush 40, 2) := by decide +kernel
theorem dX6_undo_30 : decode cX6_undo 30 = .ok (.bipush 26, 2) := by decide +kernel
theorem dX6_undo_32 : decode cX6_undo 32 = .ok (.aload_n 0, 1) := by decide +kernel
theorem dX6_undo_33 : decode cX6_undo 33 = .ok (.getfield 23, 3) := by decide +kernel
theorem dX6_undo_36 : decode cX6_undo 36 = .ok (.bipush 39, 2) := by decide +kernel
theorem dX6_undo_38 : decode cX6_undo 38 = .ok (.iaload, 1) := by decide +kernel
theorem dX6_undo_39 : decode cX6_undo 39 = .ok (.imul, 1) := by decide +kernel
theorem dX6_undo_40 : decode cX6_undo 40 = .ok (.iadd, 1) := by decide +kernel
theorem dX6_undo_41 : decode cX6_undo 41 = .ok (.aload_n 0, 1) := by decide +kernel
theorem dX6_undo_42 : decode cX6_undo 42 = .ok (.getfield 23, 3) := by decide +kernel
theorem dX6_undo_45 : decode cX6_undo 45 = .ok (.iconst 0, 1) := by decide +kernel
theorem dX6_undo_46 : decode cX6_undo 46 = .ok (.bipush 26, 2) := by decide +kernel
theorem dX6_undo_48 : decode cX6_undo 48 = .ok (.invokestatic 115, 3) := by decide +kernel
theorem dX6_undo_51 : decode cX6_undo 51 = .ok (.aload_n 0, 1) := by decide +kernel
theorem dX6_undo_52 : decode cX6_undo 52 = .ok (.getfield 23, 3) := by decide +kernel
theorem dX6_undo_55 : decode cX6_undo 55 = .ok (.bipush 39, 2) := by decide +kernel
theorem dX6_undo_57 : decode cX6_undo 57 = .ok (.iaload, 1) := by decide +kernel
theorem dX6_undo_58 : decode cX6_undo 58 = .ok (.ireturn, 1) := by decide +kernel
theorem dX6_seed_0 : decode cX6_seed 0 = .ok (.iload_n 1, 1) := by decide +kernel
theorem dX6_seed_1 : decode cX6_seed 1 = .ok (.ifCond .ge 5, 3) := by decide +kernel
theorem dX6_seed_4 : decode cX6_seed 4 = .ok (.iconst (-1), 1) := by decide +kernel
theorem dX6_seed_5 : decode cX6_seed 5 = .ok (.ireturn, 1) := by decide +kernel
theorem dX6_seed_6 : decode cX6_seed 6 = .ok (.aload_n 0, 1) := by decide +kernel
theorem dX6_seed_7 : decode cX6_seed 7 = .ok (.getfield 23, 3) := by decide +kernel
theorem dX6_seed_10 : decode cX6_seed 10 = .ok (.iconst 1, 1) := by decide +kernel
theorem dX6_seed_11 : decode cX6_seed 11 = .ok (.iaload, 1) := by decide +kernel
theorem dX6_seed_12 : decode cX6_seed 12 = .ok (.istore_n 2, 1) := by decide +kernel
theorem dX6_seed_13 : decode cX6_seed 13 = .ok (.aload_n 0, 1) := by decide +kernel
theorem dX6_seed_14 : decode cX6_seed 14 = .ok (.getfield 23, 3) := by decide +kernel
theorem dX6_seed_17 : decode cX6_seed 17 = .ok (.iconst 1, 1) := by decide +kernel
theorem dX6_seed_18 : decode cX6_seed 18 = .ok (.iload_n 1, 1) := by decide +kernel
theorem dX6_seed_19 : decode cX6_seed 19 = .ok (.iastore, 1) := by decide +kernel
theorem dX6_seed_20 : decode cX6_seed 20 = .ok (.iload_n 2, 1) := by decide +kernel
theorem dX6_seed_21 : decode cX6_seed 21 = .ok (.ireturn, 1) := by decide +kernel
theorem dX6_begin_0 : decode cX6_begin 0 = .ok (.aload_n 0, 1) := by decide +kernel
theorem dX6_begin_1 : decode cX6_begin 1 = .ok (.getfield 23, 3) := by decide +kernel
theorem dX6_begin_4 : decode cX6_begin 4 = .ok (.iconst 0, 1) := by decide +kernel
theorem dX6_begin_5 : decode cX6_begin 5 = .ok (.aload_n 0, 1) := by decide +kernel
theorem dX6_begin_6 : decode cX6_begin 6 = .ok (.getfield 26, 3) := by decide +kernel
theorem dX6_begin_9 : decode cX6_begin 9 = .ok (.iconst 0, 1) := by decide +kernel
theorem dX6_begin_10 : decode cX6_begin 10 = .ok (.sipush 248, 3) := by decide +kernel
theorem dX6_begin_13 : decode cX6_begin 13 = .ok (.invokestatic 115, 3) := by decide +kernel
theorem dX6_begin_16 : decode cX6_begin 16 = .ok (.iconst 0, 1) := by decide +kernel
theorem dX6_begin_17 : decode cX6_begin 17 = .ok (.istore_n 1, 1) := by decide +kernel
theorem dX6_begin_18 : decode cX6_begin 18 = .ok (.iload_n 1, 1) := by decide +kernel
theorem dX6_begin_19 : decode cX6_begin 19 = .ok (.bipush 6, 2) := by decide +kernel
theorem dX6_begin_21 : decode cX6_begin 21 = .ok (.if_icmp .ge 16, 3) := by decide +kernel
theorem dX6_begin_24 : decode cX6_begin 24 = .ok (.aload_n 0, 1) := by decide +kernel
theorem dX6_begin_25 : decode cX6_begin 25 = .ok (.getfield 38, 3) := by decide +kernel
theorem dX6_begin_28 : decode cX6_begin 28 = .ok (.iload_n 1, 1) := by decide +kernel
theorem dX6_begin_29 : decode cX6_begin 29 = .ok (.iconst 0, 1) := by decide +kernel
theorem dX6_begin_30 : decode cX6_begin 30 = .ok (.iastore, 1) := by decide +kernel
theorem dX6_begin_31 : decode cX6_begin 31 = .ok (.iinc 1 1, 3) := by decide +kernel
theorem dX6_begin_34 : decode cX6_begin 34 = .ok (.goto (-16), 3) := by decide +kernel
theorem dX6_begin_37 : decode cX6_begin 37 = .ok (.return_, 1) := by decide +kernel
theorem dX6_goOn_0 : decode cX6_goOn 0 = .ok (.iconst 0, 1) := by decide +kernel
theorem dX6_goOn_1 : decode cX6_goOn 1 = .ok (.istore_n 2, 1) := by decide +kernel
theorem dX6_goOn_2 : decode cX6_goOn 2 = .ok (.iload_n 2, 1) := by decide +kernel
theorem dX6_goOn_3 : decode cX6_goOn 3 = .ok (.iload_n 1, 1) := by decide +kernel
theorem dX6_goOn_4 : decode cX6_goOn 4 = .ok (.if_icmp .ge 18, 3) := by decide +kernel
theorem dX6_goOn_7 : decode cX6_goOn 7 = .ok (.aload_n 0, 1) := by decide +kernel
theorem dX6_goOn_8 : decode cX6_goOn 8 = .ok (.aload_n 0, 1) := by decide +kernel
theorem dX6_goOn_9 : decode cX6_goOn 9 = .ok (.getfield 26, 3) := by decide +kernel
theorem dX6_goOn_12 : decode cX6_goOn 12 = .ok (.iconst 0, 1) := by decide +kernel
theorem dX6_goOn_13 : decode cX6_goOn 13 = .ok (.invokevirtual 148, 3) := by decide +kernel
theorem dX6_goOn_16 : decode cX6_goOn 16 = .ok (.iinc 2 1, 3) := by decide +kernel
theorem dX6_goOn_19 : decode cX6_goOn 19 = .ok (.goto (-17), 3) := by decide +kernel
theorem dX6_goOn_22 : decode cX6_goOn 22 = .ok (.return_, 1) := by decide +kernel
theorem dX6_ahead_0 : decode cX6_ahead 0 = .ok (.aload_n 0, 1) := by decide +kernel
theorem dX6_ahead_1 : decode cX6_ahead 1 = .ok (.iload_n 1, 1) := by decide +kernel
theorem dX6_ahead_2 : decode cX6_ahead 2 = .ok (.invokevirtual 55, 3) := by decide +kernel
theorem dX6_ahead_5 : decode cX6_ahead 5 = .ok (.ifCond .eq 22, 3) := by decide +kernel
theorem dX6_ahead_8 : decode cX6_ahead 8 = .ok (.iload_n 2, 1) := by decide +kernel
theorem dX6_ahead_9 : decode cX6_ahead 9 = .ok (.iconst 0, 1) := by decide +kernel
theorem dX6_ahead_10 : decode cX6_ahead 10 = .ok (.bipush 60, 2) := by decide +kernel
theorem dX6_ahead_12 : decode cX6_ahead 12 = .ok (.invokestatic 47, 3) := by decide +kernel
theorem dX6_ahead_15 : decode cX6_ahead 15 = .ok (.ifCond .eq 12, 3) := by decide +kernel
theorem dX6_ahead_18 : decode cX6_ahead 18 = .ok (.iload_n 3, 1) := by decide +kernel
theorem dX6_ahead_19 : decode cX6_ahead 19 = .ok (.iconst 0, 1) := by decide +kernel
theorem dX6_ahead_20 : decode cX6_ahead 20 = .ok (.iconst 1, 1) := by decide +kernel
theorem dX6_ahead_21 : decode cX6_ahead 21 = .ok (.invokestatic 47, 3) := by decide +kernel
theorem dX6_ahead_24 : decode cX6_ahead 24 = .ok (.ifCond .ne 5, 3) := by decide +kernel
theorem dX6_ahead_27 : decode cX6_ahead 27 = .ok (.iconst (-1), 1) := by decide +kernel
theorem dX6_ahead_28 : decode cX6_ahead 28 = .ok (.ireturn, 1) := by decide +kernel
theorem dX6_ahead_29 : decode cX6_ahead 29 = .ok (.aload_n 0, 1) := by decide +kernel
theorem dX6_ahead_30 : decode cX6_ahead 30 = .ok (.invokevirtual 158, 3) := by decide +kernel
theorem dX6_ahead_33 : decode cX6_ahead 33 = .ok (.aload_n 0, 1) := by decide +kernel
theorem dX6_ahead_34 : decode cX6_ahead 34 = .ok (.iload_n 2, 1) := by decide +kernel
theorem dX6_ahead_35 : decode cX6_ahead 35 = .ok (.invokevirtual 161, 3) := by decide +kernel
theorem dX6_ahead_38 : decode cX6_ahead 38 = .ok (.iload_n 3, 1) := by decide +kernel
theorem dX6_ahead_39 : decode cX6_ahead 39 = .ok (.ifCond .ne 14, 3) := by decide +kernel
theorem dX6_ahead_42 : decode cX6_ahead 42 = .ok (.aload_n 0, 1) := by decide +kernel
theorem dX6_ahead_43 : decode cX6_ahead 43 = .ok (.getfield 26, 3) := by decide +kernel
theorem dX6_ahead_46 : decode cX6_ahead 46 = .ok (.iconst 3, 1) := by decide +kernel
theorem dX6_ahead_47 : decode cX6_ahead 47 = .ok (.iload_n 1, 1) := by decide +kernel
theorem dX6_ahead_48 : decode cX6_ahead 48 = .ok (.iadd, 1) := by decide +kernel
theorem dX6_ahead_49 : decode cX6_ahead 49 = .ok (.iaload, 1) := by decide +kernel
theorem dX6_ahead_50 : decode cX6_ahead 50 = .ok (.goto 12, 3) := by decide +kernel
theorem dX6_ahead_53 : decode cX6_ahead 53 = .ok (.aload_n 0, 1) := by decide +kernel
theorem dX6_ahead_54 : decode cX6_ahead 54 = .ok (.getfield 26, 3) := by decide +kernel
theorem dX6_ahead_57 : decode cX6_ahead 57 = .ok (.bipush 15, 2) := by decide +kernel
theorem dX6_ahead_59 : decode cX6_ahead 59 = .ok (.iload_n 1, 1) := by decide +kernel
theorem dX6_ahead_60 : decode cX6_ahead 60 = .ok (.iadd, 1) := by decide +kernel
theorem dX6_ahead_61 : decode cX6_ahead 61 = .ok (.iaload, 1) := by decide +kernel
theorem dX6_ahead_62 : decode cX6_ahead 62 = .ok (.ireturn, 1) := by decide +kernel
theorem dX6_where_0 : decode cX6_where 0 = .ok (.aload_n 0, 1) := by decide +kernel
theorem dX6_where_1 : decode cX6_where 1 = .ok (.iload_n 1, 1) := by decide +kernel
theorem dX6_where_2 : decode cX6_where 2 = .ok (.invokevirtual 71, 3) := by decide +kernel
theorem dX6_where_5 : decode cX6_where 5 = .ok (.ifCond .eq 13, 3) := by decide +kernel
theorem dX6_where_8 : decode cX6_where 8 = .ok (.iload_n 2, 1) := by decide +kernel
theorem dX6_where_9 : decode cX6_where 9 = .ok (.iconst 0, 1) := by decide +kernel
theorem dX6_where_10 : decode cX6_where 10 = .ok (.bipush 60, 2) := by decide +kernel
theorem dX6_where_12 : decode cX6_where 12 = .ok (.invokestatic 47, 3) := by decide +kernel
theorem dX6_where_15 : decode cX6_where 15 = .ok (.ifCond .ne 5, 3) := by decide +kernel
theorem dX6_where_18 : decode cX6_where 18 = .ok (.iconst (-1), 1) := by decide +kernel
theorem dX6_where_19 : decode cX6_where 19 = .ok (.ireturn, 1) := by decide +kernel
theorem dX6_where_20 : decode cX6_where 20 = .ok (.aload_n 0, 1) := by decide +kernel
theorem dX6_where_21 : decode cX6_where 21 = .ok (.invokevirtual 158, 3) := by decide +kernel
theorem dX6_where_24 : decode cX6_where 24 = .ok (.aload_n 0, 1) := by decide +kernel
theorem dX6_where_25 : decode cX6_where 25 = .ok (.iload_n 2, 1) := by decide +kernel
theorem dX6_where_26 : decode cX6_where 26 = .ok (.invokevirtual 161, 3) := by decide +kernel
theorem dX6_where_29 : decode cX6_where 29 = .ok (.aload_n 0, 1) := by decide +kernel
theorem dX6_where_30 : decode cX6_where 30 = .ok (.getfield 26, 3) := by decide +kernel
theorem dX6_where_33 : decode cX6_where 33 = .ok (.bipush 21, 2) := by decide +kernel
theorem dX6_where_35 : decode cX6_where 35 = .ok (.iload_n 1, 1) := by decide +kernel
theorem dX6_where_36 : decode cX6_where 36 = .ok (.iadd, 1) := by decide +kernel
theorem dX6_where_37 : decode cX6_where 37 = .ok (.iaload, 1) := by decide +kernel
theorem dX6_where_38 : decode cX6_where 38 = .ok (.ireturn, 1) := by decide +kernel
theorem dX6_then_0 : decode cX6_then 0 = .ok (.iload_n 1, 1) := by decide +kernel
theorem dX6_then_1 : decode cX6_then 1 = .ok (.iconst 0, 1) := by decide +kernel
theorem dX6_then_2 : decode cX6_then 2 = .ok (.bipush 60, 2) := by decide +kernel
theorem dX6_then_4 : decode cX6_then 4 = .ok (.invokestatic 47, 3) := by decide +kernel
theorem dX6_then_7 : decode cX6_then 7 = .ok (.ifCond .eq 12, 3) := by decide +kernel
theorem dX6_then_10 : decode cX6_then 10 = .ok (.iload_n 2, 1) := by decide +kernel
theorem dX6_then_11 : decode cX6_then 11 = .ok (.iconst 0, 1) := by decide +kernel
theorem dX6_then_12 : decode cX6_then 12 = .ok (.iconst 1, 1) := by decide +kernel
theorem dX6_then_13 : decode cX6_then 13 = .ok (.invokestatic 47, 3) := by decide +kernel
theorem dX6_then_16 : decode cX6_then 16 = .ok (.ifCond .ne 5, 3) := by decide +kernel
theorem dX6_then_19 : decode cX6_then 19 = .ok (.iconst (-1), 1) := by decide +kernel
theorem dX6_then_20 : decode cX6_then 20 = .ok (.ireturn, 1) := by decide +kernel
theorem dX6_then_21 : decode cX6_then 21 = .ok (.aload_n 0, 1) := by decide +kernel
theorem dX6_then_22 : decode cX6_then 22 = .ok (.invokevirtual 158, 3) := by decide +kernel
theorem dX6_then_25 : decode cX6_then 25 = .ok (.aload_n 0, 1) := by decide +kernel
theorem dX6_then_26 : decode cX6_then 26 = .ok (.iload_n 1, 1) := by decide +kernel
theorem dX6_then_27 : decode cX6_then 27 = .ok (.invokevirtual 161, 3) := by decide +kernel
theorem dX6_then_30 : decode cX6_then 30 = .ok (.iload_n 2, 1) := by decide +kernel
theorem dX6_then_31 : decode cX6_then 31 = .ok (.ifCond .ne 13, 3) := by decide +kernel
theorem dX6_then_34 : decode cX6_then 34 = .ok (.aload_n 0, 1) := by decide +kernel
theorem dX6_then_35 : decode cX6_then 35 = .ok (.getfield 26, 3) := by decide +kernel
theorem dX6_then_38 : decode cX6_then 38 = .ok (.invokestatic 119, 3) := by decide +kernel
theorem dX6_then_41 : decode cX6_then 41 = .ok (.goto 9, 3) := by decide +kernel
theorem dX6_then_44 : decode cX6_then 44 = .ok (.aload_n 0, 1) := by decide +kernel
theorem dX6_then_45 : decode cX6_then 45 = .ok (.getfield 26, 3) := by decide +kernel
theorem dX6_then_48 : decode cX6_then 48 = .ok (.iconst 2, 1) := by decide +kernel
theorem dX6_then_49 : decode cX6_then 49 = .ok (.iaload, 1) := by decide +kernel
theorem dX6_then_50 : decode cX6_then 50 = .ok (.ireturn, 1) := by decide +kernel
theorem dX6_lost_0 : decode cX6_lost 0 = .ok (.aload_n 0, 1) := by decide +kernel
theorem dX6_lost_1 : decode cX6_lost 1 = .ok (.iload_n 1, 1) := by decide +kernel
theorem dX6_lost_2 : decode cX6_lost 2 = .ok (.invokevirtual 55, 3) := by decide +kernel
theorem dX6_lost_5 : decode cX6_lost 5 = .ok (.ifCond .ne 5, 3) := by decide +kernel
theorem dX6_lost_8 : decode cX6_lost 8 = .ok (.iconst (-1), 1) := by decide +kernel
theorem dX6_lost_9 : decode cX6_lost 9 = .ok (.ireturn, 1) := by decide +kernel
theorem dX6_lost_10 : decode cX6_lost 10 = .ok (.aload_n 0, 1) := by decide +kernel
theorem dX6_lost_11 : decode cX6_lost 11 = .ok (.invokevirtual 158, 3) := by decide +kernel
theorem dX6_lost_14 : decode cX6_lost 14 = .ok (.iconst 0, 1) := by decide +kernel
theorem dX6_lost_15 : decode cX6_lost 15 = .ok (.istore_n 2, 1) := by decide +kernel
theorem dX6_lost_16 : decode cX6_lost 16 = .ok (.iload_n 2, 1) := by decide +kernel
theorem dX6_lost_17 : decode cX6_lost 17 = .ok (.bipush 60, 2) := by decide +kernel
theorem dX6_lost_19 : decode cX6_lost 19 = .ok (.if_icmp .gt 31, 3) := by decide +kernel
theorem dX6_lost_22 : decode cX6_lost 22 = .ok (.aload_n 0, 1) := by decide +kernel
theorem dX6_lost_23 : decode cX6_lost 23 = .ok (.getfield 26, 3) := by decide +kernel
theorem dX6_lost_26 : decode cX6_lost 26 = .ok (.iload_n 1, 1) := by decide +kernel
theorem dX6_lost_27 : decode cX6_lost 27 = .ok (.invokestatic 63, 3) := by decide +kernel
theorem dX6_lost_30 : decode cX6_lost 30 = .ok (.ifCond .eq 5, 3) := by decide +kernel
theorem dX6_lost_33 : decode cX6_lost 33 = .ok (.iload_n 2, 1) := by decide +kernel
theorem dX6_lost_34 : decode cX6_lost 34 = .ok (.ireturn, 1) := by decide +kernel
theorem dX6_lost_35 : decode cX6_lost 35 = .ok (.aload_n 0, 1) := by decide +kernel
theorem dX6_lost_36 : decode cX6_lost 36 = .ok (.aload_n 0, 1) := by decide +kernel
theorem dX6_lost_37 : decode cX6_lost 37 = .ok (.getfield 26, 3) := by decide +kernel
theorem dX6_lost_40 : decode cX6_lost 40 = .ok (.iconst 0, 1) := by decide +kernel
theorem dX6_lost_41 : decode cX6_lost 41 = .ok (.invokevirtual 148, 3) := by decide +kernel
theorem dX6_lost_44 : decode cX6_lost 44 = .ok (.iinc 2 1, 3) := by decide +kernel
theorem dX6_lost_47 : decode cX6_lost 47 = .ok (.goto (-31), 3) := by decide +kernel
theorem dX6_lost_50 : decode cX6_lost 50 = .ok (.bipush (-4), 2) := by decide +kernel
theorem dX6_lost_52 : decode cX6_lost 52 = .ok (.ireturn, 1) := by decide +kernel
theorem dX6_free_0 : decode cX6_free 0 = .ok (.aload_n 0, 1) := by decide +kernel
theorem dX6_free_1 : decode cX6_free 1 = .ok (.iload_n 1, 1) := by decide +kernel
theorem dX6_free_2 : decode cX6_free 2 = .ok (.invokevirtual 55, 3) := by decide +kernel
theorem dX6_free_5 : decode cX6_free 5 = .ok (.ifCond .ne 5, 3) := by decide +kernel
theorem dX6_free_8 : decode cX6_free 8 = .ok (.iconst (-1), 1) := by decide +kernel
theorem dX6_free_9 : decode cX6_free 9 = .ok (.ireturn, 1) := by decide +kernel
theorem dX6_free_10 : decode cX6_free 10 = .ok (.aload_n 0, 1) := by decide +kernel
theorem dX6_free_11 : decode cX6_free 11 = .ok (.invokevirtual 158, 3) := by decide +kernel
theorem dX6_free_14 : decode cX6_free 14 = .ok (.iconst 0, 1) := by decide +kernel
theorem dX6_free_15 : decode cX6_free 15 = .ok (.istore_n 2, 1) := by decide +kernel
theorem dX6_free_16 : decode cX6_free 16 = .ok (.iload_n 2, 1) := by decide +kernel
theorem dX6_free_17 : decode cX6_free 17 = .ok (.bipush 60, 2) := by decide +kernel
theorem dX6_free_19 : decode cX6_free 19 = .ok (.if_icmp .gt 31, 3) := by decide +kernel
theorem dX6_free_22 : decode cX6_free 22 = .ok (.aload_n 0, 1) := by decide +kernel
theorem dX6_free_23 : decode cX6_free 23 = .ok (.getfield 26, 3) := by decide +kernel
theorem dX6_free_26 : decode cX6_free 26 = .ok (.iconst 3, 1) := by decide +kernel
theorem dX6_free_27 : decode cX6_free 27 = .ok (.iload_n 1, 1) := by decide +kernel
theorem dX6_free_28 : decode cX6_free 28 = .ok (.iadd, 1) := by decide +kernel
theorem dX6_free_29 : decode cX6_free 29 = .ok (.iaload, 1) := by decide +kernel
theorem dX6_free_30 : decode cX6_free 30 = .ok (.ifCond .ne 5, 3) := by decide +kernel
theorem dX6_free_33 : decode cX6_free 33 = .ok (.iload_n 2, 1) := by decide +kernel
theorem dX6_free_34 : decode cX6_free 34 = .ok (.ireturn, 1) := by decide +kernel
theorem dX6_free_35 : decode cX6_free 35 = .ok (.aload_n 0, 1) := by decide +kernel
theorem dX6_free_36 : decode cX6_free 36 = .ok (.aload_n 0, 1) := by decide +kernel
theorem dX6_free_37 : decode cX6_free 37 = .ok (.getfield 26, 3) := by decide +kernel
theorem dX6_free_40 : decode cX6_free 40 = .ok (.iconst 0, 1) := by decide +kernel
theorem dX6_free_41 : decode cX6_free 41 = .ok (.invokevirtual 148, 3) := by decide +kernel
theorem dX6_free_44 : decode cX6_free 44 = .ok (.iinc 2 1, 3) := by decide +kernel
theorem dX6_free_47 : decode cX6_free 47 = .ok (.goto (-31), 3) := by decide +kernel
theorem dX6_free_50 : decode cX6_free 50 = .ok (.bipush (-4), 2) := by decide +kernel
theorem dX6_free_52 : decode cX6_free 52 = .ok (.ireturn, 1) := by decide +kernel
theorem dX6_keep_0 : decode cX6_keep 0 = .ok (.aload_n 0, 1) := by decide +kernel
theorem dX6_keep_1 : decode cX6_keep 1 = .ok (.iload_n 1, 1) := by decide +kernel
theorem dX6_keep_2 : decode cX6_keep 2 = .ok (.invokevirtual 55, 3) := by decide +kernel
theorem dX6_keep_5 : decode cX6_keep 5 = .ok (.ifCond .eq 13, 3) := by decide +kernel
theorem dX6_keep_8 : decode cX6_keep 8 = .ok (.iload_n 2, 1) := by decide +kernel
theorem dX6_keep_9 : decode cX6_keep 9 = .ok (.iconst 1, 1) := by decide +kernel
theorem dX6_keep_10 : decode cX6_keep 10 = .ok (.bipush 40, 2) := by decide +kernel
theorem dX6_keep_12 : decode cX6_keep 12 = .ok (.invokestatic 47, 3) := by decide +kernel
theorem dX6_keep_15 : decode cX6_keep 15 = .ok (.ifCond .ne 5, 3) := by decide +kernel
theorem dX6_keep_18 : decode cX6_keep 18 = .ok (.iconst (-1), 1) := by decide +kernel
theorem dX6_keep_19 : decode cX6_keep 19 = .ok (.ireturn, 1) := by decide +kernel
theorem dX6_keep_20 : decode cX6_keep 20 = .ok (.iconst 0, 1) := by decide +kernel
theorem dX6_keep_21 : decode cX6_keep 21 = .ok (.istore_n 3, 1) := by decide +kernel
theorem dX6_keep_22 : decode cX6_keep 22 = .ok (.iload_n 3, 1) := by decide +kernel
theorem dX6_keep_23 : decode cX6_keep 23 = .ok (.bipush 20, 2) := by decide +kernel
theorem dX6_keep_25 : decode cX6_keep 25 = .ok (.if_icmp .gt 41, 3) := by decide +kernel
theorem dX6_keep_28 : decode cX6_keep 28 = .ok (.aload_n 0, 1) := by decide +kernel
theorem dX6_keep_29 : decode cX6_keep 29 = .ok (.invokevirtual 158, 3) := by decide +kernel
theorem dX6_keep_32 : decode cX6_keep 32 = .ok (.aload_n 0, 1) := by decide +kernel
theorem dX6_keep_33 : decode cX6_keep 33 = .ok (.getfield 26, 3) := by decide +kernel
theorem dX6_keep_36 : decode cX6_keep 36 = .ok (.bipush 9, 2) := by decide +kernel
theorem dX6_keep_38 : decode cX6_keep 38 = .ok (.iload_n 1, 1) := by decide +kernel
theorem dX6_keep_39 : decode cX6_keep 39 = .ok (.iadd, 1) := by decide +kernel
theorem dX6_keep_40 : decode cX6_keep 40 = .ok (.iload_n 3, 1) := by decide +kernel
theorem dX6_keep_41 : decode cX6_keep 41 = .ok (.iastore, 1) := by decide +kernel
theorem dX6_keep_42 : decode cX6_keep 42 = .ok (.aload_n 0, 1) := by decide +kernel
theorem dX6_keep_43 : decode cX6_keep 43 = .ok (.iload_n 2, 1) := by decide +kernel
theorem dX6_keep_44 : decode cX6_keep 44 = .ok (.invokevirtual 161, 3) := by decide +kernel
theorem dX6_keep_47 : decode cX6_keep 47 = .ok (.aload_n 0, 1) := by decide +kernel
theorem dX6_keep_48 : decode cX6_keep 48 = .ok (.getfield 26, 3) := by decide +kernel
theorem dX6_keep_51 : decode cX6_keep 51 = .ok (.iload_n 1, 1) := by decide +kernel
theorem dX6_keep_52 : decode cX6_keep 52 = .ok (.invokestatic 63, 3) := by decide +kernel
theorem dX6_keep_55 : decode cX6_keep 55 = .ok (.ifCond .ne 5, 3) := by decide +kernel
theorem dX6_keep_58 : decode cX6_keep 58 = .ok (.iload_n 3, 1) := by decide +kernel
theorem dX6_keep_59 : decode cX6_keep 59 = .ok (.ireturn, 1) := by decide +kernel
theorem dX6_keep_60 : decode cX6_keep 60 = .ok (.iinc 3 1, 3) := by decide +kernel
theorem dX6_keep_63 : decode cX6_keep 63 = .ok (.goto (-41), 3) := by decide +kernel
theorem dX6_keep_66 : decode cX6_keep 66 = .ok (.bipush (-4), 2) := by decide +kernel
theorem dX6_keep_68 : decode cX6_keep 68 = .ok (.ireturn, 1) := by decide +kernel
theorem dX6_layParts_0 : decode cX6_layParts 0 = .ok (.iload_n 1, 1) := by decide +kernel
theorem dX6_layParts_1 : decode cX6_layParts 1 = .ok (.istore_n 3, 1) := by decide +kernel
theorem dX6_layParts_2 : decode cX6_layParts 2 = .ok (.iconst 0, 1) := by decide +kernel
theorem dX6_layParts_3 : decode cX6_layParts 3 = .ok (.istore 4, 2) := by decide +kernel
theorem dX6_layParts_5 : decode cX6_layParts 5 = .ok (.aload_n 0, 1) := by decide +kernel
theorem dX6_layParts_6 : decode cX6_layParts 6 = .ok (.getfield 23, 3) := by decide +kernel
theorem dX6_layParts_9 : decode cX6_layParts 9 = .ok (.bipush 27, 2) := by decide +kernel
theorem dX6_layParts_11 : decode cX6_layParts 11 = .ok (.iaload, 1) := by decide +kernel
theorem dX6_layParts_12 : decode cX6_layParts 12 = .ok (.iconst 2, 1) := by decide +kernel
theorem dX6_layParts_13 : decode cX6_layParts 13 = .ok (.isub, 1) := by decide +kernel
theorem dX6_layParts_14 : decode cX6_layParts 14 = .ok (.istore 5, 2) := by decide +kernel
theorem dX6_layParts_16 : decode cX6_layParts 16 = .ok (.iload 5, 2) := by decide +kernel
theorem dX6_layParts_18 : decode cX6_layParts 18 = .ok (.ifCond .lt 39, 3) := by decide +kernel
theorem dX6_layParts_21 : decode cX6_layParts 21 = .ok (.aload_n 0, 1) := by decide +kernel
theorem dX6_layParts_22 : decode cX6_layParts 22 = .ok (.getfield 41, 3) := by decide +kernel
theorem dX6_layParts_25 : decode cX6_layParts 25 = .ok (.iload 5, 2) := by decide +kernel
theorem dX6_layParts_27 : decode cX6_layParts 27 = .ok (.iload_n 3, 1) := by decide +kernel
theorem dX6_layParts_28 : decode cX6_layParts 28 = .ok (.iload_n 2, 1) := by decide +kernel
theorem dX6_layParts_29 : decode cX6_layParts 29 = .ok (.iconst 1, 1) := by decide +kernel
theorem dX6_layParts_30 : decode cX6_layParts 30 = .ok (.iadd, 1) := by decide +kernel
theorem dX6_layParts_31 : decode cX6_layParts 31 = .ok (.irem, 1) := by decide +kernel
theorem dX6_layParts_32 : decode cX6_layParts 32 = .ok (.iastore, 1) := by decide +kernel
theorem dX6_layParts_33 : decode cX6_layParts 33 = .ok (.iload_n 3, 1) := by decide +kernel
theorem dX6_layParts_34 : decode cX6_layParts 34 = .ok (.iload_n 2, 1) := by decide +kernel
theorem dX6_layParts_35 : decode cX6_layParts 35 = .ok (.iconst 1, 1) := by decide +kernel
theorem dX6_layParts_36 : decode cX6_layParts 36 = .ok (.iadd, 1) := by decide +kernel
theorem dX6_layParts_37 : decode cX6_layParts 37 = .ok (.idiv, 1) := by decide +kernel
theorem dX6_layParts_38 : decode cX6_layParts 38 = .ok (.istore_n 3, 1) := by decide +kernel
theorem dX6_layParts_39 : decode cX6_layParts 39 = .ok (.iload 4, 2) := by decide +kernel
theorem dX6_layParts_41 : decode cX6_layParts 41 = .ok (.aload_n 0, 1) := by decide +kernel
theorem dX6_layParts_42 : decode cX6_layParts 42 = .ok (.getfield 41, 3) := by decide +kernel
theorem dX6_layParts_45 : decode cX6_layParts 45 = .ok (.iload 5, 2) := by decide +kernel
theorem dX6_layParts_47 : decode cX6_layParts 47 = .ok (.iaload, 1) := by decide +kernel
theorem dX6_layParts_48 : decode cX6_layParts 48 = .ok (.iadd, 1) := by decide +kernel
theorem dX6_layParts_49 : decode cX6_layParts 49 = .ok (.istore 4, 2) := by decide +kernel
theorem dX6_layParts_51 : decode cX6_layParts 51 = .ok (.iinc 5 (-1), 3) := by decide +kernel
theorem dX6_layParts_54 : decode cX6_layParts 54 = .ok (.goto (-38), 3) := by decide +kernel
theorem dX6_layParts_57 : decode cX6_layParts 57 = .ok (.aload_n 0, 1) := by decide +kernel
theorem dX6_layParts_58 : decode cX6_layParts 58 = .ok (.getfield 41, 3) := by decide +kernel
theorem dX6_layParts_61 : decode cX6_layParts 61 = .ok (.aload_n 0, 1) := by decide +kernel
theorem dX6_layParts_62 : decode cX6_layParts 62 = .ok (.getfield 23, 3) := by decide +kernel
theorem dX6_layParts_65 : decode cX6_layParts 65 = .ok (.bipush 27, 2) := by decide +kernel
theorem dX6_layParts_67 : decode cX6_layParts 67 = .ok (.iaload, 1) := by decide +kernel
theorem dX6_layParts_68 : decode cX6_layParts 68 = .ok (.iconst 1, 1) := by decide +kernel
theorem dX6_layParts_69 : decode cX6_layParts 69 = .ok (.isub, 1) := by decide +kernel
theorem dX6_layParts_70 : decode cX6_layParts 70 = .ok (.iload_n 2, 1) := by decide +kernel
theorem dX6_layParts_71 : decode cX6_layParts 71 = .ok (.iload 4, 2) := by decide +kernel
theorem dX6_layParts_73 : decode cX6_layParts 73 = .ok (.isub, 1) := by decide +kernel
theorem dX6_layParts_74 : decode cX6_layParts 74 = .ok (.iastore, 1) := by decide +kernel
theorem dX6_layParts_75 : decode cX6_layParts 75 = .ok (.iload 4, 2) := by decide +kernel
theorem dX6_layParts_77 : decode cX6_layParts 77 = .ok (.iload_n 2, 1) := by decide +kernel
theorem dX6_layParts_78 : decode cX6_layParts 78 = .ok (.if_icmp .gt 7, 3) := by decide +kernel
theorem dX6_layParts_81 : decode cX6_layParts 81 = .ok (.iconst 1, 1) := by decide +kernel
theorem dX6_layParts_82 : decode cX6_layParts 82 = .ok (.goto 4, 3) := by decide +kernel
theorem dX6_layParts_85 : decode cX6_layParts 85 = .ok (.iconst 0, 1) := by decide +kernel
theorem dX6_layParts_86 : decode cX6_layParts 86 = .ok (.ireturn, 1) := by decide +kernel
theorem dX6_part_0 : decode cX6_part 0 = .ok (.iload_n 1, 1) := by decide +kernel
theorem dX6_part_1 : decode cX6_part 1 = .ok (.iconst 0, 1) := by decide +kernel
theorem dX6_part_2 : decode cX6_part 2 = .ok (.bipush 12, 2) := by decide +kernel
theorem dX6_part_4 : decode cX6_part 4 = .ok (.invokestatic 47, 3) := by decide +kernel
theorem dX6_part_7 : decode cX6_part 7 = .ok (.ifCond .eq 19, 3) := by decide +kernel
theorem dX6_part_10 : decode cX6_part 10 = .ok (.iload_n 2, 1) := by decide +kernel
theorem dX6_part_11 : decode cX6_part 11 = .ok (.iconst 1, 1) := by decide +kernel
theorem dX6_part_12 : decode cX6_part 12 = .ok (.bipush 30, 2) := by decide +kernel
theorem dX6_part_14 : decode cX6_part 14 = .ok (.invokestatic 47, 3) := by decide +kernel
theorem dX6_part_17 : decode cX6_part 17 = .ok (.ifCond .eq 9, 3) := by decide +kernel
theorem dX6_part_20 : decode cX6_part 20 = .ok (.iload_n 3, 1) := by decide +kernel
theorem dX6_part_21 : decode cX6_part 21 = .ok (.bipush (-2), 2) := by decide +kernel
theorem dX6_part_23 : decode cX6_part 23 = .ok (.if_icmp .ge 5, 3) := by decide +kernel
theorem dX6_part_26 : decode cX6_part 26 = .ok (.iconst (-1), 1) := by decide +kernel
theorem dX6_part_27 : decode cX6_part 27 = .ok (.ireturn, 1) := by decide +kernel
theorem dX6_part_28 : decode cX6_part 28 = .ok (.iconst 1, 1) := by decide +kernel
theorem dX6_part_29 : decode cX6_part 29 = .ok (.istore 4, 2) := by decide +kernel
theorem dX6_part_31 : decode cX6_part 31 = .ok (.iconst 1, 1) := by decide +kernel
theorem dX6_part_32 : decode cX6_part 32 = .ok (.istore 5, 2) := by decide +kernel
theorem dX6_part_34 : decode cX6_part 34 = .ok (.iload 5, 2) := by decide +kernel
theorem dX6_part_36 : decode cX6_part 36 = .ok (.aload_n 0, 1) := by decide +kernel
theorem dX6_part_37 : decode cX6_part 37 = .ok (.getfield 23, 3) := by decide +kernel
theorem dX6_part_40 : decode cX6_part 40 = .ok (.bipush 27, 2) := by decide +kernel
theorem dX6_part_42 : decode cX6_part 42 = .ok (.iaload, 1) := by decide +kernel
theorem dX6_part_43 : decode cX6_part 43 = .ok (.if_icmp .ge 17, 3) := by decide +kernel
theorem dX6_part_46 : decode cX6_part 46 = .ok (.iload 4, 2) := by decide +kernel
theorem dX6_part_48 : decode cX6_part 48 = .ok (.iload_n 1, 1) := by decide +kernel
theorem dX6_part_49 : decode cX6_part 49 = .ok (.iconst 1, 1) := by decide +kernel
theorem dX6_part_50 : decode cX6_part 50 = .ok (.iadd, 1) := by decide +kernel
theorem dX6_part_51 : decode cX6_part 51 = .ok (.imul, 1) := by decide +kernel
theorem dX6_part_52 : decode cX6_part 52 = .ok (.istore 4, 2) := by decide +kernel
theorem dX6_part_54 : decode cX6_part 54 = .ok (.iinc 5 1, 3) := by decide +kernel
theorem dX6_part_57 : decode cX6_part 57 = .ok (.goto (-23), 3) := by decide +kernel
theorem dX6_part_60 : decode cX6_part 60 = .ok (.bipush (-4), 2) := by decide +kernel
theorem dX6_part_62 : decode cX6_part 62 = .ok (.istore 5, 2) := by decide +kernel
theorem dX6_part_64 : decode cX6_part 64 = .ok (.bipush (-4), 2) := by decide +kernel
theorem dX6_part_66 : decode cX6_part 66 = .ok (.istore 6, 2) := by decide +kernel
theorem dX6_part_68 : decode cX6_part 68 = .ok (.iconst 0, 1) := by decide +kernel
theorem dX6_part_69 : decode cX6_part 69 = .ok (.istore 7, 2) := by decide +kernel
theorem dX6_part_71 : decode cX6_part 71 = .ok (.iload 7, 2) := by decide +kernel
theorem dX6_part_73 : decode cX6_part 73 = .ok (.iload 4, 2) := by decide +kernel
theorem dX6_part_75 : decode cX6_part 75 = .ok (.if_icmp .ge 132, 3) := by decide +kernel
theorem dX6_part_78 : decode cX6_part 78 = .ok (.aload_n 0, 1) := by decide +kernel
theorem dX6_part_79 : decode cX6_part 79 = .ok (.getfield 23, 3) := by decide +kernel
theorem dX6_part_82 : decode cX6_part 82 = .ok (.bipush 27, 2) := by decide +kernel
theorem dX6_part_84 : decode cX6_part 84 = .ok (.iaload, 1) := by decide +kernel
theorem dX6_part_85 : decode cX6_part 85 = .ok (.ifCond .le 122, 3) := by decide +kernel
theorem dX6_part_88 : decode cX6_part 88 = .ok (.aload_n 0, 1) := by decide +kernel
theorem dX6_part_89 : decode cX6_part 89 = .ok (.iload 7, 2) := by decide +kernel
theorem dX6_part_91 : decode cX6_part 91 = .ok (.iload_n 1, 1) := by decide +kernel
theorem dX6_part_92 : decode cX6_part 92 = .ok (.invokevirtual 165, 3) := by decide +kernel
theorem dX6_part_95 : decode cX6_part 95 = .ok (.ifCond .eq 106, 3) := by decide +kernel
theorem dX6_part_98 : decode cX6_part 98 = .ok (.aload_n 0, 1) := by decide +kernel
theorem dX6_part_99 : decode cX6_part 99 = .ok (.invokevirtual 158, 3) := by decide +kernel
theorem dX6_part_102 : decode cX6_part 102 = .ok (.aload_n 0, 1) := by decide +kernel
theorem dX6_part_103 : decode cX6_part 103 = .ok (.getfield 41, 3) := by decide +kernel
theorem dX6_part_106 : decode cX6_part 106 = .ok (.iconst 0, 1) := by decide +kernel
theorem dX6_part_107 : decode cX6_part 107 = .ok (.aload_n 0, 1) := by decide +kernel
theorem dX6_part_108 : decode cX6_part 108 = .ok (.getfield 26, 3) := by decide +kernel
theorem dX6_part_111 : decode cX6_part 111 = .ok (.bipush 9, 2) := by decide +kernel
theorem dX6_part_113 : decode cX6_part 113 = .ok (.aload_n 0, 1) := by decide +kernel
theorem dX6_part_114 : decode cX6_part 114 = .ok (.getfield 23, 3) := by decide +kernel
theorem dX6_part_117 : decode cX6_part 117 = .ok (.bipush 27, 2) := by decide +kernel
theorem dX6_part_119 : decode cX6_part 119 = .ok (.iaload, 1) := by decide +kernel
theorem dX6_part_120 : decode cX6_part 120 = .ok (.invokestatic 115, 3) := by decide +kernel
theorem dX6_part_123 : decode cX6_part 123 = .ok (.aload_n 0, 1) := by decide +kernel
theorem dX6_part_124 : decode cX6_part 124 = .ok (.iload_n 2, 1) := by decide +kernel
theorem dX6_part_125 : decode cX6_part 125 = .ok (.invokevirtual 161, 3) := by decide +kernel
theorem dX6_part_128 : decode cX6_part 128 = .ok (.aload_n 0, 1) := by decide +kernel
theorem dX6_part_129 : decode cX6_part 129 = .ok (.getfield 23, 3) := by decide +kernel
theorem dX6_part_132 : decode cX6_part 132 = .ok (.bipush 27, 2) := by decide +kernel
theorem dX6_part_134 : decode cX6_part 134 = .ok (.iaload, 1) := by decide +kernel
theorem dX6_part_135 : decode cX6_part 135 = .ok (.aload_n 0, 1) := by decide +kernel
theorem dX6_part_136 : decode cX6_part 136 = .ok (.getfield 26, 3) := by decide +kernel
theorem dX6_part_139 : decode cX6_part 139 = .ok (.invokestatic 119, 3) := by decide +kernel
theorem dX6_part_142 : decode cX6_part 142 = .ok (.invokestatic 168, 3) := by decide +kernel
theorem dX6_part_145 : decode cX6_part 145 = .ok (.isub, 1) := by decide +kernel
theorem dX6_part_146 : decode cX6_part 146 = .ok (.istore 8, 2) := by decide +kernel
theorem dX6_part_148 : decode cX6_part 148 = .ok (.aload_n 0, 1) := by decide +kernel
theorem dX6_part_149 : decode cX6_part 149 = .ok (.getfield 26, 3) := by decide +kernel
theorem dX6_part_152 : decode cX6_part 152 = .ok (.invokestatic 123, 3) := by decide +kernel
theorem dX6_part_155 : decode cX6_part 155 = .ok (.istore 9, 2) := by decide +kernel
theorem dX6_part_157 : decode cX6_part 157 = .ok (.iload 8, 2) := by decide +kernel
theorem dX6_part_159 : decode cX6_part 159 = .ok (.iload 5, 2) := by decide +kernel
theorem dX6_part_161 : decode cX6_part 161 = .ok (.if_icmp .gt 17, 3) := by decide +kernel
theorem dX6_part_164 : decode cX6_part 164 = .ok (.iload 8, 2) := by decide +kernel
theorem dX6_part_166 : decode cX6_part 166 = .ok (.iload 5, 2) := by decide +kernel
theorem dX6_part_168 : decode cX6_part 168 = .ok (.if_icmp .ne 33, 3) := by decide +kernel
theorem dX6_part_171 : decode cX6_part 171 = .ok (.iload 9, 2) := by decide +kernel
theorem dX6_part_173 : decode cX6_part 173 = .ok (.iload 6, 2) := by decide +kernel
theorem dX6_part_175 : decode cX6_part 175 = .ok (.if_icmp .ge 26, 3) := by decide +kernel
theorem dX6_part_178 : decode cX6_part 178 = .ok (.iload 8, 2) := by decide +kernel
theorem dX6_part_180 : decode cX6_part 180 = .ok (.istore 5, 2) := by decide +kernel
theorem dX6_part_182 : decode cX6_part 182 = .ok (.iload 9, 2) := by decide +kernel
theorem dX6_part_184 : decode cX6_part 184 = .ok (.istore 6, 2) := by decide +kernel
theorem dX6_part_186 : decode cX6_part 186 = .ok (.aload_n 0, 1) := by decide +kernel
theorem dX6_part_187 : decode cX6_part 187 = .ok (.getfield 41, 3) := by decide +kernel
theorem dX6_part_190 : decode cX6_part 190 = .ok (.iconst 0, 1) := by decide +kernel
theorem dX6_part_191 : decode cX6_part 191 = .ok (.aload_n 0, 1) := by decide +kernel
theorem dX6_part_192 : decode cX6_part 192 = .ok (.getfield 44, 3) := by decide +kernel
theorem dX6_part_195 : decode cX6_part 195 = .ok (.iconst 0, 1) := by decide +kernel
theorem dX6_part_196 : decode cX6_part 196 = .ok (.bipush 6, 2) := by decide +kernel
theorem dX6_part_198 : decode cX6_part 198 = .ok (.invokestatic 115, 3) := by decide +kernel
theorem dX6_part_201 : decode cX6_part 201 = .ok (.iinc 7 1, 3) := by decide +kernel
theorem dX6_part_204 : decode cX6_part 204 = .ok (.goto (-133), 3) := by decide +kernel
theorem dX6_part_207 : decode cX6_part 207 = .ok (.iload_n 3, 1) := by decide +kernel
theorem dX6_part_208 : decode cX6_part 208 = .ok (.ifCond .ge 16, 3) := by decide +kernel
theorem dX6_part_211 : decode cX6_part 211 = .ok (.iload_n 3, 1) := by decide +kernel
theorem dX6_part_212 : decode cX6_part 212 = .ok (.iconst (-1), 1) := by decide +kernel
theorem dX6_part_213 : decode cX6_part 213 = .ok (.if_icmp .ne 8, 3) := by decide +kernel
theorem dX6_part_216 : decode cX6_part 216 = .ok (.iload 5, 2) := by decide +kernel
theorem dX6_part_218 : decode cX6_part 218 = .ok (.goto 5, 3) := by decide +kernel
theorem dX6_part_221 : decode cX6_part 221 = .ok (.iload 6, 2) := by decide +kernel
theorem dX6_part_223 : decode cX6_part 223 = .ok (.ireturn, 1) := by decide +kernel
theorem dX6_part_224 : decode cX6_part 224 = .ok (.aload_n 0, 1) := by decide +kernel
theorem dX6_part_225 : decode cX6_part 225 = .ok (.iload_n 3, 1) := by decide +kernel
theorem dX6_part_226 : decode cX6_part 226 = .ok (.invokevirtual 55, 3) := by decide +kernel
theorem dX6_part_229 : decode cX6_part 229 = .ok (.ifCond .eq 12, 3) := by decide +kernel
theorem dX6_part_232 : decode cX6_part 232 = .ok (.aload_n 0, 1) := by decide +kernel
theorem dX6_part_233 : decode cX6_part 233 = .ok (.getfield 44, 3) := by decide +kernel
theorem dX6_part_236 : decode cX6_part 236 = .ok (.iload_n 3, 1) := by decide +kernel
theorem dX6_part_237 : decode cX6_part 237 = .ok (.iaload, 1) := by decide +kernel
theorem dX6_part_238 : decode cX6_part 238 = .ok (.goto 5, 3) := by decide +kernel
theorem dX6_part_241 : decode cX6_part 241 = .ok (.bipush (-4), 2) := by decide +kernel
theorem dX6_part_243 : decode cX6_part 243 = .ok (.ireturn, 1) := by decide +kernel
theorem dX6_drives_0 : decode cX6_drives 0 = .ok (.aload_n 0, 1) := by decide +kernel
theorem dX6_drives_1 : decode cX6_drives 1 = .ok (.iload_n 1, 1) := by decide +kernel
theorem dX6_drives_2 : decode cX6_drives 2 = .ok (.invokevirtual 55, 3) := by decide +kernel
theorem dX6_drives_5 : decode cX6_drives 5 = .ok (.ifCond .eq 22, 3) := by decide +kernel
theorem dX6_drives_8 : decode cX6_drives 8 = .ok (.iload_n 2, 1) := by decide +kernel
theorem dX6_drives_9 : decode cX6_drives 9 = .ok (.iconst 1, 1) := by decide +kernel
theorem dX6_drives_10 : decode cX6_drives 10 = .ok (.bipush 40, 2) := by decide +kernel
theorem dX6_drives_12 : decode cX6_drives 12 = .ok (.invokestatic 47, 3) := by decide +kernel
theorem dX6_drives_15 : decode cX6_drives 15 = .ok (.ifCond .eq 12, 3) := by decide +kernel
theorem dX6_drives_18 : decode cX6_drives 18 = .ok (.iload_n 3, 1) := by decide +kernel
theorem dX6_drives_19 : decode cX6_drives 19 = .ok (.iconst 0, 1) := by decide +kernel
theorem dX6_drives_20 : decode cX6_drives 20 = .ok (.iconst 1, 1) := by decide +kernel
theorem dX6_drives_21 : decode cX6_drives 21 = .ok (.invokestatic 47, 3) := by decide +kernel
theorem dX6_drives_24 : decode cX6_drives 24 = .ok (.ifCond .ne 5, 3) := by decide +kernel
theorem dX6_drives_27 : decode cX6_drives 27 = .ok (.iconst (-1), 1) := by decide +kernel
theorem dX6_drives_28 : decode cX6_drives 28 = .ok (.ireturn, 1) := by decide +kernel
theorem dX6_drives_29 : decode cX6_drives 29 = .ok (.bipush (-4), 2) := by decide +kernel
theorem dX6_drives_31 : decode cX6_drives 31 = .ok (.istore 4, 2) := by decide +kernel
theorem dX6_drives_33 : decode cX6_drives 33 = .ok (.bipush (-4), 2) := by decide +kernel
theorem dX6_drives_35 : decode cX6_drives 35 = .ok (.istore 5, 2) := by decide +kernel
theorem dX6_drives_37 : decode cX6_drives 37 = .ok (.bipush (-4), 2) := by decide +kernel
theorem dX6_drives_39 : decode cX6_drives 39 = .ok (.istore 6, 2) := by decide +kernel
theorem dX6_drives_41 : decode cX6_drives 41 = .ok (.iconst 0, 1) := by decide +kernel
theorem dX6_drives_42 : decode cX6_drives 42 = .ok (.istore 7, 2) := by decide +kernel
theorem dX6_drives_44 : decode cX6_drives 44 = .ok (.iload 7, 2) := by decide +kernel
theorem dX6_drives_46 : decode cX6_drives 46 = .ok (.aload_n 0, 1) := by decide +kernel
theorem dX6_drives_47 : decode cX6_drives 47 = .ok (.getfield 23, 3) := by decide +kernel
theorem dX6_drives_50 : decode cX6_drives 50 = .ok (.bipush 28, 2) := by decide +kernel
theorem dX6_drives_52 : decode cX6_drives 52 = .ok (.iaload, 1) := by decide +kernel
theorem dX6_drives_53 : decode cX6_drives 53 = .ok (.if_icmp .ge 157, 3) := by decide +kernel
theorem dX6_drives_56 : decode cX6_drives 56 = .ok (.iconst 0, 1) := by decide +kernel
theorem dX6_drives_57 : decode cX6_drives 57 = .ok (.istore 8, 2) := by decide +kernel
theorem dX6_drives_59 : decode cX6_drives 59 = .ok (.iload 8, 2) := by decide +kernel
theorem dX6_drives_61 : decode cX6_drives 61 = .ok (.aload_n 0, 1) := by decide +kernel
theorem dX6_drives_62 : decode cX6_drives 62 = .ok (.getfield 23, 3) := by decide +kernel
theorem dX6_drives_65 : decode cX6_drives 65 = .ok (.bipush 27, 2) := by decide +kernel
theorem dX6_drives_67 : decode cX6_drives 67 = .ok (.iaload, 1) := by decide +kernel
theorem dX6_drives_68 : decode cX6_drives 68 = .ok (.if_icmp .ge 136, 3) := by decide +kernel
theorem dX6_drives_71 : decode cX6_drives 71 = .ok (.iload 8, 2) := by decide +kernel
theorem dX6_drives_73 : decode cX6_drives 73 = .ok (.aload_n 0, 1) := by decide +kernel
theorem dX6_drives_74 : decode cX6_drives 74 = .ok (.getfield 23, 3) := by decide +kernel
theorem dX6_drives_77 : decode cX6_drives 77 = .ok (.bipush 21, 2) := by decide +kernel
theorem dX6_drives_79 : decode cX6_drives 79 = .ok (.iload 7, 2) := by decide +kernel
theorem dX6_drives_81 : decode cX6_drives 81 = .ok (.iadd, 1) := by decide +kernel
theorem dX6_drives_82 : decode cX6_drives 82 = .ok (.iaload, 1) := by decide +kernel
theorem dX6_drives_83 : decode cX6_drives 83 = .ok (.if_icmp .eq 115, 3) := by decide +kernel
theorem dX6_drives_86 : decode cX6_drives 86 = .ok (.aload_n 0, 1) := by decide +kernel
theorem dX6_drives_87 : decode cX6_drives 87 = .ok (.invokevirtual 158, 3) := by decide +kernel
theorem dX6_drives_90 : decode cX6_drives 90 = .ok (.aload_n 0, 1) := by decide +kernel
theorem dX6_drives_91 : decode cX6_drives 91 = .ok (.getfield 26, 3) := by decide +kernel
theorem dX6_drives_94 : decode cX6_drives 94 = .ok (.bipush 21, 2) := by decide +kernel
theorem dX6_drives_96 : decode cX6_drives 96 = .ok (.iload 7, 2) := by decide +kernel
theorem dX6_drives_98 : decode cX6_drives 98 = .ok (.iadd, 1) := by decide +kernel
theorem dX6_drives_99 : decode cX6_drives 99 = .ok (.iload 8, 2) := by decide +kernel
theorem dX6_drives_101 : decode cX6_drives 101 = .ok (.iastore, 1) := by decide +kernel
theorem dX6_drives_102 : decode cX6_drives 102 = .ok (.aload_n 0, 1) := by decide +kernel
theorem dX6_drives_103 : decode cX6_drives 103 = .ok (.iload_n 2, 1) := by decide +kernel
theorem dX6_drives_104 : decode cX6_drives 104 = .ok (.invokevirtual 161, 3) := by decide +kernel
theorem dX6_drives_107 : decode cX6_drives 107 = .ok (.aload_n 0, 1) := by decide +kernel
theorem dX6_drives_108 : decode cX6_drives 108 = .ok (.getfield 26, 3) := by decide +kernel
theorem dX6_drives_111 : decode cX6_drives 111 = .ok (.bipush 15, 2) := by decide +kernel
theorem dX6_drives_113 : decode cX6_drives 113 = .ok (.iload_n 1, 1) := by decide +kernel
theorem dX6_drives_114 : decode cX6_drives 114 = .ok (.iadd, 1) := by decide +kernel
theorem dX6_drives_115 : decode cX6_drives 115 = .ok (.iaload, 1) := by decide +kernel
theorem dX6_drives_116 : decode cX6_drives 116 = .ok (.iload 5, 2) := by decide +kernel
theorem dX6_drives_118 : decode cX6_drives 118 = .ok (.if_icmp .lt 30, 3) := by decide +kernel
theorem dX6_drives_121 : decode cX6_drives 121 = .ok (.aload_n 0, 1) := by decide +kernel
theorem dX6_drives_122 : decode cX6_drives 122 = .ok (.getfield 26, 3) := by decide +kernel
theorem dX6_drives_125 : decode cX6_drives 125 = .ok (.bipush 15, 2) := by decide +kernel
theorem dX6_drives_127 : decode cX6_drives 127 = .ok (.iload_n 1, 1) := by decide +kernel
theorem dX6_drives_128 : decode cX6_drives 128 = .ok (.iadd, 1) := by decide +kernel
theorem dX6_drives_129 : decode cX6_drives 129 = .ok (.iaload, 1) := by decide +kernel
theorem dX6_drives_130 : decode cX6_drives 130 = .ok (.iload 5, 2) := by decide +kernel
theorem dX6_drives_132 : decode cX6_drives 132 = .ok (.if_icmp .ne 20, 3) := by decide +kernel
theorem dX6_drives_135 : decode cX6_drives 135 = .ok (.aload_n 0, 1) := by decide +kernel
theorem dX6_drives_136 : decode cX6_drives 136 = .ok (.getfield 26, 3) := by decide +kernel
theorem dX6_drives_139 : decode cX6_drives 139 = .ok (.iconst 3, 1) := by decide +kernel
theorem dX6_drives_140 : decode cX6_drives 140 = .ok (.iload_n 1, 1) := by decide +kernel
theorem dX6_drives_141 : decode cX6_drives 141 = .ok (.iadd, 1) := by decide +kernel
theorem dX6_drives_142 : decode cX6_drives 142 = .ok (.iaload, 1) := by decide +kernel
theorem dX6_drives_143 : decode cX6_drives 143 = .ok (.iload 6, 2) := by decide +kernel
theorem dX6_drives_145 : decode cX6_drives 145 = .ok (.if_icmp .ge 7, 3) := by decide +kernel
theorem dX6_drives_148 : decode cX6_drives 148 = .ok (.iconst 1, 1) := by decide +kernel
theorem dX6_drives_149 : decode cX6_drives 149 = .ok (.goto 4, 3) := by decide +kernel
theorem dX6_drives_152 : decode cX6_drives 152 = .ok (.iconst 0, 1) := by decide +kernel
theorem dX6_drives_153 : decode cX6_drives 153 = .ok (.istore 9, 2) := by decide +kernel
theorem dX6_drives_155 : decode cX6_drives 155 = .ok (.iload 4, 2) := by decide +kernel
theorem dX6_drives_157 : decode cX6_drives 157 = .ok (.bipush (-4), 2) := by decide +kernel
theorem dX6_drives_159 : decode cX6_drives 159 = .ok (.if_icmp .eq 8, 3) := by decide +kernel
theorem dX6_drives_162 : decode cX6_drives 162 = .ok (.iload 9, 2) := by decide +kernel
theorem dX6_drives_164 : decode cX6_drives 164 = .ok (.ifCond .eq 34, 3) := by decide +kernel
theorem dX6_drives_167 : decode cX6_drives 167 = .ok (.bipush 10, 2) := by decide +kernel
theorem dX6_drives_169 : decode cX6_drives 169 = .ok (.iload 7, 2) := by decide +kernel
theorem dX6_drives_171 : decode cX6_drives 171 = .ok (.imul, 1) := by decide +kernel
theorem dX6_drives_172 : decode cX6_drives 172 = .ok (.iload 8, 2) := by decide +kernel
theorem dX6_drives_174 : decode cX6_drives 174 = .ok (.iadd, 1) := by decide +kernel
theorem dX6_drives_175 : decode cX6_drives 175 = .ok (.istore 4, 2) := by decide +kernel
theorem dX6_drives_177 : decode cX6_drives 177 = .ok (.aload_n 0, 1) := by decide +kernel
theorem dX6_drives_178 : decode cX6_drives 178 = .ok (.getfield 26, 3) := by decide +kernel
theorem dX6_drives_181 : decode cX6_drives 181 = .ok (.bipush 15, 2) := by decide +kernel
theorem dX6_drives_183 : decode cX6_drives 183 = .ok (.iload_n 1, 1) := by decide +kernel
theorem dX6_drives_184 : decode cX6_drives 184 = .ok (.iadd, 1) := by decide +kernel
theorem dX6_drives_185 : decode cX6_drives 185 = .ok (.iaload, 1) := by decide +kernel
theorem dX6_drives_186 : decode cX6_drives 186 = .ok (.istore 5, 2) := by decide +kernel
theorem dX6_drives_188 : decode cX6_drives 188 = .ok (.aload_n 0, 1) := by decide +kernel
theorem dX6_drives_189 : decode cX6_drives 189 = .ok (.getfield 26, 3) := by decide +kernel
theorem dX6_drives_192 : decode cX6_drives 192 = .ok (.iconst 3, 1) := by decide +kernel
theorem dX6_drives_193 : decode cX6_drives 193 = .ok (.iload_n 1, 1) := by decide +kernel
theorem dX6_drives_194 : decode cX6_drives 194 = .ok (.iadd, 1) := by decide +kernel
theorem dX6_drives_195 : decode cX6_drives 195 = .ok (.iaload, 1) := by decide +kernel
theorem dX6_drives_196 : decode cX6_drives 196 = .ok (.istore 6, 2) := by decide +kernel
theorem dX6_drives_198 : decode cX6_drives 198 = .ok (.iinc 8 1, 3) := by decide +kernel
theorem dX6_drives_201 : decode cX6_drives 201 = .ok (.goto (-142), 3) := by decide +kernel
theorem dX6_drives_204 : decode cX6_drives 204 = .ok (.iinc 7 1, 3) := by decide +kernel
theorem dX6_drives_207 : decode cX6_drives 207 = .ok (.goto (-163), 3) := by decide +kernel
theorem dX6_drives_210 : decode cX6_drives 210 = .ok (.iload_n 3, 1) := by decide +kernel
theorem dX6_drives_211 : decode cX6_drives 211 = .ok (.ifCond .ne 8, 3) := by decide +kernel
theorem dX6_drives_214 : decode cX6_drives 214 = .ok (.iload 4, 2) := by decide +kernel
theorem dX6_drives_216 : decode cX6_drives 216 = .ok (.goto 5, 3) := by decide +kernel
theorem dX6_drives_219 : decode cX6_drives 219 = .ok (.iload 5, 2) := by decide +kernel
theorem dX6_drives_221 : decode cX6_drives 221 = .ok (.ireturn, 1) := by decide +kernel
theorem dX6_visits_0 : decode cX6_visits 0 = .ok (.iload_n 1, 1) := by decide +kernel
theorem dX6_visits_1 : decode cX6_visits 1 = .ok (.iconst 1, 1) := by decide +kernel
theorem dX6_visits_2 : decode cX6_visits 2 = .ok (.bipush 40, 2) := by decide +kernel
theorem dX6_visits_4 : decode cX6_visits 4 = .ok (.invokestatic 47, 3) := by decide +kernel
theorem dX6_visits_7 : decode cX6_visits 7 = .ok (.ifCond .eq 12, 3) := by decide +kernel
theorem dX6_visits_10 : decode cX6_visits 10 = .ok (.iload_n 2, 1) := by decide +kernel
theorem dX6_visits_11 : decode cX6_visits 11 = .ok (.iconst 0, 1) := by decide +kernel
theorem dX6_visits_12 : decode cX6_visits 12 = .ok (.iconst 1, 1) := by decide +kernel
theorem dX6_visits_13 : decode cX6_visits 13 = .ok (.invokestatic 47, 3) := by decide +kernel
theorem dX6_visits_16 : decode cX6_visits 16 = .ok (.ifCond .ne 5, 3) := by decide +kernel
theorem dX6_visits_19 : decode cX6_visits 19 = .ok (.iconst (-1), 1) := by decide +kernel
theorem dX6_visits_20 : decode cX6_visits 20 = .ok (.ireturn, 1) := by decide +kernel
theorem dX6_visits_21 : decode cX6_visits 21 = .ok (.aload_n 0, 1) := by decide +kernel
theorem dX6_visits_22 : decode cX6_visits 22 = .ok (.invokevirtual 158, 3) := by decide +kernel
theorem dX6_visits_25 : decode cX6_visits 25 = .ok (.aload_n 0, 1) := by decide +kernel
theorem dX6_visits_26 : decode cX6_visits 26 = .ok (.iload_n 1, 1) := by decide +kernel
theorem dX6_visits_27 : decode cX6_visits 27 = .ok (.invokevirtual 161, 3) := by decide +kernel
theorem dX6_visits_30 : decode cX6_visits 30 = .ok (.bipush (-4), 2) := by decide +kernel
theorem dX6_visits_32 : decode cX6_visits 32 = .ok (.istore_n 3, 1) := by decide +kernel
theorem dX6_visits_33 : decode cX6_visits 33 = .ok (.iconst 0, 1) := by decide +kernel
theorem dX6_visits_34 : decode cX6_visits 34 = .ok (.istore 4, 2) := by decide +kernel
theorem dX6_visits_36 : decode cX6_visits 36 = .ok (.iload 4, 2) := by decide +kernel
theorem dX6_visits_38 : decode cX6_visits 38 = .ok (.aload_n 0, 1) := by decide +kernel
theorem dX6_visits_39 : decode cX6_visits 39 = .ok (.getfield 23, 3) := by decide +kernel
theorem dX6_visits_42 : decode cX6_visits 42 = .ok (.bipush 27, 2) := by decide +kernel
theorem dX6_visits_44 : decode cX6_visits 44 = .ok (.iaload, 1) := by decide +kernel
theorem dX6_visits_45 : decode cX6_visits 45 = .ok (.if_icmp .ge 38, 3) := by decide +kernel
theorem dX6_visits_48 : decode cX6_visits 48 = .ok (.iload_n 3, 1) := by decide +kernel
theorem dX6_visits_49 : decode cX6_visits 49 = .ok (.bipush (-4), 2) := by decide +kernel
theorem dX6_visits_51 : decode cX6_visits 51 = .ok (.if_icmp .eq 19, 3) := by decide +kernel
theorem dX6_visits_54 : decode cX6_visits 54 = .ok (.aload_n 0, 1) := by decide +kernel
theorem dX6_visits_55 : decode cX6_visits 55 = .ok (.getfield 38, 3) := by decide +kernel
theorem dX6_visits_58 : decode cX6_visits 58 = .ok (.iload 4, 2) := by decide +kernel
theorem dX6_visits_60 : decode cX6_visits 60 = .ok (.iaload, 1) := by decide +kernel
theorem dX6_visits_61 : decode cX6_visits 61 = .ok (.aload_n 0, 1) := by decide +kernel
theorem dX6_visits_62 : decode cX6_visits 62 = .ok (.getfield 38, 3) := by decide +kernel
theorem dX6_visits_65 : decode cX6_visits 65 = .ok (.iload_n 3, 1) := by decide +kernel
theorem dX6_visits_66 : decode cX6_visits 66 = .ok (.iaload, 1) := by decide +kernel
theorem dX6_visits_67 : decode cX6_visits 67 = .ok (.if_icmp .le 8, 3) := by decide +kernel
theorem dX6_visits_70 : decode cX6_visits 70 = .ok (.iload 4, 2) := by decide +kernel
theorem dX6_visits_72 : decode cX6_visits 72 = .ok (.goto 4, 3) := by decide +kernel
theorem dX6_visits_75 : decode cX6_visits 75 = .ok (.iload_n 3, 1) := by decide +kernel
theorem dX6_visits_76 : decode cX6_visits 76 = .ok (.istore_n 3, 1) := by decide +kernel
theorem dX6_visits_77 : decode cX6_visits 77 = .ok (.iinc 4 1, 3) := by decide +kernel
theorem dX6_visits_80 : decode cX6_visits 80 = .ok (.goto (-44), 3) := by decide +kernel
theorem dX6_visits_83 : decode cX6_visits 83 = .ok (.iload_n 3, 1) := by decide +kernel
theorem dX6_visits_84 : decode cX6_visits 84 = .ok (.bipush (-4), 2) := by decide +kernel
theorem dX6_visits_86 : decode cX6_visits 86 = .ok (.if_icmp .eq 7, 3) := by decide +kernel
theorem dX6_visits_89 : decode cX6_visits 89 = .ok (.iload_n 2, 1) := by decide +kernel
theorem dX6_visits_90 : decode cX6_visits 90 = .ok (.ifCond .ne 7, 3) := by decide +kernel
theorem dX6_visits_93 : decode cX6_visits 93 = .ok (.iload_n 3, 1) := by decide +kernel
theorem dX6_visits_94 : decode cX6_visits 94 = .ok (.goto 9, 3) := by decide +kernel
theorem dX6_visits_97 : decode cX6_visits 97 = .ok (.aload_n 0, 1) := by decide +kernel
theorem dX6_visits_98 : decode cX6_visits 98 = .ok (.getfield 38, 3) := by decide +kernel
theorem dX6_visits_101 : decode cX6_visits 101 = .ok (.iload_n 3, 1) := by decide +kernel
theorem dX6_visits_102 : decode cX6_visits 102 = .ok (.iaload, 1) := by decide +kernel
theorem dX6_visits_103 : decode cX6_visits 103 = .ok (.ireturn, 1) := by decide +kernel
theorem dX6_solvent_0 : decode cX6_solvent 0 = .ok (.aload_n 0, 1) := by decide +kernel
theorem dX6_solvent_1 : decode cX6_solvent 1 = .ok (.iload_n 1, 1) := by decide +kernel
theorem dX6_solvent_2 : decode cX6_solvent 2 = .ok (.invokevirtual 55, 3) := by decide +kernel
theorem dX6_solvent_5 : decode cX6_solvent 5 = .ok (.ifCond .eq 13, 3) := by decide +kernel
theorem dX6_solvent_8 : decode cX6_solvent 8 = .ok (.iload_n 2, 1) := by decide +kernel
theorem dX6_solvent_9 : decode cX6_solvent 9 = .ok (.iconst 1, 1) := by decide +kernel
theorem dX6_solvent_10 : decode cX6_solvent 10 = .ok (.bipush 40, 2) := by decide +kernel
theorem dX6_solvent_12 : decode cX6_solvent 12 = .ok (.invokestatic 47, 3) := by decide +kernel
theorem dX6_solvent_15 : decode cX6_solvent 15 = .ok (.ifCond .ne 5, 3) := by decide +kernel
theorem dX6_solvent_18 : decode cX6_solvent 18 = .ok (.iconst (-1), 1) := by decide +kernel
theorem dX6_solvent_19 : decode cX6_solvent 19 = .ok (.ireturn, 1) := by decide +kernel
theorem dX6_solvent_20 : decode cX6_solvent 20 = .ok (.bipush 20, 2) := by decide +kernel
theorem dX6_solvent_22 : decode cX6_solvent 22 = .ok (.istore_n 3, 1) := by decide +kernel
theorem dX6_solvent_23 : decode cX6_solvent 23 = .ok (.iload_n 3, 1) := by decide +kernel
theorem dX6_solvent_24 : decode cX6_solvent 24 = .ok (.ifCond .lt 47, 3) := by decide +kernel
theorem dX6_solvent_27 : decode cX6_solvent 27 = .ok (.aload_n 0, 1) := by decide +kernel
theorem dX6_solvent_28 : decode cX6_solvent 28 = .ok (.invokevirtual 158, 3) := by decide +kernel
theorem dX6_solvent_31 : decode cX6_solvent 31 = .ok (.aload_n 0, 1) := by decide +kernel
theorem dX6_solvent_32 : decode cX6_solvent 32 = .ok (.getfield 26, 3) := by decide +kernel
theorem dX6_solvent_35 : decode cX6_solvent 35 = .ok (.bipush 26, 2) := by decide +kernel
theorem dX6_solvent_37 : decode cX6_solvent 37 = .ok (.iload_n 3, 1) := by decide +kernel
theorem dX6_solvent_38 : decode cX6_solvent 38 = .ok (.iastore, 1) := by decide +kernel
theorem dX6_solvent_39 : decode cX6_solvent 39 = .ok (.aload_n 0, 1) := by decide +kernel
theorem dX6_solvent_40 : decode cX6_solvent 40 = .ok (.iload_n 2, 1) := by decide +kernel
theorem dX6_solvent_41 : decode cX6_solvent 41 = .ok (.invokevirtual 161, 3) := by decide +kernel
theorem dX6_solvent_44 : decode cX6_solvent 44 = .ok (.aload_n 0, 1) := by decide +kernel
theorem dX6_solvent_45 : decode cX6_solvent 45 = .ok (.getfield 26, 3) := by decide +kernel
theorem dX6_solvent_48 : decode cX6_solvent 48 = .ok (.iconst 3, 1) := by decide +kernel
theorem dX6_solvent_49 : decode cX6_solvent 49 = .ok (.iload_n 1, 1) := by decide +kernel
theorem dX6_solvent_50 : decode cX6_solvent 50 = .ok (.iadd, 1) := by decide +kernel
theorem dX6_solvent_51 : decode cX6_solvent 51 = .ok (.iaload, 1) := by decide +kernel
theorem dX6_solvent_52 : decode cX6_solvent 52 = .ok (.aload_n 0, 1) := by decide +kernel
theorem dX6_solvent_53 : decode cX6_solvent 53 = .ok (.getfield 23, 3) := by decide +kernel
theorem dX6_solvent_56 : decode cX6_solvent 56 = .ok (.iconst 3, 1) := by decide +kernel
theorem dX6_solvent_57 : decode cX6_solvent 57 = .ok (.iload_n 1, 1) := by decide +kernel
theorem dX6_solvent_58 : decode cX6_solvent 58 = .ok (.iadd, 1) := by decide +kernel
theorem dX6_solvent_59 : decode cX6_solvent 59 = .ok (.iaload, 1) := by decide +kernel
theorem dX6_solvent_60 : decode cX6_solvent 60 = .ok (.if_icmp .gt 5, 3) := by decide +kernel
theorem dX6_solvent_63 : decode cX6_solvent 63 = .ok (.iload_n 3, 1) := by decide +kernel
theorem dX6_solvent_64 : decode cX6_solvent 64 = .ok (.ireturn, 1) := by decide +kernel
theorem dX6_solvent_65 : decode cX6_solvent 65 = .ok (.iinc 3 (-1), 3) := by decide +kernel
theorem dX6_solvent_68 : decode cX6_solvent 68 = .ok (.goto (-45), 3) := by decide +kernel
theorem dX6_solvent_71 : decode cX6_solvent 71 = .ok (.bipush (-4), 2) := by decide +kernel
theorem dX6_solvent_73 : decode cX6_solvent 73 = .ok (.ireturn, 1) := by decide +kernel
theorem dX6_sleep_0 : decode cX6_sleep 0 = .ok (.aload_n 0, 1) := by decide +kernel
theorem dX6_sleep_1 : decode cX6_sleep 1 = .ok (.iload_n 1, 1) := by decide +kernel
theorem dX6_sleep_2 : decode cX6_sleep 2 = .ok (.invokevirtual 55, 3) := by decide +kernel
theorem dX6_sleep_5 : decode cX6_sleep 5 = .ok (.ifCond .eq 22, 3) := by decide +kernel
theorem dX6_sleep_8 : decode cX6_sleep 8 = .ok (.iload_n 2, 1) := by decide +kernel
theorem dX6_sleep_9 : decode cX6_sleep 9 = .ok (.iconst 0, 1) := by decide +kernel
theorem dX6_sleep_10 : decode cX6_sleep 10 = .ok (.bipush 10, 2) := by decide +kernel
theorem dX6_sleep_12 : decode cX6_sleep 12 = .ok (.invokestatic 47, 3) := by decide +kernel
theorem dX6_sleep_15 : decode cX6_sleep 15 = .ok (.ifCond .eq 12, 3) := by decide +kernel
theorem dX6_sleep_18 : decode cX6_sleep 18 = .ok (.iload_n 3, 1) := by decide +kernel
theorem dX6_sleep_19 : decode cX6_sleep 19 = .ok (.iconst 0, 1) := by decide +kernel
theorem dX6_sleep_20 : decode cX6_sleep 20 = .ok (.iconst 1, 1) := by decide +kernel
theorem dX6_sleep_21 : decode cX6_sleep 21 = .ok (.invokestatic 47, 3) := by decide +kernel
theorem dX6_sleep_24 : decode cX6_sleep 24 = .ok (.ifCond .ne 5, 3) := by decide +kernel
theorem dX6_sleep_27 : decode cX6_sleep 27 = .ok (.iconst (-1), 1) := by decide +kernel
theorem dX6_sleep_28 : decode cX6_sleep 28 = .ok (.ireturn, 1) := by decide +kernel
theorem dX6_sleep_29 : decode cX6_sleep 29 = .ok (.iconst 0, 1) := by decide +kernel
theorem dX6_sleep_30 : decode cX6_sleep 30 = .ok (.istore 4, 2) := by decide +kernel
theorem dX6_sleep_32 : decode cX6_sleep 32 = .ok (.iconst 1, 1) := by decide +kernel
theorem dX6_sleep_33 : decode cX6_sleep 33 = .ok (.istore 5, 2) := by decide +kernel
theorem dX6_sleep_35 : decode cX6_sleep 35 = .ok (.iconst 0, 1) := by decide +kernel
theorem dX6_sleep_36 : decode cX6_sleep 36 = .ok (.istore 6, 2) := by decide +kernel
theorem dX6_sleep_38 : decode cX6_sleep 38 = .ok (.iload 6, 2) := by decide +kernel
theorem dX6_sleep_40 : decode cX6_sleep 40 = .ok (.aload_n 0, 1) := by decide +kernel
theorem dX6_sleep_41 : decode cX6_sleep 41 = .ok (.getfield 23, 3) := by decide +kernel
theorem dX6_sleep_44 : decode cX6_sleep 44 = .ok (.bipush 28, 2) := by decide +kernel
theorem dX6_sleep_46 : decode cX6_sleep 46 = .ok (.iaload, 1) := by decide +kernel
theorem dX6_sleep_47 : decode cX6_sleep 47 = .ok (.if_icmp .ge 16, 3) := by decide +kernel
theorem dX6_sleep_50 : decode cX6_sleep 50 = .ok (.iload 5, 2) := by decide +kernel
theorem dX6_sleep_52 : decode cX6_sleep 52 = .ok (.bipush 10, 2) := by decide +kernel
theorem dX6_sleep_54 : decode cX6_sleep 54 = .ok (.imul, 1) := by decide +kernel
theorem dX6_sleep_55 : decode cX6_sleep 55 = .ok (.istore 5, 2) := by decide +kernel
theorem dX6_sleep_57 : decode cX6_sleep 57 = .ok (.iinc 6 1, 3) := by decide +kernel
theorem dX6_sleep_60 : decode cX6_sleep 60 = .ok (.goto (-22), 3) := by decide +kernel
theorem dX6_sleep_63 : decode cX6_sleep 63 = .ok (.iconst 0, 1) := by decide +kernel
theorem dX6_sleep_64 : decode cX6_sleep 64 = .ok (.istore 6, 2) := by decide +kernel
theorem dX6_sleep_66 : decode cX6_sleep 66 = .ok (.iload 6, 2) := by decide +kernel
theorem dX6_sleep_68 : decode cX6_sleep 68 = .ok (.iconst 1, 1) := by decide +kernel
theorem dX6_sleep_69 : decode cX6_sleep 69 = .ok (.aload_n 0, 1) := by decide +kernel
theorem dX6_sleep_70 : decode cX6_sleep 70 = .ok (.getfield 23, 3) := by decide +kernel
theorem dX6_sleep_73 : decode cX6_sleep 73 = .ok (.bipush 28, 2) := by decide +kernel
theorem dX6_sleep_75 : decode cX6_sleep 75 = .ok (.iaload, 1) := by decide +kernel
theorem dX6_sleep_76 : decode cX6_sleep 76 = .ok (.ishl, 1) := by decide +kernel
theorem dX6_sleep_77 : decode cX6_sleep 77 = .ok (.if_icmp .ge 102, 3) := by decide +kernel
theorem dX6_sleep_80 : decode cX6_sleep 80 = .ok (.iconst 1, 1) := by decide +kernel
theorem dX6_sleep_81 : decode cX6_sleep 81 = .ok (.istore 7, 2) := by decide +kernel
theorem dX6_sleep_83 : decode cX6_sleep 83 = .ok (.iconst 0, 1) := by decide +kernel
theorem dX6_sleep_84 : decode cX6_sleep 84 = .ok (.istore 8, 2) := by decide +kernel
theorem dX6_sleep_86 : decode cX6_sleep 86 = .ok (.iload 8, 2) := by decide +kernel
theorem dX6_sleep_88 : decode cX6_sleep 88 = .ok (.aload_n 0, 1) := by decide +kernel
theorem dX6_sleep_89 : decode cX6_sleep 89 = .ok (.getfield 23, 3) := by decide +kernel
theorem dX6_sleep_92 : decode cX6_sleep 92 = .ok (.bipush 28, 2) := by decide +kernel
theorem dX6_sleep_94 : decode cX6_sleep 94 = .ok (.iaload, 1) := by decide +kernel
theorem dX6_sleep_95 : decode cX6_sleep 95 = .ok (.if_icmp .ge 32, 3) := by decide +kernel
theorem dX6_sleep_98 : decode cX6_sleep 98 = .ok (.iload 7, 2) := by decide +kernel
theorem dX6_sleep_100 : decode cX6_sleep 100 = .ok (.iload 6, 2) := by decide +kernel
theorem dX6_sleep_102 : decode cX6_sleep 102 = .ok (.iload 8, 2) := by decide +kernel
theorem dX6_sleep_104 : decode cX6_sleep 104 = .ok (.invokestatic 138, 3) := by decide +kernel
theorem dX6_sleep_107 : decode cX6_sleep 107 = .ok (.ifCond .eq 7, 3) := by decide +kernel
theorem dX6_sleep_110 : decode cX6_sleep 110 = .ok (.iload_n 2, 1) := by decide +kernel
theorem dX6_sleep_111 : decode cX6_sleep 111 = .ok (.goto 7, 3) := by decide +kernel
theorem dX6_sleep_114 : decode cX6_sleep 114 = .ok (.bipush 10, 2) := by decide +kernel
theorem dX6_sleep_116 : decode cX6_sleep 116 = .ok (.iload_n 2, 1) := by decide +kernel
theorem dX6_sleep_117 : decode cX6_sleep 117 = .ok (.isub, 1) := by decide +kernel
theorem dX6_sleep_118 : decode cX6_sleep 118 = .ok (.imul, 1) := by decide +kernel
theorem dX6_sleep_119 : decode cX6_sleep 119 = .ok (.istore 7, 2) := by decide +kernel
theorem dX6_sleep_121 : decode cX6_sleep 121 = .ok (.iinc 8 1, 3) := by decide +kernel
theorem dX6_sleep_124 : decode cX6_sleep 124 = .ok (.goto (-38), 3) := by decide +kernel
theorem dX6_sleep_127 : decode cX6_sleep 127 = .ok (.aload_n 0, 1) := by decide +kernel
theorem dX6_sleep_128 : decode cX6_sleep 128 = .ok (.invokevirtual 158, 3) := by decide +kernel
theorem dX6_sleep_131 : decode cX6_sleep 131 = .ok (.aload_n 0, 1) := by decide +kernel
theorem dX6_sleep_132 : decode cX6_sleep 132 = .ok (.aload_n 0, 1) := by decide +kernel
theorem dX6_sleep_133 : decode cX6_sleep 133 = .ok (.getfield 26, 3) := by decide +kernel
theorem dX6_sleep_136 : decode cX6_sleep 136 = .ok (.iload 6, 2) := by decide +kernel
theorem dX6_sleep_138 : decode cX6_sleep 138 = .ok (.invokevirtual 148, 3) := by decide +kernel
theorem dX6_sleep_141 : decode cX6_sleep 141 = .ok (.iload 4, 2) := by decide +kernel
theorem dX6_sleep_143 : decode cX6_sleep 143 = .ok (.aload_n 0, 1) := by decide +kernel
theorem dX6_sleep_144 : decode cX6_sleep 144 = .ok (.getfield 26, 3) := by decide +kernel
theorem dX6_sleep_147 : decode cX6_sleep 147 = .ok (.bipush 15, 2) := by decide +kernel
theorem dX6_sleep_149 : decode cX6_sleep 149 = .ok (.iload_n 1, 1) := by decide +kernel
theorem dX6_sleep_150 : decode cX6_sleep 150 = .ok (.iadd, 1) := by decide +kernel
theorem dX6_sleep_151 : decode cX6_sleep 151 = .ok (.iaload, 1) := by decide +kernel
theorem dX6_sleep_152 : decode cX6_sleep 152 = .ok (.aload_n 0, 1) := by decide +kernel
theorem dX6_sleep_153 : decode cX6_sleep 153 = .ok (.getfield 23, 3) := by decide +kernel
theorem dX6_sleep_156 : decode cX6_sleep 156 = .ok (.bipush 15, 2) := by decide +kernel
theorem dX6_sleep_158 : decode cX6_sleep 158 = .ok (.iload_n 1, 1) := by decide +kernel
theorem dX6_sleep_159 : decode cX6_sleep 159 = .ok (.iadd, 1) := by decide +kernel
theorem dX6_sleep_160 : decode cX6_sleep 160 = .ok (.iaload, 1) := by decide +kernel
theorem dX6_sleep_161 : decode cX6_sleep 161 = .ok (.if_icmp .le 8, 3) := by decide +kernel
theorem dX6_sleep_164 : decode cX6_sleep 164 = .ok (.iload 7, 2) := by decide +kernel
theorem dX6_sleep_166 : decode cX6_sleep 166 = .ok (.goto 4, 3) := by decide +kernel
theorem dX6_sleep_169 : decode cX6_sleep 169 = .ok (.iconst 0, 1) := by decide +kernel
theorem dX6_sleep_170 : decode cX6_sleep 170 = .ok (.iadd, 1) := by decide +kernel
theorem dX6_sleep_171 : decode cX6_sleep 171 = .ok (.istore 4, 2) := by decide +kernel
theorem dX6_sleep_173 : decode cX6_sleep 173 = .ok (.iinc 6 1, 3) := by decide +kernel
theorem dX6_sleep_176 : decode cX6_sleep 176 = .ok (.goto (-110), 3) := by decide +kernel
theorem dX6_sleep_179 : decode cX6_sleep 179 = .ok (.iload 4, 2) := by decide +kernel
theorem dX6_sleep_181 : decode cX6_sleep 181 = .ok (.istore 6, 2) := by decide +kernel
theorem dX6_sleep_183 : decode cX6_sleep 183 = .ok (.iload 5, 2) := by decide +kernel
theorem dX6_sleep_185 : decode cX6_sleep 185 = .ok (.istore 7, 2) := by decide +kernel
theorem dX6_sleep_187 : decode cX6_sleep 187 = .ok (.iload 7, 2) := by decide +kernel
theorem dX6_sleep_189 : decode cX6_sleep 189 = .ok (.ifCond .le 21, 3) := by decide +kernel
theorem dX6_sleep_192 : decode cX6_sleep 192 = .ok (.iload 6, 2) := by decide +kernel
theorem dX6_sleep_194 : decode cX6_sleep 194 = .ok (.iload 7, 2) := by decide +kernel
theorem dX6_sleep_196 : decode cX6_sleep 196 = .ok (.irem, 1) := by decide +kernel
theorem dX6_sleep_197 : decode cX6_sleep 197 = .ok (.istore 8, 2) := by decide +kernel
theorem dX6_sleep_199 : decode cX6_sleep 199 = .ok (.iload 7, 2) := by decide +kernel
theorem dX6_sleep_201 : decode cX6_sleep 201 = .ok (.istore 6, 2) := by decide +kernel
theorem dX6_sleep_203 : decode cX6_sleep 203 = .ok (.iload 8, 2) := by decide +kernel
theorem dX6_sleep_205 : decode cX6_sleep 205 = .ok (.istore 7, 2) := by decide +kernel
theorem dX6_sleep_207 : decode cX6_sleep 207 = .ok (.goto (-20), 3) := by decide +kernel
theorem dX6_sleep_210 : decode cX6_sleep 210 = .ok (.iload_n 3, 1) := by decide +kernel
theorem dX6_sleep_211 : decode cX6_sleep 211 = .ok (.ifCond .ne 8, 3) := by decide +kernel
theorem dX6_sleep_214 : decode cX6_sleep 214 = .ok (.iload 4, 2) := by decide +kernel
theorem dX6_sleep_216 : decode cX6_sleep 216 = .ok (.goto 5, 3) := by decide +kernel
theorem dX6_sleep_219 : decode cX6_sleep 219 = .ok (.iload 5, 2) := by decide +kernel
theorem dX6_sleep_221 : decode cX6_sleep 221 = .ok (.iload 6, 2) := by decide +kernel
theorem dX6_sleep_223 : decode cX6_sleep 223 = .ok (.idiv, 1) := by decide +kernel
theorem dX6_sleep_224 : decode cX6_sleep 224 = .ok (.ireturn, 1) := by decide +kernel
theorem dX6_image_0 : decode cX6_image 0 = .ok (.aload_n 0, 1) := by decide +kernel
theorem dX6_image_1 : decode cX6_image 1 = .ok (.getfield 23, 3) := by decide +kernel
theorem dX6_image_4 : decode cX6_image 4 = .ok (.iconst 0, 1) := by decide +kernel
theorem dX6_image_5 : decode cX6_image 5 = .ok (.aload_n 0, 1) := by decide +kernel
theorem dX6_image_6 : decode cX6_image 6 = .ok (.getfield 32, 3) := by decide +kernel
theorem dX6_image_9 : decode cX6_image 9 = .ok (.iconst 0, 1) := by decide +kernel
theorem dX6_image_10 : decode cX6_image 10 = .ok (.sipush 248, 3) := by decide +kernel
theorem dX6_image_13 : decode cX6_image 13 = .ok (.invokestatic 115, 3) := by decide +kernel
theorem dX6_image_16 : decode cX6_image 16 = .ok (.aload_n 0, 1) := by decide +kernel
theorem dX6_image_17 : decode cX6_image 17 = .ok (.iconst 1, 1) := by decide +kernel
theorem dX6_image_18 : decode cX6_image 18 = .ok (.putfield 171, 3) := by decide +kernel
theorem dX6_image_21 : decode cX6_image 21 = .ok (.iconst 1, 1) := by decide +kernel
theorem dX6_image_22 : decode cX6_image 22 = .ok (.ireturn, 1) := by decide +kernel
theorem dX6_restore_0 : decode cX6_restore 0 = .ok (.aload_n 0, 1) := by decide +kernel
theorem dX6_restore_1 : decode cX6_restore 1 = .ok (.getfield 171, 3) := by decide +kernel
theorem dX6_restore_4 : decode cX6_restore 4 = .ok (.ifCond .ne 6, 3) := by decide +kernel
theorem dX6_restore_7 : decode cX6_restore 7 = .ok (.bipush (-4), 2) := by decide +kernel
theorem dX6_restore_9 : decode cX6_restore 9 = .ok (.ireturn, 1) := by decide +kernel
theorem dX6_restore_10 : decode cX6_restore 10 = .ok (.aload_n 0, 1) := by decide +kernel
theorem dX6_restore_11 : decode cX6_restore 11 = .ok (.getfield 32, 3) := by decide +kernel
theorem dX6_restore_14 : decode cX6_restore 14 = .ok (.iconst 0, 1) := by decide +kernel
theorem dX6_restore_15 : decode cX6_restore 15 = .ok (.aload_n 0, 1) := by decide +kernel
theorem dX6_restore_16 : decode cX6_restore 16 = .ok (.getfield 23, 3) := by decide +kernel
theorem dX6_restore_19 : decode cX6_restore 19 = .ok (.iconst 0, 1) := by decide +kernel
theorem dX6_restore_20 : decode cX6_restore 20 = .ok (.sipush 248, 3) := by decide +kernel
theorem dX6_restore_23 : decode cX6_restore 23 = .ok (.invokestatic 115, 3) := by decide +kernel
theorem dX6_restore_26 : decode cX6_restore 26 = .ok (.iconst 1, 1) := by decide +kernel
theorem dX6_restore_27 : decode cX6_restore 27 = .ok (.ireturn, 1) := by decide +kernel
theorem dX6_isSheet_0 : decode cX6_isSheet 0 = .ok (.iload_n 0, 1) := by decide +kernel
theorem dX6_isSheet_1 : decode cX6_isSheet 1 = .ok (.iconst 0, 1) := by decide +kernel
theorem dX6_isSheet_2 : decode cX6_isSheet 2 = .ok (.iconst 3, 1) := by decide +kernel
theorem dX6_isSheet_3 : decode cX6_isSheet 3 = .ok (.invokestatic 47, 3) := by decide +kernel
theorem dX6_isSheet_6 : decode cX6_isSheet 6 = .ok (.ireturn, 1) := by decide +kernel
theorem dX6_isPart_0 : decode cX6_isPart 0 = .ok (.iload_n 1, 1) := by decide +kernel
theorem dX6_isPart_1 : decode cX6_isPart 1 = .ok (.ifCond .lt 23, 3) := by decide +kernel
theorem dX6_isPart_4 : decode cX6_isPart 4 = .ok (.iload_n 0, 1) := by decide +kernel
theorem dX6_isPart_5 : decode cX6_isPart 5 = .ok (.ifCond .lt 19, 3) := by decide +kernel
theorem dX6_isPart_8 : decode cX6_isPart 8 = .ok (.iload_n 1, 1) := by decide +kernel
theorem dX6_isPart_9 : decode cX6_isPart 9 = .ok (.iload_n 2, 1) := by decide +kernel
theorem dX6_isPart_10 : decode cX6_isPart 10 = .ok (.if_icmp .gt 14, 3) := by decide +kernel
theorem dX6_isPart_13 : decode cX6_isPart 13 = .ok (.iload_n 0, 1) := by decide +kernel
theorem dX6_isPart_14 : decode cX6_isPart 14 = .ok (.iload_n 2, 1) := by decide +kernel
theorem dX6_isPart_15 : decode cX6_isPart 15 = .ok (.iload_n 1, 1) := by decide +kernel
theorem dX6_isPart_16 : decode cX6_isPart 16 = .ok (.isub, 1) := by decide +kernel
theorem dX6_isPart_17 : decode cX6_isPart 17 = .ok (.if_icmp .gt 7, 3) := by decide +kernel
theorem dX6_isPart_20 : decode cX6_isPart 20 = .ok (.iconst 1, 1) := by decide +kernel
theorem dX6_isPart_21 : decode cX6_isPart 21 = .ok (.goto 4, 3) := by decide +kernel
theorem dX6_isPart_24 : decode cX6_isPart 24 = .ok (.iconst 0, 1) := by decide +kernel
theorem dX6_isPart_25 : decode cX6_isPart 25 = .ok (.ireturn, 1) := by decide +kernel
theorem dX6_wrong_0 : decode cX6_wrong 0 = .ok (.aload_n 0, 1) := by decide +kernel
theorem dX6_wrong_1 : decode cX6_wrong 1 = .ok (.getfield 7, 3) := by decide +kernel
theorem dX6_wrong_4 : decode cX6_wrong 4 = .ok (.iload_n 1, 1) := by decide +kernel
theorem dX6_wrong_5 : decode cX6_wrong 5 = .ok (.iaload, 1) := by decide +kernel
theorem dX6_wrong_6 : decode cX6_wrong 6 = .ok (.ifCond .ge 8, 3) := by decide +kernel
theorem dX6_wrong_9 : decode cX6_wrong 9 = .ok (.bipush (-11), 2) := by decide +kernel
theorem dX6_wrong_11 : decode cX6_wrong 11 = .ok (.goto 39, 3) := by decide +kernel
theorem dX6_wrong_14 : decode cX6_wrong 14 = .ok (.aload_n 0, 1) := by decide +kernel
theorem dX6_wrong_15 : decode cX6_wrong 15 = .ok (.getfield 7, 3) := by decide +kernel
theorem dX6_wrong_18 : decode cX6_wrong 18 = .ok (.iload_n 1, 1) := by decide +kernel
theorem dX6_wrong_19 : decode cX6_wrong 19 = .ok (.iaload, 1) := by decide +kernel
theorem dX6_wrong_20 : decode cX6_wrong 20 = .ok (.iload_n 2, 1) := by decide +kernel
theorem dX6_wrong_21 : decode cX6_wrong 21 = .ok (.if_icmp .eq 8, 3) := by decide +kernel
theorem dX6_wrong_24 : decode cX6_wrong 24 = .ok (.bipush (-12), 2) := by decide +kernel
theorem dX6_wrong_26 : decode cX6_wrong 26 = .ok (.goto 24, 3) := by decide +kernel
theorem dX6_wrong_29 : decode cX6_wrong 29 = .ok (.iload_n 3, 1) := by decide +kernel
theorem dX6_wrong_30 : decode cX6_wrong 30 = .ok (.iload 4, 2) := by decide +kernel
theorem dX6_wrong_32 : decode cX6_wrong 32 = .ok (.aload_n 0, 1) := by decide +kernel
theorem dX6_wrong_33 : decode cX6_wrong 33 = .ok (.getfield 13, 3) := by decide +kernel
theorem dX6_wrong_36 : decode cX6_wrong 36 = .ok (.iload_n 1, 1) := by decide +kernel
theorem dX6_wrong_37 : decode cX6_wrong 37 = .ok (.iaload, 1) := by decide +kernel
theorem dX6_wrong_38 : decode cX6_wrong 38 = .ok (.invokestatic 175, 3) := by decide +kernel
theorem dX6_wrong_41 : decode cX6_wrong 41 = .ok (.ifCond .eq 7, 3) := by decide +kernel
theorem dX6_wrong_44 : decode cX6_wrong 44 = .ok (.iconst 0, 1) := by decide +kernel
theorem dX6_wrong_45 : decode cX6_wrong 45 = .ok (.goto 5, 3) := by decide +kernel
theorem dX6_wrong_48 : decode cX6_wrong 48 = .ok (.bipush (-13), 2) := by decide +kernel
theorem dX6_wrong_50 : decode cX6_wrong 50 = .ok (.ireturn, 1) := by decide +kernel
theorem dX6_isLeft_0 : decode cX6_isLeft 0 = .ok (.iconst 1, 1) := by decide +kernel
theorem dX6_isLeft_1 : decode cX6_isLeft 1 = .ok (.istore 5, 2) := by decide +kernel
theorem dX6_isLeft_3 : decode cX6_isLeft 3 = .ok (.iconst 0, 1) := by decide +kernel
theorem dX6_isLeft_4 : decode cX6_isLeft 4 = .ok (.istore 6, 2) := by decide +kernel
theorem dX6_isLeft_6 : decode cX6_isLeft 6 = .ok (.iload 6, 2) := by decide +kernel
theorem dX6_isLeft_8 : decode cX6_isLeft 8 = .ok (.iload 4, 2) := by decide +kernel
theorem dX6_isLeft_10 : decode cX6_isLeft 10 = .ok (.if_icmp .ge 55, 3) := by decide +kernel
theorem dX6_isLeft_13 : decode cX6_isLeft 13 = .ok (.iload 5, 2) := by decide +kernel
theorem dX6_isLeft_15 : decode cX6_isLeft 15 = .ok (.ifCond .eq 50, 3) := by decide +kernel
theorem dX6_isLeft_18 : decode cX6_isLeft 18 = .ok (.aload_n 0, 1) := by decide +kernel
theorem dX6_isLeft_19 : decode cX6_isLeft 19 = .ok (.aload_n 0, 1) := by decide +kernel
theorem dX6_isLeft_20 : decode cX6_isLeft 20 = .ok (.getfield 26, 3) := by decide +kernel
theorem dX6_isLeft_23 : decode cX6_isLeft 23 = .ok (.iconst 0, 1) := by decide +kernel
theorem dX6_isLeft_24 : decode cX6_isLeft 24 = .ok (.invokevirtual 148, 3) := by decide +kernel
theorem dX6_isLeft_27 : decode cX6_isLeft 27 = .ok (.aload_n 0, 1) := by decide +kernel
theorem dX6_isLeft_28 : decode cX6_isLeft 28 = .ok (.getfield 35, 3) := by decide +kernel
theorem dX6_isLeft_31 : decode cX6_isLeft 31 = .ok (.iload_n 1, 1) := by decide +kernel
theorem dX6_isLeft_32 : decode cX6_isLeft 32 = .ok (.iaload, 1) := by decide +kernel
theorem dX6_isLeft_33 : decode cX6_isLeft 33 = .ok (.i2l, 1) := by decide +kernel
theorem dX6_isLeft_34 : decode cX6_isLeft 34 = .ok (.aload_n 0, 1) := by decide +kernel
theorem dX6_isLeft_35 : decode cX6_isLeft 35 = .ok (.getfield 16, 3) := by decide +kernel
theorem dX6_isLeft_38 : decode cX6_isLeft 38 = .ok (.bipush 24, 2) := by decide +kernel
theorem dX6_isLeft_40 : decode cX6_isLeft 40 = .ok (.iload_n 2, 1) := by decide +kernel
theorem dX6_isLeft_41 : decode cX6_isLeft 41 = .ok (.imul, 1) := by decide +kernel
theorem dX6_isLeft_42 : decode cX6_isLeft 42 = .ok (.iload_n 3, 1) := by decide +kernel
theorem dX6_isLeft_43 : decode cX6_isLeft 43 = .ok (.iadd, 1) := by decide +kernel
theorem dX6_isLeft_44 : decode cX6_isLeft 44 = .ok (.iload 6, 2) := by decide +kernel
theorem dX6_isLeft_46 : decode cX6_isLeft 46 = .ok (.iadd, 1) := by decide +kernel
theorem dX6_isLeft_47 : decode cX6_isLeft 47 = .ok (.laload, 1) := by decide +kernel
theorem dX6_isLeft_48 : decode cX6_isLeft 48 = .ok (.lcmp, 1) := by decide +kernel
theorem dX6_isLeft_49 : decode cX6_isLeft 49 = .ok (.ifCond .ne 7, 3) := by decide +kernel
theorem dX6_isLeft_52 : decode cX6_isLeft 52 = .ok (.iconst 1, 1) := by decide +kernel
theorem dX6_isLeft_53 : decode cX6_isLeft 53 = .ok (.goto 4, 3) := by decide +kernel
theorem dX6_isLeft_56 : decode cX6_isLeft 56 = .ok (.iconst 0, 1) := by decide +kernel
theorem dX6_isLeft_57 : decode cX6_isLeft 57 = .ok (.istore 5, 2) := by decide +kernel
theorem dX6_isLeft_59 : decode cX6_isLeft 59 = .ok (.iinc 6 1, 3) := by decide +kernel
theorem dX6_isLeft_62 : decode cX6_isLeft 62 = .ok (.goto (-56), 3) := by decide +kernel
theorem dX6_isLeft_65 : decode cX6_isLeft 65 = .ok (.iload 5, 2) := by decide +kernel
theorem dX6_isLeft_67 : decode cX6_isLeft 67 = .ok (.ireturn, 1) := by decide +kernel
theorem dX6_dawns_0 : decode cX6_dawns 0 = .ok (.aload_n 0, 1) := by decide +kernel
theorem dX6_dawns_1 : decode cX6_dawns 1 = .ok (.iload_n 1, 1) := by decide +kernel
theorem dX6_dawns_2 : decode cX6_dawns 2 = .ok (.invokevirtual 71, 3) := by decide +kernel
theorem dX6_dawns_5 : decode cX6_dawns 5 = .ok (.ifCond .eq 49, 3) := by decide +kernel
theorem dX6_dawns_8 : decode cX6_dawns 8 = .ok (.aload_n 0, 1) := by decide +kernel
theorem dX6_dawns_9 : decode cX6_dawns 9 = .ok (.iload_n 2, 1) := by decide +kernel
theorem dX6_dawns_10 : decode cX6_dawns 10 = .ok (.invokevirtual 55, 3) := by decide +kernel
theorem dX6_dawns_13 : decode cX6_dawns 13 = .ok (.ifCond .eq 41, 3) := by decide +kernel
theorem dX6_dawns_16 : decode cX6_dawns 16 = .ok (.iload_n 3, 1) := by decide +kernel
theorem dX6_dawns_17 : decode cX6_dawns 17 = .ok (.invokestatic 178, 3) := by decide +kernel
theorem dX6_dawns_20 : decode cX6_dawns 20 = .ok (.ifCond .eq 34, 3) := by decide +kernel
theorem dX6_dawns_23 : decode cX6_dawns 23 = .ok (.iload 4, 2) := by decide +kernel
theorem dX6_dawns_25 : decode cX6_dawns 25 = .ok (.iconst 0, 1) := by decide +kernel
theorem dX6_dawns_26 : decode cX6_dawns 26 = .ok (.iconst 3, 1) := by decide +kernel
theorem dX6_dawns_27 : decode cX6_dawns 27 = .ok (.invokestatic 47, 3) := by decide +kernel
theorem dX6_dawns_30 : decode cX6_dawns 30 = .ok (.ifCond .eq 24, 3) := by decide +kernel
theorem dX6_dawns_33 : decode cX6_dawns 33 = .ok (.iload 6, 2) := by decide +kernel
theorem dX6_dawns_35 : decode cX6_dawns 35 = .ok (.iconst 1, 1) := by decide +kernel
theorem dX6_dawns_36 : decode cX6_dawns 36 = .ok (.bipush 8, 2) := by decide +kernel
theorem dX6_dawns_38 : decode cX6_dawns 38 = .ok (.invokestatic 47, 3) := by decide +kernel
theorem dX6_dawns_41 : decode cX6_dawns 41 = .ok (.ifCond .eq 13, 3) := by decide +kernel
theorem dX6_dawns_44 : decode cX6_dawns 44 = .ok (.iload 7, 2) := by decide +kernel
theorem dX6_dawns_46 : decode cX6_dawns 46 = .ok (.iconst 0, 1) := by decide +kernel
theorem dX6_dawns_47 : decode cX6_dawns 47 = .ok (.iconst 1, 1) := by decide +kernel
theorem dX6_dawns_48 : decode cX6_dawns 48 = .ok (.invokestatic 47, 3) := by decide +kernel
theorem dX6_dawns_51 : decode cX6_dawns 51 = .ok (.ifCond .ne 5, 3) := by decide +kernel
theorem dX6_dawns_54 : decode cX6_dawns 54 = .ok (.iconst (-1), 1) := by decide +kernel
theorem dX6_dawns_55 : decode cX6_dawns 55 = .ok (.ireturn, 1) := by decide +kernel
theorem dX6_dawns_56 : decode cX6_dawns 56 = .ok (.aload_n 0, 1) := by decide +kernel
theorem dX6_dawns_57 : decode cX6_dawns 57 = .ok (.iload_n 3, 1) := by decide +kernel
theorem dX6_dawns_58 : decode cX6_dawns 58 = .ok (.iload 4, 2) := by decide +kernel
theorem dX6_dawns_60 : decode cX6_dawns 60 = .ok (.iload 5, 2) := by decide +kernel
theorem dX6_dawns_62 : decode cX6_dawns 62 = .ok (.iload 6, 2) := by decide +kernel
theorem dX6_dawns_64 : decode cX6_dawns 64 = .ok (.invokevirtual 181, 3) := by decide +kernel
theorem dX6_dawns_67 : decode cX6_dawns 67 = .ok (.istore 8, 2) := by decide +kernel
theorem dX6_dawns_69 : decode cX6_dawns 69 = .ok (.iload 8, 2) := by decide +kernel
theorem dX6_dawns_71 : decode cX6_dawns 71 = .ok (.ifCond .eq 6, 3) := by decide +kernel
theorem dX6_dawns_74 : decode cX6_dawns 74 = .ok (.iload 8, 2) := by decide +kernel
theorem dX6_dawns_76 : decode cX6_dawns 76 = .ok (.ireturn, 1) := by decide +kernel
theorem dX6_dawns_77 : decode cX6_dawns 77 = .ok (.iconst 0, 1) := by decide +kernel
theorem dX6_dawns_78 : decode cX6_dawns 78 = .ok (.istore 9, 2) := by decide +kernel
theorem dX6_dawns_80 : decode cX6_dawns 80 = .ok (.iload 7, 2) := by decide +kernel
theorem dX6_dawns_82 : decode cX6_dawns 82 = .ok (.istore 10, 2) := by decide +kernel
theorem dX6_dawns_84 : decode cX6_dawns 84 = .ok (.iload 10, 2) := by decide +kernel
theorem dX6_dawns_86 : decode cX6_dawns 86 = .ok (.iload 7, 2) := by decide +kernel
theorem dX6_dawns_88 : decode cX6_dawns 88 = .ok (.ifCond .ne 7, 3) := by decide +kernel
theorem dX6_dawns_91 : decode cX6_dawns 91 = .ok (.iconst 4, 1) := by decide +kernel
theorem dX6_dawns_92 : decode cX6_dawns 92 = .ok (.goto 5, 3) := by decide +kernel
theorem dX6_dawns_95 : decode cX6_dawns 95 = .ok (.bipush 9, 2) := by decide +kernel
theorem dX6_dawns_97 : decode cX6_dawns 97 = .ok (.if_icmp .gt 60, 3) := by decide +kernel
theorem dX6_dawns_100 : decode cX6_dawns 100 = .ok (.aload_n 0, 1) := by decide +kernel
theorem dX6_dawns_101 : decode cX6_dawns 101 = .ok (.invokevirtual 158, 3) := by decide +kernel
theorem dX6_dawns_104 : decode cX6_dawns 104 = .ok (.aload_n 0, 1) := by decide +kernel
theorem dX6_dawns_105 : decode cX6_dawns 105 = .ok (.getfield 26, 3) := by decide +kernel
theorem dX6_dawns_108 : decode cX6_dawns 108 = .ok (.iload 7, 2) := by decide +kernel
theorem dX6_dawns_110 : decode cX6_dawns 110 = .ok (.ifCond .ne 8, 3) := by decide +kernel
theorem dX6_dawns_113 : decode cX6_dawns 113 = .ok (.bipush 29, 2) := by decide +kernel
theorem dX6_dawns_115 : decode cX6_dawns 115 = .ok (.goto 5, 3) := by decide +kernel
theorem dX6_dawns_118 : decode cX6_dawns 118 = .ok (.bipush 34, 2) := by decide +kernel
theorem dX6_dawns_120 : decode cX6_dawns 120 = .ok (.iload_n 1, 1) := by decide +kernel
theorem dX6_dawns_121 : decode cX6_dawns 121 = .ok (.iadd, 1) := by decide +kernel
theorem dX6_dawns_122 : decode cX6_dawns 122 = .ok (.iload 10, 2) := by decide +kernel
theorem dX6_dawns_124 : decode cX6_dawns 124 = .ok (.iastore, 1) := by decide +kernel
theorem dX6_dawns_125 : decode cX6_dawns 125 = .ok (.iload 9, 2) := by decide +kernel
theorem dX6_dawns_127 : decode cX6_dawns 127 = .ok (.aload_n 0, 1) := by decide +kernel
theorem dX6_dawns_128 : decode cX6_dawns 128 = .ok (.iload_n 2, 1) := by decide +kernel
theorem dX6_dawns_129 : decode cX6_dawns 129 = .ok (.iload_n 3, 1) := by decide +kernel
theorem dX6_dawns_130 : decode cX6_dawns 130 = .ok (.iload 5, 2) := by decide +kernel
theorem dX6_dawns_132 : decode cX6_dawns 132 = .ok (.iload 6, 2) := by decide +kernel
theorem dX6_dawns_134 : decode cX6_dawns 134 = .ok (.invokevirtual 185, 3) := by decide +kernel
theorem dX6_dawns_137 : decode cX6_dawns 137 = .ok (.ifCond .eq 10, 3) := by decide +kernel
theorem dX6_dawns_140 : decode cX6_dawns 140 = .ok (.iconst 1, 1) := by decide +kernel
theorem dX6_dawns_141 : decode cX6_dawns 141 = .ok (.iload 10, 2) := by decide +kernel
theorem dX6_dawns_143 : decode cX6_dawns 143 = .ok (.ishl, 1) := by decide +kernel
theorem dX6_dawns_144 : decode cX6_dawns 144 = .ok (.goto 4, 3) := by decide +kernel
theorem dX6_dawns_147 : decode cX6_dawns 147 = .ok (.iconst 0, 1) := by decide +kernel
theorem dX6_dawns_148 : decode cX6_dawns 148 = .ok (.ior, 1) := by decide +kernel
theorem dX6_dawns_149 : decode cX6_dawns 149 = .ok (.istore 9, 2) := by decide +kernel
theorem dX6_dawns_151 : decode cX6_dawns 151 = .ok (.iinc 10 1, 3) := by decide +kernel
theorem dX6_dawns_154 : decode cX6_dawns 154 = .ok (.goto (-70), 3) := by decide +kernel
theorem dX6_dawns_157 : decode cX6_dawns 157 = .ok (.iload 9, 2) := by decide +kernel
theorem dX6_dawns_159 : decode cX6_dawns 159 = .ok (.ireturn, 1) := by decide +kernel
theorem dX6_cutTo_0 : decode cX6_cutTo 0 = .ok (.iload_n 0, 1) := by decide +kernel
theorem dX6_cutTo_1 : decode cX6_cutTo 1 = .ok (.ifCond .ne 10, 3) := by decide +kernel
theorem dX6_cutTo_4 : decode cX6_cutTo 4 = .ok (.lload_n 1, 1) := by decide +kernel
theorem dX6_cutTo_5 : decode cX6_cutTo 5 = .ok (.l2i, 1) := by decide +kernel
theorem dX6_cutTo_6 : decode cX6_cutTo 6 = .ok (.i2b, 1) := by decide +kernel
theorem dX6_cutTo_7 : decode cX6_cutTo 7 = .ok (.i2l, 1) := by decide +kernel
theorem dX6_cutTo_8 : decode cX6_cutTo 8 = .ok (.goto 27, 3) := by decide +kernel
theorem dX6_cutTo_11 : decode cX6_cutTo 11 = .ok (.iload_n 0, 1) := by decide +kernel
theorem dX6_cutTo_12 : decode cX6_cutTo 12 = .ok (.iconst 1, 1) := by decide +kernel
theorem dX6_cutTo_13 : decode cX6_cutTo 13 = .ok (.if_icmp .ne 10, 3) := by decide +kernel
theorem dX6_cutTo_16 : decode cX6_cutTo 16 = .ok (.lload_n 1, 1) := by decide +kernel
theorem dX6_cutTo_17 : decode cX6_cutTo 17 = .ok (.l2i, 1) := by decide +kernel
theorem dX6_cutTo_18 : decode cX6_cutTo 18 = .ok (.i2s, 1) := by decide +kernel
theorem dX6_cutTo_19 : decode cX6_cutTo 19 = .ok (.i2l, 1) := by decide +kernel
theorem dX6_cutTo_20 : decode cX6_cutTo 20 = .ok (.goto 15, 3) := by decide +kernel
theorem dX6_cutTo_23 : decode cX6_cutTo 23 = .ok (.iload_n 0, 1) := by decide +kernel
theorem dX6_cutTo_24 : decode cX6_cutTo 24 = .ok (.iconst 2, 1) := by decide +kernel
theorem dX6_cutTo_25 : decode cX6_cutTo 25 = .ok (.if_icmp .ne 9, 3) := by decide +kernel
theorem dX6_cutTo_28 : decode cX6_cutTo 28 = .ok (.lload_n 1, 1) := by decide +kernel
theorem dX6_cutTo_29 : decode cX6_cutTo 29 = .ok (.l2i, 1) := by decide +kernel
theorem dX6_cutTo_30 : decode cX6_cutTo 30 = .ok (.i2l, 1) := by decide +kernel
theorem dX6_cutTo_31 : decode cX6_cutTo 31 = .ok (.goto 4, 3) := by decide +kernel
theorem dX6_cutTo_34 : decode cX6_cutTo 34 = .ok (.lload_n 1, 1) := by decide +kernel
theorem dX6_cutTo_35 : decode cX6_cutTo 35 = .ok (.lreturn, 1) := by decide +kernel
theorem dX6_film_0 : decode cX6_film 0 = .ok (.aload_n 0, 1) := by decide +kernel
theorem dX6_film_1 : decode cX6_film 1 = .ok (.iload_n 1, 1) := by decide +kernel
theorem dX6_film_2 : decode cX6_film 2 = .ok (.invokevirtual 55, 3) := by decide +kernel
theorem dX6_film_5 : decode cX6_film 5 = .ok (.ifCond .eq 30, 3) := by decide +kernel
theorem dX6_film_8 : decode cX6_film 8 = .ok (.iload_n 2, 1) := by decide +kernel
theorem dX6_film_9 : decode cX6_film 9 = .ok (.iconst 1, 1) := by decide +kernel
theorem dX6_film_10 : decode cX6_film 10 = .ok (.bipush 24, 2) := by decide +kernel
theorem dX6_film_12 : decode cX6_film 12 = .ok (.invokestatic 47, 3) := by decide +kernel
theorem dX6_film_15 : decode cX6_film 15 = .ok (.ifCond .eq 20, 3) := by decide +kernel
theorem dX6_film_18 : decode cX6_film 18 = .ok (.iload_n 3, 1) := by decide +kernel
theorem dX6_film_19 : decode cX6_film 19 = .ok (.invokestatic 178, 3) := by decide +kernel
theorem dX6_film_22 : decode cX6_film 22 = .ok (.ifCond .eq 13, 3) := by decide +kernel
theorem dX6_film_25 : decode cX6_film 25 = .ok (.iload 4, 2) := by decide +kernel
theorem dX6_film_27 : decode cX6_film 27 = .ok (.iconst 0, 1) := by decide +kernel
theorem dX6_film_28 : decode cX6_film 28 = .ok (.iconst 3, 1) := by decide +kernel
theorem dX6_film_29 : decode cX6_film 29 = .ok (.invokestatic 47, 3) := by decide +kernel
theorem dX6_film_32 : decode cX6_film 32 = .ok (.ifCond .ne 5, 3) := by decide +kernel
theorem dX6_film_35 : decode cX6_film 35 = .ok (.iconst (-1), 1) := by decide +kernel
theorem dX6_film_36 : decode cX6_film 36 = .ok (.ireturn, 1) := by decide +kernel
theorem dX6_film_37 : decode cX6_film 37 = .ok (.aload_n 0, 1) := by decide +kernel
theorem dX6_film_38 : decode cX6_film 38 = .ok (.iload_n 3, 1) := by decide +kernel
theorem dX6_film_39 : decode cX6_film 39 = .ok (.iload 4, 2) := by decide +kernel
theorem dX6_film_41 : decode cX6_film 41 = .ok (.iload 5, 2) := by decide +kernel
theorem dX6_film_43 : decode cX6_film 43 = .ok (.iload_n 2, 1) := by decide +kernel
theorem dX6_film_44 : decode cX6_film 44 = .ok (.invokevirtual 181, 3) := by decide +kernel
theorem dX6_film_47 : decode cX6_film 47 = .ok (.istore 6, 2) := by decide +kernel
theorem dX6_film_49 : decode cX6_film 49 = .ok (.iload 6, 2) := by decide +kernel
theorem dX6_film_51 : decode cX6_film 51 = .ok (.ifCond .eq 6, 3) := by decide +kernel
theorem dX6_film_54 : decode cX6_film 54 = .ok (.iload 6, 2) := by decide +kernel
theorem dX6_film_56 : decode cX6_film 56 = .ok (.ireturn, 1) := by decide +kernel
theorem dX6_film_57 : decode cX6_film 57 = .ok (.aload_n 0, 1) := by decide +kernel
theorem dX6_film_58 : decode cX6_film 58 = .ok (.invokevirtual 158, 3) := by decide +kernel
theorem dX6_film_61 : decode cX6_film 61 = .ok (.iconst 0, 1) := by decide +kernel
theorem dX6_film_62 : decode cX6_film 62 = .ok (.istore 7, 2) := by decide +kernel
theorem dX6_film_64 : decode cX6_film 64 = .ok (.iload 7, 2) := by decide +kernel
theorem dX6_film_66 : decode cX6_film 66 = .ok (.iload_n 2, 1) := by decide +kernel
theorem dX6_film_67 : decode cX6_film 67 = .ok (.if_icmp .ge 47, 3) := by decide +kernel
theorem dX6_film_70 : decode cX6_film 70 = .ok (.aload_n 0, 1) := by decide +kernel
theorem dX6_film_71 : decode cX6_film 71 = .ok (.aload_n 0, 1) := by decide +kernel
theorem dX6_film_72 : decode cX6_film 72 = .ok (.getfield 26, 3) := by decide +kernel
theorem dX6_film_75 : decode cX6_film 75 = .ok (.iconst 0, 1) := by decide +kernel
theorem dX6_film_76 : decode cX6_film 76 = .ok (.invokevirtual 148, 3) := by decide +kernel
theorem dX6_film_79 : decode cX6_film 79 = .ok (.aload_n 0, 1) := by decide +kernel
theorem dX6_film_80 : decode cX6_film 80 = .ok (.getfield 16, 3) := by decide +kernel
theorem dX6_film_83 : decode cX6_film 83 = .ok (.bipush 24, 2) := by decide +kernel
theorem dX6_film_85 : decode cX6_film 85 = .ok (.iload_n 3, 1) := by decide +kernel
theorem dX6_film_86 : decode cX6_film 86 = .ok (.imul, 1) := by decide +kernel
theorem dX6_film_87 : decode cX6_film 87 = .ok (.iload 5, 2) := by decide +kernel
theorem dX6_film_89 : decode cX6_film 89 = .ok (.iadd, 1) := by decide +kernel
theorem dX6_film_90 : decode cX6_film 90 = .ok (.iload 7, 2) := by decide +kernel
theorem dX6_film_92 : decode cX6_film 92 = .ok (.iadd, 1) := by decide +kernel
theorem dX6_film_93 : decode cX6_film 93 = .ok (.iload 4, 2) := by decide +kernel
theorem dX6_film_95 : decode cX6_film 95 = .ok (.aload_n 0, 1) := by decide +kernel
theorem dX6_film_96 : decode cX6_film 96 = .ok (.getfield 26, 3) := by decide +kernel
theorem dX6_film_99 : decode cX6_film 99 = .ok (.iconst 3, 1) := by decide +kernel
theorem dX6_film_100 : decode cX6_film 100 = .ok (.iload_n 1, 1) := by decide +kernel
theorem dX6_film_101 : decode cX6_film 101 = .ok (.iadd, 1) := by decide +kernel
theorem dX6_film_102 : decode cX6_film 102 = .ok (.iaload, 1) := by decide +kernel
theorem dX6_film_103 : decode cX6_film 103 = .ok (.i2l, 1) := by decide +kernel
theorem dX6_film_104 : decode cX6_film 104 = .ok (.invokestatic 189, 3) := by decide +kernel
theorem dX6_film_107 : decode cX6_film 107 = .ok (.lastore, 1) := by decide +kernel
theorem dX6_film_108 : decode cX6_film 108 = .ok (.iinc 7 1, 3) := by decide +kernel
theorem dX6_film_111 : decode cX6_film 111 = .ok (.goto (-47), 3) := by decide +kernel
theorem dX6_film_114 : decode cX6_film 114 = .ok (.iload_n 2, 1) := by decide +kernel
theorem dX6_film_115 : decode cX6_film 115 = .ok (.ireturn, 1) := by decide +kernel
theorem dX6_sheet_0 : decode cX6_sheet 0 = .ok (.iload_n 1, 1) := by decide +kernel
theorem dX6_sheet_1 : decode cX6_sheet 1 = .ok (.invokestatic 178, 3) := by decide +kernel
theorem dX6_sheet_4 : decode cX6_sheet 4 = .ok (.ifCond .eq 18, 3) := by decide +kernel
theorem dX6_sheet_7 : decode cX6_sheet 7 = .ok (.iload_n 2, 1) := by decide +kernel
theorem dX6_sheet_8 : decode cX6_sheet 8 = .ok (.iconst 0, 1) := by decide +kernel
theorem dX6_sheet_9 : decode cX6_sheet 9 = .ok (.iconst 3, 1) := by decide +kernel
theorem dX6_sheet_10 : decode cX6_sheet 10 = .ok (.invokestatic 47, 3) := by decide +kernel
theorem dX6_sheet_13 : decode cX6_sheet 13 = .ok (.ifCond .eq 9, 3) := by decide +kernel
theorem dX6_sheet_16 : decode cX6_sheet 16 = .ok (.iload_n 3, 1) := by decide +kernel
theorem dX6_sheet_17 : decode cX6_sheet 17 = .ok (.bipush 24, 2) := by decide +kernel
theorem dX6_sheet_19 : decode cX6_sheet 19 = .ok (.if_icmp .le 5, 3) := by decide +kernel
theorem dX6_sheet_22 : decode cX6_sheet 22 = .ok (.iconst (-1), 1) := by decide +kernel
theorem dX6_sheet_23 : decode cX6_sheet 23 = .ok (.ireturn, 1) := by decide +kernel
theorem dX6_sheet_24 : decode cX6_sheet 24 = .ok (.iload_n 3, 1) := by decide +kernel
theorem dX6_sheet_25 : decode cX6_sheet 25 = .ok (.ifCond .ge 6, 3) := by decide +kernel
theorem dX6_sheet_28 : decode cX6_sheet 28 = .ok (.bipush (-14), 2) := by decide +kernel
theorem dX6_sheet_30 : decode cX6_sheet 30 = .ok (.ireturn, 1) := by decide +kernel
theorem dX6_sheet_31 : decode cX6_sheet 31 = .ok (.aload_n 0, 1) := by decide +kernel
theorem dX6_sheet_32 : decode cX6_sheet 32 = .ok (.getfield 7, 3) := by decide +kernel
theorem dX6_sheet_35 : decode cX6_sheet 35 = .ok (.iload_n 1, 1) := by decide +kernel
theorem dX6_sheet_36 : decode cX6_sheet 36 = .ok (.iload_n 2, 1) := by decide +kernel
theorem dX6_sheet_37 : decode cX6_sheet 37 = .ok (.iastore, 1) := by decide +kernel
theorem dX6_sheet_38 : decode cX6_sheet 38 = .ok (.aload_n 0, 1) := by decide +kernel
theorem dX6_sheet_39 : decode cX6_sheet 39 = .ok (.getfield 13, 3) := by decide +kernel
theorem dX6_sheet_42 : decode cX6_sheet 42 = .ok (.iload_n 1, 1) := by decide +kernel
theorem dX6_sheet_43 : decode cX6_sheet 43 = .ok (.iload_n 3, 1) := by decide +kernel
theorem dX6_sheet_44 : decode cX6_sheet 44 = .ok (.iastore, 1) := by decide +kernel
theorem dX6_sheet_45 : decode cX6_sheet 45 = .ok (.iconst 0, 1) := by decide +kernel
theorem dX6_sheet_46 : decode cX6_sheet 46 = .ok (.istore 4, 2) := by decide +kernel
theorem dX6_sheet_48 : decode cX6_sheet 48 = .ok (.iload 4, 2) := by decide +kernel
theorem dX6_sheet_50 : decode cX6_sheet 50 = .ok (.bipush 24, 2) := by decide +kernel
theorem dX6_sheet_52 : decode cX6_sheet 52 = .ok (.if_icmp .ge 22, 3) := by decide +kernel
theorem dX6_sheet_55 : decode cX6_sheet 55 = .ok (.aload_n 0, 1) := by decide +kernel
theorem dX6_sheet_56 : decode cX6_sheet 56 = .ok (.getfield 16, 3) := by decide +kernel
theorem dX6_sheet_59 : decode cX6_sheet 59 = .ok (.bipush 24, 2) := by decide +kernel
theorem dX6_sheet_61 : decode cX6_sheet 61 = .ok (.iload_n 1, 1) := by decide +kernel
theorem dX6_sheet_62 : decode cX6_sheet 62 = .ok (.imul, 1) := by decide +kernel
theorem dX6_sheet_63 : decode cX6_sheet 63 = .ok (.iload 4, 2) := by decide +kernel
theorem dX6_sheet_65 : decode cX6_sheet 65 = .ok (.iadd, 1) := by decide +kernel
theorem dX6_sheet_66 : decode cX6_sheet 66 = .ok (.lconst 0, 1) := by decide +kernel
theorem dX6_sheet_67 : decode cX6_sheet 67 = .ok (.lastore, 1) := by decide +kernel
theorem dX6_sheet_68 : decode cX6_sheet 68 = .ok (.iinc 4 1, 3) := by decide +kernel
theorem dX6_sheet_71 : decode cX6_sheet 71 = .ok (.goto (-23), 3) := by decide +kernel
theorem dX6_sheet_74 : decode cX6_sheet 74 = .ok (.iload_n 3, 1) := by decide +kernel
theorem dX6_sheet_75 : decode cX6_sheet 75 = .ok (.ireturn, 1) := by decide +kernel
theorem dX6_drop_0 : decode cX6_drop 0 = .ok (.iload_n 1, 1) := by decide +kernel
theorem dX6_drop_1 : decode cX6_drop 1 = .ok (.invokestatic 178, 3) := by decide +kernel
theorem dX6_drop_4 : decode cX6_drop 4 = .ok (.ifCond .ne 5, 3) := by decide +kernel
theorem dX6_drop_7 : decode cX6_drop 7 = .ok (.iconst (-1), 1) := by decide +kernel
theorem dX6_drop_8 : decode cX6_drop 8 = .ok (.ireturn, 1) := by decide +kernel
theorem dX6_drop_9 : decode cX6_drop 9 = .ok (.aload_n 0, 1) := by decide +kernel
theorem dX6_drop_10 : decode cX6_drop 10 = .ok (.getfield 7, 3) := by decide +kernel
theorem dX6_drop_13 : decode cX6_drop 13 = .ok (.iload_n 1, 1) := by decide +kernel
theorem dX6_drop_14 : decode cX6_drop 14 = .ok (.iaload, 1) := by decide +kernel
theorem dX6_drop_15 : decode cX6_drop 15 = .ok (.ifCond .ge 6, 3) := by decide +kernel
theorem dX6_drop_18 : decode cX6_drop 18 = .ok (.bipush (-11), 2) := by decide +kernel
theorem dX6_drop_20 : decode cX6_drop 20 = .ok (.ireturn, 1) := by decide +kernel
theorem dX6_drop_21 : decode cX6_drop 21 = .ok (.aload_n 0, 1) := by decide +kernel
theorem dX6_drop_22 : decode cX6_drop 22 = .ok (.getfield 7, 3) := by decide +kernel
theorem dX6_drop_25 : decode cX6_drop 25 = .ok (.iload_n 1, 1) := by decide +kernel
theorem dX6_drop_26 : decode cX6_drop 26 = .ok (.iconst (-1), 1) := by decide +kernel
theorem dX6_drop_27 : decode cX6_drop 27 = .ok (.iastore, 1) := by decide +kernel
theorem dX6_drop_28 : decode cX6_drop 28 = .ok (.aload_n 0, 1) := by decide +kernel
theorem dX6_drop_29 : decode cX6_drop 29 = .ok (.getfield 13, 3) := by decide +kernel
theorem dX6_drop_32 : decode cX6_drop 32 = .ok (.iload_n 1, 1) := by decide +kernel
theorem dX6_drop_33 : decode cX6_drop 33 = .ok (.iaload, 1) := by decide +kernel
theorem dX6_drop_34 : decode cX6_drop 34 = .ok (.ireturn, 1) := by decide +kernel
theorem dX6_item_0 : decode cX6_item 0 = .ok (.iload_n 1, 1) := by decide +kernel
theorem dX6_item_1 : decode cX6_item 1 = .ok (.invokestatic 178, 3) := by decide +kernel
theorem dX6_item_4 : decode cX6_item 4 = .ok (.ifCond .eq 12, 3) := by decide +kernel
theorem dX6_item_7 : decode cX6_item 7 = .ok (.iload_n 2, 1) := by decide +kernel
theorem dX6_item_8 : decode cX6_item 8 = .ok (.iconst 0, 1) := by decide +kernel
theorem dX6_item_9 : decode cX6_item 9 = .ok (.iconst 3, 1) := by decide +kernel
theorem dX6_item_10 : decode cX6_item 10 = .ok (.invokestatic 47, 3) := by decide +kernel
theorem dX6_item_13 : decode cX6_item 13 = .ok (.ifCond .ne 5, 3) := by decide +kernel
theorem dX6_item_16 : decode cX6_item 16 = .ok (.iconst (-1), 1) := by decide +kernel
theorem dX6_item_17 : decode cX6_item 17 = .ok (.ireturn, 1) := by decide +kernel
theorem dX6_item_18 : decode cX6_item 18 = .ok (.aload_n 0, 1) := by decide +kernel
theorem dX6_item_19 : decode cX6_item 19 = .ok (.iload_n 1, 1) := by decide +kernel
theorem dX6_item_20 : decode cX6_item 20 = .ok (.iload_n 2, 1) := by decide +kernel
theorem dX6_item_21 : decode cX6_item 21 = .ok (.iload_n 3, 1) := by decide +kernel
theorem dX6_item_22 : decode cX6_item 22 = .ok (.iconst 1, 1) := by decide +kernel
theorem dX6_item_23 : decode cX6_item 23 = .ok (.invokevirtual 181, 3) := by decide +kernel
theorem dX6_item_26 : decode cX6_item 26 = .ok (.istore 6, 2) := by decide +kernel
theorem dX6_item_28 : decode cX6_item 28 = .ok (.iload 6, 2) := by decide +kernel
theorem dX6_item_30 : decode cX6_item 30 = .ok (.ifCond .eq 6, 3) := by decide +kernel
theorem dX6_item_33 : decode cX6_item 33 = .ok (.iload 6, 2) := by decide +kernel
theorem dX6_item_35 : decode cX6_item 35 = .ok (.ireturn, 1) := by decide +kernel
theorem dX6_item_36 : decode cX6_item 36 = .ok (.aload_n 0, 1) := by decide +kernel
theorem dX6_item_37 : decode cX6_item 37 = .ok (.getfield 16, 3) := by decide +kernel
theorem dX6_item_40 : decode cX6_item 40 = .ok (.bipush 24, 2) := by decide +kernel
theorem dX6_item_42 : decode cX6_item 42 = .ok (.iload_n 1, 1) := by decide +kernel
theorem dX6_item_43 : decode cX6_item 43 = .ok (.imul, 1) := by decide +kernel
theorem dX6_item_44 : decode cX6_item 44 = .ok (.iload_n 3, 1) := by decide +kernel
theorem dX6_item_45 : decode cX6_item 45 = .ok (.iadd, 1) := by decide +kernel
theorem dX6_item_46 : decode cX6_item 46 = .ok (.iload_n 2, 1) := by decide +kernel
theorem dX6_item_47 : decode cX6_item 47 = .ok (.ifCond .ne 11, 3) := by decide +kernel
theorem dX6_item_50 : decode cX6_item 50 = .ok (.lload 4, 2) := by decide +kernel
theorem dX6_item_52 : decode cX6_item 52 = .ok (.l2i, 1) := by decide +kernel
theorem dX6_item_53 : decode cX6_item 53 = .ok (.i2b, 1) := by decide +kernel
theorem dX6_item_54 : decode cX6_item 54 = .ok (.i2l, 1) := by decide +kernel
theorem dX6_item_55 : decode cX6_item 55 = .ok (.goto 30, 3) := by decide +kernel
theorem dX6_item_58 : decode cX6_item 58 = .ok (.iload_n 2, 1) := by decide +kernel
theorem dX6_item_59 : decode cX6_item 59 = .ok (.iconst 1, 1) := by decide +kernel
theorem dX6_item_60 : decode cX6_item 60 = .ok (.if_icmp .ne 11, 3) := by decide +kernel
theorem dX6_item_63 : decode cX6_item 63 = .ok (.lload 4, 2) := by decide +kernel
theorem dX6_item_65 : decode cX6_item 65 = .ok (.l2i, 1) := by decide +kernel
theorem dX6_item_66 : decode cX6_item 66 = .ok (.i2s, 1) := by decide +kernel
theorem dX6_item_67 : decode cX6_item 67 = .ok (.i2l, 1) := by decide +kernel
theorem dX6_item_68 : decode cX6_item 68 = .ok (.goto 17, 3) := by decide +kernel
theorem dX6_item_71 : decode cX6_item 71 = .ok (.iload_n 2, 1) := by decide +kernel
theorem dX6_item_72 : decode cX6_item 72 = .ok (.iconst 2, 1) := by decide +kernel
theorem dX6_item_73 : decode cX6_item 73 = .ok (.if_icmp .ne 10, 3) := by decide +kernel
theorem dX6_item_76 : decode cX6_item 76 = .ok (.lload 4, 2) := by decide +kernel
theorem dX6_item_78 : decode cX6_item 78 = .ok (.l2i, 1) := by decide +kernel
theorem dX6_item_79 : decode cX6_item 79 = .ok (.i2l, 1) := by decide +kernel
theorem dX6_item_80 : decode cX6_item 80 = .ok (.goto 5, 3) := by decide +kernel
theorem dX6_item_83 : decode cX6_item 83 = .ok (.lload 4, 2) := by decide +kernel
theorem dX6_item_85 : decode cX6_item 85 = .ok (.lastore, 1) := by decide +kernel
theorem dX6_item_86 : decode cX6_item 86 = .ok (.iconst 1, 1) := by decide +kernel
theorem dX6_item_87 : decode cX6_item 87 = .ok (.ireturn, 1) := by decide +kernel
theorem dX6_copy_0 : decode cX6_copy 0 = .ok (.iload_n 1, 1) := by decide +kernel
theorem dX6_copy_1 : decode cX6_copy 1 = .ok (.invokestatic 178, 3) := by decide +kernel
theorem dX6_copy_4 : decode cX6_copy 4 = .ok (.ifCond .eq 10, 3) := by decide +kernel
theorem dX6_copy_7 : decode cX6_copy 7 = .ok (.iload_n 3, 1) := by decide +kernel
theorem dX6_copy_8 : decode cX6_copy 8 = .ok (.invokestatic 178, 3) := by decide +kernel
theorem dX6_copy_11 : decode cX6_copy 11 = .ok (.ifCond .ne 5, 3) := by decide +kernel
theorem dX6_copy_14 : decode cX6_copy 14 = .ok (.iconst (-1), 1) := by decide +kernel
theorem dX6_copy_15 : decode cX6_copy 15 = .ok (.ireturn, 1) := by decide +kernel
theorem dX6_copy_16 : decode cX6_copy 16 = .ok (.aload_n 0, 1) := by decide +kernel
theorem dX6_copy_17 : decode cX6_copy 17 = .ok (.getfield 7, 3) := by decide +kernel
theorem dX6_copy_20 : decode cX6_copy 20 = .ok (.iload_n 1, 1) := by decide +kernel
theorem dX6_copy_21 : decode cX6_copy 21 = .ok (.iaload, 1) := by decide +kernel
theorem dX6_copy_22 : decode cX6_copy 22 = .ok (.ifCond .lt 12, 3) := by decide +kernel
theorem dX6_copy_25 : decode cX6_copy 25 = .ok (.aload_n 0, 1) := by decide +kernel
theorem dX6_copy_26 : decode cX6_copy 26 = .ok (.getfield 7, 3) := by decide +kernel
theorem dX6_copy_29 : decode cX6_copy 29 = .ok (.iload_n 3, 1) := by decide +kernel
theorem dX6_copy_30 : decode cX6_copy 30 = .ok (.iaload, 1) := by decide +kernel
theorem dX6_copy_31 : decode cX6_copy 31 = .ok (.ifCond .ge 6, 3) := by decide +kernel
theorem dX6_copy_34 : decode cX6_copy 34 = .ok (.bipush (-11), 2) := by decide +kernel
theorem dX6_copy_36 : decode cX6_copy 36 = .ok (.ireturn, 1) := by decide +kernel
theorem dX6_copy_37 : decode cX6_copy 37 = .ok (.aload_n 0, 1) := by decide +kernel
theorem dX6_copy_38 : decode cX6_copy 38 = .ok (.getfield 7, 3) := by decide +kernel
theorem dX6_copy_41 : decode cX6_copy 41 = .ok (.iload_n 1, 1) := by decide +kernel
theorem dX6_copy_42 : decode cX6_copy 42 = .ok (.iaload, 1) := by decide +kernel
theorem dX6_copy_43 : decode cX6_copy 43 = .ok (.aload_n 0, 1) := by decide +kernel
theorem dX6_copy_44 : decode cX6_copy 44 = .ok (.getfield 7, 3) := by decide +kernel
theorem dX6_copy_47 : decode cX6_copy 47 = .ok (.iload_n 3, 1) := by decide +kernel
theorem dX6_copy_48 : decode cX6_copy 48 = .ok (.iaload, 1) := by decide +kernel
theorem dX6_copy_49 : decode cX6_copy 49 = .ok (.if_icmp .eq 6, 3) := by decide +kernel
theorem dX6_copy_52 : decode cX6_copy 52 = .ok (.bipush (-12), 2) := by decide +kernel
theorem dX6_copy_54 : decode cX6_copy 54 = .ok (.ireturn, 1) := by decide +kernel
theorem dX6_copy_55 : decode cX6_copy 55 = .ok (.iload_n 2, 1) := by decide +kernel
theorem dX6_copy_56 : decode cX6_copy 56 = .ok (.iload 5, 2) := by decide +kernel
theorem dX6_copy_58 : decode cX6_copy 58 = .ok (.aload_n 0, 1) := by decide +kernel
theorem dX6_copy_59 : decode cX6_copy 59 = .ok (.getfield 13, 3) := by decide +kernel
theorem dX6_copy_62 : decode cX6_copy 62 = .ok (.iload_n 1, 1) := by decide +kernel
theorem dX6_copy_63 : decode cX6_copy 63 = .ok (.iaload, 1) := by decide +kernel
theorem dX6_copy_64 : decode cX6_copy 64 = .ok (.invokestatic 175, 3) := by decide +kernel
theorem dX6_copy_67 : decode cX6_copy 67 = .ok (.ifCond .eq 19, 3) := by decide +kernel
theorem dX6_copy_70 : decode cX6_copy 70 = .ok (.iload 4, 2) := by decide +kernel
theorem dX6_copy_72 : decode cX6_copy 72 = .ok (.iload 5, 2) := by decide +kernel
theorem dX6_copy_74 : decode cX6_copy 74 = .ok (.aload_n 0, 1) := by decide +kernel
theorem dX6_copy_75 : decode cX6_copy 75 = .ok (.getfield 13, 3) := by decide +kernel
theorem dX6_copy_78 : decode cX6_copy 78 = .ok (.iload_n 3, 1) := by decide +kernel
theorem dX6_copy_79 : decode cX6_copy 79 = .ok (.iaload, 1) := by decide +kernel
theorem dX6_copy_80 : decode cX6_copy 80 = .ok (.invokestatic 175, 3) := by decide +kernel
theorem dX6_copy_83 : decode cX6_copy 83 = .ok (.ifCond .ne 6, 3) := by decide +kernel
theorem dX6_copy_86 : decode cX6_copy 86 = .ok (.bipush (-13), 2) := by decide +kernel
theorem dX6_copy_88 : decode cX6_copy 88 = .ok (.ireturn, 1) := by decide +kernel
theorem dX6_copy_89 : decode cX6_copy 89 = .ok (.iload_n 1, 1) := by decide +kernel
theorem dX6_copy_90 : decode cX6_copy 90 = .ok (.iload_n 3, 1) := by decide +kernel
theorem dX6_copy_91 : decode cX6_copy 91 = .ok (.if_icmp .ne 13, 3) := by decide +kernel
theorem dX6_copy_94 : decode cX6_copy 94 = .ok (.iload 4, 2) := by decide +kernel
theorem dX6_copy_96 : decode cX6_copy 96 = .ok (.iload_n 2, 1) := by decide +kernel
theorem dX6_copy_97 : decode cX6_copy 97 = .ok (.if_icmp .le 7, 3) := by decide +kernel
theorem dX6_copy_100 : decode cX6_copy 100 = .ok (.iconst 1, 1) := by decide +kernel
theorem dX6_copy_101 : decode cX6_copy 101 = .ok (.goto 4, 3) := by decide +kernel
theorem dX6_copy_104 : decode cX6_copy 104 = .ok (.iconst 0, 1) := by decide +kernel
theorem dX6_copy_105 : decode cX6_copy 105 = .ok (.istore 6, 2) := by decide +kernel
theorem dX6_copy_107 : decode cX6_copy 107 = .ok (.iconst 0, 1) := by decide +kernel
theorem dX6_copy_108 : decode cX6_copy 108 = .ok (.istore 7, 2) := by decide +kernel
theorem dX6_copy_110 : decode cX6_copy 110 = .ok (.iload 7, 2) := by decide +kernel
theorem dX6_copy_112 : decode cX6_copy 112 = .ok (.iload 5, 2) := by decide +kernel
theorem dX6_copy_114 : decode cX6_copy 114 = .ok (.if_icmp .ge 57, 3) := by decide +kernel
theorem dX6_copy_117 : decode cX6_copy 117 = .ok (.iload 6, 2) := by decide +kernel
theorem dX6_copy_119 : decode cX6_copy 119 = .ok (.ifCond .eq 13, 3) := by decide +kernel
theorem dX6_copy_122 : decode cX6_copy 122 = .ok (.iload 5, 2) := by decide +kernel
theorem dX6_copy_124 : decode cX6_copy 124 = .ok (.iconst 1, 1) := by decide +kernel
theorem dX6_copy_125 : decode cX6_copy 125 = .ok (.isub, 1) := by decide +kernel
theorem dX6_copy_126 : decode cX6_copy 126 = .ok (.iload 7, 2) := by decide +kernel
theorem dX6_copy_128 : decode cX6_copy 128 = .ok (.isub, 1) := by decide +kernel
theorem dX6_copy_129 : decode cX6_copy 129 = .ok (.goto 5, 3) := by decide +kernel
theorem dX6_copy_132 : decode cX6_copy 132 = .ok (.iload 7, 2) := by decide +kernel
theorem dX6_copy_134 : decode cX6_copy 134 = .ok (.istore 8, 2) := by decide +kernel
theorem dX6_copy_136 : decode cX6_copy 136 = .ok (.aload_n 0, 1) := by decide +kernel
theorem dX6_copy_137 : decode cX6_copy 137 = .ok (.getfield 16, 3) := by decide +kernel
theorem dX6_copy_140 : decode cX6_copy 140 = .ok (.bipush 24, 2) := by decide +kernel
theorem dX6_copy_142 : decode cX6_copy 142 = .ok (.iload_n 3, 1) := by decide +kernel
theorem dX6_copy_143 : decode cX6_copy 143 = .ok (.imul, 1) := by decide +kernel
theorem dX6_copy_144 : decode cX6_copy 144 = .ok (.iload 4, 2) := by decide +kernel
theorem dX6_copy_146 : decode cX6_copy 146 = .ok (.iadd, 1) := by decide +kernel
theorem dX6_copy_147 : decode cX6_copy 147 = .ok (.iload 8, 2) := by decide +kernel
theorem dX6_copy_149 : decode cX6_copy 149 = .ok (.iadd, 1) := by decide +kernel
theorem dX6_copy_150 : decode cX6_copy 150 = .ok (.aload_n 0, 1) := by decide +kernel
theorem dX6_copy_151 : decode cX6_copy 151 = .ok (.getfield 16, 3) := by decide +kernel
theorem dX6_copy_154 : decode cX6_copy 154 = .ok (.bipush 24, 2) := by decide +kernel
theorem dX6_copy_156 : decode cX6_copy 156 = .ok (.iload_n 1, 1) := by decide +kernel
theorem dX6_copy_157 : decode cX6_copy 157 = .ok (.imul, 1) := by decide +kernel
theorem dX6_copy_158 : decode cX6_copy 158 = .ok (.iload_n 2, 1) := by decide +kernel
theorem dX6_copy_159 : decode cX6_copy 159 = .ok (.iadd, 1) := by decide +kernel
theorem dX6_copy_160 : decode cX6_copy 160 = .ok (.iload 8, 2) := by decide +kernel
theorem dX6_copy_162 : decode cX6_copy 162 = .ok (.iadd, 1) := by decide +kernel
theorem dX6_copy_163 : decode cX6_copy 163 = .ok (.laload, 1) := by decide +kernel
theorem dX6_copy_164 : decode cX6_copy 164 = .ok (.lastore, 1) := by decide +kernel
theorem dX6_copy_165 : decode cX6_copy 165 = .ok (.iinc 7 1, 3) := by decide +kernel
theorem dX6_copy_168 : decode cX6_copy 168 = .ok (.goto (-58), 3) := by decide +kernel
theorem dX6_copy_171 : decode cX6_copy 171 = .ok (.iload 5, 2) := by decide +kernel
theorem dX6_copy_173 : decode cX6_copy 173 = .ok (.ireturn, 1) := by decide +kernel
theorem dJ6_bitCount_0f7a4_0 : decode cJ6_bitCount_0f7a4 0 = .ok (.iload_n 0, 1) := by decide +kernel
theorem dJ6_bitCount_0f7a4_1 : decode cJ6_bitCount_0f7a4 1 = .ok (.iload_n 0, 1) := by decide +kernel
theorem dJ6_bitCount_0f7a4_2 : decode cJ6_bitCount_0f7a4 2 = .ok (.iconst 1, 1) := by decide +kernel
theorem dJ6_bitCount_0f7a4_3 : decode cJ6_bitCount_0f7a4 3 = .ok (.iushr, 1) := by decide +kernel
theorem dJ6_bitCount_0f7a4_4 : decode cJ6_bitCount_0f7a4 4 = .ok (.ldc_w 265, 3) := by decide +kernel
theorem dJ6_bitCount_0f7a4_7 : decode cJ6_bitCount_0f7a4 7 = .ok (.iand, 1) := by decide +kernel
theorem dJ6_bitCount_0f7a4_8 : decode cJ6_bitCount_0f7a4 8 = .ok (.isub, 1) := by decide +kernel
theorem dJ6_bitCount_0f7a4_9 : decode cJ6_bitCount_0f7a4 9 = .ok (.istore_n 0, 1) := by decide +kernel
theorem dJ6_bitCount_0f7a4_10 : decode cJ6_bitCount_0f7a4 10 = .ok (.iload_n 0, 1) := by decide +kernel
theorem dJ6_bitCount_0f7a4_11 : decode cJ6_bitCount_0f7a4 11 = .ok (.ldc_w 266, 3) := by decide +kernel
theorem dJ6_bitCount_0f7a4_14 : decode cJ6_bitCount_0f7a4 14 = .ok (.iand, 1) := by decide +kernel
theorem dJ6_bitCount_0f7a4_15 : decode cJ6_bitCount_0f7a4 15 = .ok (.iload_n 0, 1) := by decide +kernel
theorem dJ6_bitCount_0f7a4_16 : decode cJ6_bitCount_0f7a4 16 = .ok (.iconst 2, 1) := by decide +kernel
theorem dJ6_bitCount_0f7a4_17 : decode cJ6_bitCount_0f7a4 17 = .ok (.iushr, 1) := by decide +kernel
theorem dJ6_bitCount_0f7a4_18 : decode cJ6_bitCount_0f7a4 18 = .ok (.ldc_w 266, 3) := by decide +kernel
theorem dJ6_bitCount_0f7a4_21 : decode cJ6_bitCount_0f7a4 21 = .ok (.iand, 1) := by decide +kernel
theorem dJ6_bitCount_0f7a4_22 : decode cJ6_bitCount_0f7a4 22 = .ok (.iadd, 1) := by decide +kernel
theorem dJ6_bitCount_0f7a4_23 : decode cJ6_bitCount_0f7a4 23 = .ok (.istore_n 0, 1) := by decide +kernel
theorem dJ6_bitCount_0f7a4_24 : decode cJ6_bitCount_0f7a4 24 = .ok (.iload_n 0, 1) := by decide +kernel
theorem dJ6_bitCount_0f7a4_25 : decode cJ6_bitCount_0f7a4 25 = .ok (.iload_n 0, 1) := by decide +kernel
theorem dJ6_bitCount_0f7a4_26 : decode cJ6_bitCount_0f7a4 26 = .ok (.iconst 4, 1) := by decide +kernel
theorem dJ6_bitCount_0f7a4_27 : decode cJ6_bitCount_0f7a4 27 = .ok (.iushr, 1) := by decide +kernel
theorem dJ6_bitCount_0f7a4_28 : decode cJ6_bitCount_0f7a4 28 = .ok (.iadd, 1) := by decide +kernel
theorem dJ6_bitCount_0f7a4_29 : decode cJ6_bitCount_0f7a4 29 = .ok (.ldc_w 267, 3) := by decide +kernel
theorem dJ6_bitCount_0f7a4_32 : decode cJ6_bitCount_0f7a4 32 = .ok (.iand, 1) := by decide +kernel
theorem dJ6_bitCount_0f7a4_33 : decode cJ6_bitCount_0f7a4 33 = .ok (.istore_n 0, 1) := by decide +kernel
theorem dJ6_bitCount_0f7a4_34 : decode cJ6_bitCount_0f7a4 34 = .ok (.iload_n 0, 1) := by decide +kernel
theorem dJ6_bitCount_0f7a4_35 : decode cJ6_bitCount_0f7a4 35 = .ok (.iload_n 0, 1) := by decide +kernel
theorem dJ6_bitCount_0f7a4_36 : decode cJ6_bitCount_0f7a4 36 = .ok (.bipush 8, 2) := by decide +kernel
theorem dJ6_bitCount_0f7a4_38 : decode cJ6_bitCount_0f7a4 38 = .ok (.iushr, 1) := by decide +kernel
theorem dJ6_bitCount_0f7a4_39 : decode cJ6_bitCount_0f7a4 39 = .ok (.iadd, 1) := by decide +kernel
theorem dJ6_bitCount_0f7a4_40 : decode cJ6_bitCount_0f7a4 40 = .ok (.istore_n 0, 1) := by decide +kernel
theorem dJ6_bitCount_0f7a4_41 : decode cJ6_bitCount_0f7a4 41 = .ok (.iload_n 0, 1) := by decide +kernel
theorem dJ6_bitCount_0f7a4_42 : decode cJ6_bitCount_0f7a4 42 = .ok (.iload_n 0, 1) := by decide +kernel
theorem dJ6_bitCount_0f7a4_43 : decode cJ6_bitCount_0f7a4 43 = .ok (.bipush 16, 2) := by decide +kernel
theorem dJ6_bitCount_0f7a4_45 : decode cJ6_bitCount_0f7a4 45 = .ok (.iushr, 1) := by decide +kernel
theorem dJ6_bitCount_0f7a4_46 : decode cJ6_bitCount_0f7a4 46 = .ok (.iadd, 1) := by decide +kernel
theorem dJ6_bitCount_0f7a4_47 : decode cJ6_bitCount_0f7a4 47 = .ok (.istore_n 0, 1) := by decide +kernel
theorem dJ6_bitCount_0f7a4_48 : decode cJ6_bitCount_0f7a4 48 = .ok (.iload_n 0, 1) := by decide +kernel
theorem dJ6_bitCount_0f7a4_49 : decode cJ6_bitCount_0f7a4 49 = .ok (.bipush 63, 2) := by decide +kernel
theorem dJ6_bitCount_0f7a4_51 : decode cJ6_bitCount_0f7a4 51 = .ok (.iand, 1) := by decide +kernel
theorem dJ6_bitCount_0f7a4_52 : decode cJ6_bitCount_0f7a4 52 = .ok (.ireturn, 1) := by decide +kernel

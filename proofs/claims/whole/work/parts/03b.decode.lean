theorem dX5_init_79 : decode cX5_init 79 = .ok (.new 40, 3) := by decide +kernel
theorem dX5_init_82 : decode cX5_init 82 = .ok (.dup, 1) := by decide +kernel
theorem dX5_init_83 : decode cX5_init 83 = .ok (.invokespecial 46, 3) := by decide +kernel
theorem dX5_init_86 : decode cX5_init 86 = .ok (.aastore, 1) := by decide +kernel
theorem dX5_init_87 : decode cX5_init 87 = .ok (.iinc 1 1, 3) := by decide +kernel
theorem dX5_init_90 : decode cX5_init 90 = .ok (.goto (-21), 3) := by decide +kernel
theorem dX5_init_93 : decode cX5_init 93 = .ok (.aload_n 0, 1) := by decide +kernel
theorem dX5_init_94 : decode cX5_init 94 = .ok (.new 7, 3) := by decide +kernel
theorem dX5_init_97 : decode cX5_init 97 = .ok (.dup, 1) := by decide +kernel
theorem dX5_init_98 : decode cX5_init 98 = .ok (.invokespecial 9, 3) := by decide +kernel
theorem dX5_init_101 : decode cX5_init 101 = .ok (.putfield 47, 3) := by decide +kernel
theorem dX5_init_104 : decode cX5_init 104 = .ok (.aload_n 0, 1) := by decide +kernel
theorem dX5_init_105 : decode cX5_init 105 = .ok (.new 19, 3) := by decide +kernel
theorem dX5_init_108 : decode cX5_init 108 = .ok (.dup, 1) := by decide +kernel
theorem dX5_init_109 : decode cX5_init 109 = .ok (.invokespecial 21, 3) := by decide +kernel
theorem dX5_init_112 : decode cX5_init 112 = .ok (.putfield 50, 3) := by decide +kernel
theorem dX5_init_115 : decode cX5_init 115 = .ok (.aload_n 0, 1) := by decide +kernel
theorem dX5_init_116 : decode cX5_init 116 = .ok (.iconst 0, 1) := by decide +kernel
theorem dX5_init_117 : decode cX5_init 117 = .ok (.putfield 53, 3) := by decide +kernel
theorem dX5_init_120 : decode cX5_init 120 = .ok (.return_, 1) := by decide +kernel
theorem dX5_house_0 : decode cX5_house 0 = .ok (.iload_n 1, 1) := by decide +kernel
theorem dX5_house_1 : decode cX5_house 1 = .ok (.iconst 0, 1) := by decide +kernel
theorem dX5_house_2 : decode cX5_house 2 = .ok (.sipush 9999, 3) := by decide +kernel
theorem dX5_house_5 : decode cX5_house 5 = .ok (.invokestatic 57, 3) := by decide +kernel
theorem dX5_house_8 : decode cX5_house 8 = .ok (.ifCond .eq 13, 3) := by decide +kernel
theorem dX5_house_11 : decode cX5_house 11 = .ok (.iload_n 2, 1) := by decide +kernel
theorem dX5_house_12 : decode cX5_house 12 = .ok (.iconst 0, 1) := by decide +kernel
theorem dX5_house_13 : decode cX5_house 13 = .ok (.bipush 20, 2) := by decide +kernel
theorem dX5_house_15 : decode cX5_house 15 = .ok (.invokestatic 57, 3) := by decide +kernel
theorem dX5_house_18 : decode cX5_house 18 = .ok (.ifCond .ne 5, 3) := by decide +kernel
theorem dX5_house_21 : decode cX5_house 21 = .ok (.iconst (-1), 1) := by decide +kernel
theorem dX5_house_22 : decode cX5_house 22 = .ok (.ireturn, 1) := by decide +kernel
theorem dX5_house_23 : decode cX5_house 23 = .ok (.aload_n 0, 1) := by decide +kernel
theorem dX5_house_24 : decode cX5_house 24 = .ok (.getfield 10, 3) := by decide +kernel
theorem dX5_house_27 : decode cX5_house 27 = .ok (.getfield 61, 3) := by decide +kernel
theorem dX5_house_30 : decode cX5_house 30 = .ok (.bipush 6, 2) := by decide +kernel
theorem dX5_house_32 : decode cX5_house 32 = .ok (.if_icmp .lt 6, 3) := by decide +kernel
theorem dX5_house_35 : decode cX5_house 35 = .ok (.bipush (-3), 2) := by decide +kernel
theorem dX5_house_37 : decode cX5_house 37 = .ok (.ireturn, 1) := by decide +kernel
theorem dX5_house_38 : decode cX5_house 38 = .ok (.aload_n 0, 1) := by decide +kernel
theorem dX5_house_39 : decode cX5_house 39 = .ok (.getfield 22, 3) := by decide +kernel
theorem dX5_house_42 : decode cX5_house 42 = .ok (.invokevirtual 65, 3) := by decide +kernel
theorem dX5_house_45 : decode cX5_house 45 = .ok (.aload_n 0, 1) := by decide +kernel
theorem dX5_house_46 : decode cX5_house 46 = .ok (.getfield 10, 3) := by decide +kernel
theorem dX5_house_49 : decode cX5_house 49 = .ok (.iload_n 1, 1) := by decide +kernel
theorem dX5_house_50 : decode cX5_house 50 = .ok (.iload_n 2, 1) := by decide +kernel
theorem dX5_house_51 : decode cX5_house 51 = .ok (.iconst 0, 1) := by decide +kernel
theorem dX5_house_52 : decode cX5_house 52 = .ok (.invokevirtual 68, 3) := by decide +kernel
theorem dX5_house_55 : decode cX5_house 55 = .ok (.ireturn, 1) := by decide +kernel
theorem dX5_hog_0 : decode cX5_hog 0 = .ok (.iload_n 1, 1) := by decide +kernel
theorem dX5_hog_1 : decode cX5_hog 1 = .ok (.iconst 0, 1) := by decide +kernel
theorem dX5_hog_2 : decode cX5_hog 2 = .ok (.iconst 4, 1) := by decide +kernel
theorem dX5_hog_3 : decode cX5_hog 3 = .ok (.invokestatic 57, 3) := by decide +kernel
theorem dX5_hog_6 : decode cX5_hog 6 = .ok (.ifCond .eq 24, 3) := by decide +kernel
theorem dX5_hog_9 : decode cX5_hog 9 = .ok (.iload_n 2, 1) := by decide +kernel
theorem dX5_hog_10 : decode cX5_hog 10 = .ok (.iconst 1, 1) := by decide +kernel
theorem dX5_hog_11 : decode cX5_hog 11 = .ok (.bipush 9, 2) := by decide +kernel
theorem dX5_hog_13 : decode cX5_hog 13 = .ok (.invokestatic 57, 3) := by decide +kernel
theorem dX5_hog_16 : decode cX5_hog 16 = .ok (.ifCond .eq 14, 3) := by decide +kernel
theorem dX5_hog_19 : decode cX5_hog 19 = .ok (.aload_n 0, 1) := by decide +kernel
theorem dX5_hog_20 : decode cX5_hog 20 = .ok (.getfield 10, 3) := by decide +kernel
theorem dX5_hog_23 : decode cX5_hog 23 = .ok (.iload_n 3, 1) := by decide +kernel
theorem dX5_hog_24 : decode cX5_hog 24 = .ok (.invokevirtual 72, 3) := by decide +kernel
theorem dX5_hog_27 : decode cX5_hog 27 = .ok (.ifCond .ne 5, 3) := by decide +kernel
theorem dX5_hog_30 : decode cX5_hog 30 = .ok (.iconst (-1), 1) := by decide +kernel
theorem dX5_hog_31 : decode cX5_hog 31 = .ok (.ireturn, 1) := by decide +kernel
theorem dX5_hog_32 : decode cX5_hog 32 = .ok (.aload_n 0, 1) := by decide +kernel
theorem dX5_hog_33 : decode cX5_hog 33 = .ok (.getfield 10, 3) := by decide +kernel
theorem dX5_hog_36 : decode cX5_hog 36 = .ok (.getfield 76, 3) := by decide +kernel
theorem dX5_hog_39 : decode cX5_hog 39 = .ok (.iconst 5, 1) := by decide +kernel
theorem dX5_hog_40 : decode cX5_hog 40 = .ok (.if_icmp .lt 6, 3) := by decide +kernel
theorem dX5_hog_43 : decode cX5_hog 43 = .ok (.bipush (-3), 2) := by decide +kernel
theorem dX5_hog_45 : decode cX5_hog 45 = .ok (.ireturn, 1) := by decide +kernel
theorem dX5_hog_46 : decode cX5_hog 46 = .ok (.aload_n 0, 1) := by decide +kernel
theorem dX5_hog_47 : decode cX5_hog 47 = .ok (.getfield 22, 3) := by decide +kernel
theorem dX5_hog_50 : decode cX5_hog 50 = .ok (.invokevirtual 65, 3) := by decide +kernel
theorem dX5_hog_53 : decode cX5_hog 53 = .ok (.aload_n 0, 1) := by decide +kernel
theorem dX5_hog_54 : decode cX5_hog 54 = .ok (.getfield 10, 3) := by decide +kernel
theorem dX5_hog_57 : decode cX5_hog 57 = .ok (.iload_n 1, 1) := by decide +kernel
theorem dX5_hog_58 : decode cX5_hog 58 = .ok (.iload_n 2, 1) := by decide +kernel
theorem dX5_hog_59 : decode cX5_hog 59 = .ok (.iload_n 3, 1) := by decide +kernel
theorem dX5_hog_60 : decode cX5_hog 60 = .ok (.invokevirtual 79, 3) := by decide +kernel
theorem dX5_hog_63 : decode cX5_hog 63 = .ok (.ireturn, 1) := by decide +kernel
theorem dX5_interest_0 : decode cX5_interest 0 = .ok (.iload_n 1, 1) := by decide +kernel
theorem dX5_interest_1 : decode cX5_interest 1 = .ok (.iconst 0, 1) := by decide +kernel
theorem dX5_interest_2 : decode cX5_interest 2 = .ok (.bipush 20, 2) := by decide +kernel
theorem dX5_interest_4 : decode cX5_interest 4 = .ok (.invokestatic 57, 3) := by decide +kernel
theorem dX5_interest_7 : decode cX5_interest 7 = .ok (.ifCond .ne 5, 3) := by decide +kernel
theorem dX5_interest_10 : decode cX5_interest 10 = .ok (.iconst (-1), 1) := by decide +kernel
theorem dX5_interest_11 : decode cX5_interest 11 = .ok (.ireturn, 1) := by decide +kernel
theorem dX5_interest_12 : decode cX5_interest 12 = .ok (.aload_n 0, 1) := by decide +kernel
theorem dX5_interest_13 : decode cX5_interest 13 = .ok (.getfield 10, 3) := by decide +kernel
theorem dX5_interest_16 : decode cX5_interest 16 = .ok (.getfield 82, 3) := by decide +kernel
theorem dX5_interest_19 : decode cX5_interest 19 = .ok (.istore_n 2, 1) := by decide +kernel
theorem dX5_interest_20 : decode cX5_interest 20 = .ok (.aload_n 0, 1) := by decide +kernel
theorem dX5_interest_21 : decode cX5_interest 21 = .ok (.getfield 10, 3) := by decide +kernel
theorem dX5_interest_24 : decode cX5_interest 24 = .ok (.iload_n 1, 1) := by decide +kernel
theorem dX5_interest_25 : decode cX5_interest 25 = .ok (.putfield 82, 3) := by decide +kernel
theorem dX5_interest_28 : decode cX5_interest 28 = .ok (.iload_n 2, 1) := by decide +kernel
theorem dX5_interest_29 : decode cX5_interest 29 = .ok (.ireturn, 1) := by decide +kernel
theorem dX5_of_0 : decode cX5_of 0 = .ok (.aload_n 0, 1) := by decide +kernel
theorem dX5_of_1 : decode cX5_of 1 = .ok (.getfield 10, 3) := by decide +kernel
theorem dX5_of_4 : decode cX5_of 4 = .ok (.iload_n 1, 1) := by decide +kernel
theorem dX5_of_5 : decode cX5_of 5 = .ok (.invokevirtual 72, 3) := by decide +kernel
theorem dX5_of_8 : decode cX5_of 8 = .ok (.ifCond .ne 5, 3) := by decide +kernel
theorem dX5_of_11 : decode cX5_of 11 = .ok (.iconst (-1), 1) := by decide +kernel
theorem dX5_of_12 : decode cX5_of 12 = .ok (.ireturn, 1) := by decide +kernel
theorem dX5_of_13 : decode cX5_of 13 = .ok (.iload_n 2, 1) := by decide +kernel
theorem dX5_of_14 : decode cX5_of 14 = .ok (.tableswitch 90 0 4 #[34, 44, 54, 64, 81], 34) := by decide +kernel
theorem dX5_of_48 : decode cX5_of 48 = .ok (.aload_n 0, 1) := by decide +kernel
theorem dX5_of_49 : decode cX5_of 49 = .ok (.getfield 10, 3) := by decide +kernel
theorem dX5_of_52 : decode cX5_of 52 = .ok (.getfield 85, 3) := by decide +kernel
theorem dX5_of_55 : decode cX5_of 55 = .ok (.iload_n 1, 1) := by decide +kernel
theorem dX5_of_56 : decode cX5_of 56 = .ok (.iaload, 1) := by decide +kernel
theorem dX5_of_57 : decode cX5_of 57 = .ok (.ireturn, 1) := by decide +kernel
theorem dX5_of_58 : decode cX5_of 58 = .ok (.aload_n 0, 1) := by decide +kernel
theorem dX5_of_59 : decode cX5_of 59 = .ok (.getfield 10, 3) := by decide +kernel
theorem dX5_of_62 : decode cX5_of 62 = .ok (.getfield 89, 3) := by decide +kernel
theorem dX5_of_65 : decode cX5_of 65 = .ok (.iload_n 1, 1) := by decide +kernel
theorem dX5_of_66 : decode cX5_of 66 = .ok (.iaload, 1) := by decide +kernel
theorem dX5_of_67 : decode cX5_of 67 = .ok (.ireturn, 1) := by decide +kernel
theorem dX5_of_68 : decode cX5_of 68 = .ok (.aload_n 0, 1) := by decide +kernel
theorem dX5_of_69 : decode cX5_of 69 = .ok (.getfield 10, 3) := by decide +kernel
theorem dX5_of_72 : decode cX5_of 72 = .ok (.getfield 92, 3) := by decide +kernel
theorem dX5_of_75 : decode cX5_of 75 = .ok (.iload_n 1, 1) := by decide +kernel
theorem dX5_of_76 : decode cX5_of 76 = .ok (.iaload, 1) := by decide +kernel
theorem dX5_of_77 : decode cX5_of 77 = .ok (.ireturn, 1) := by decide +kernel
theorem dX5_of_78 : decode cX5_of 78 = .ok (.aload_n 0, 1) := by decide +kernel
theorem dX5_of_79 : decode cX5_of 79 = .ok (.getfield 10, 3) := by decide +kernel
theorem dX5_of_82 : decode cX5_of 82 = .ok (.iload_n 1, 1) := by decide +kernel
theorem dX5_of_83 : decode cX5_of 83 = .ok (.invokevirtual 95, 3) := by decide +kernel
theorem dX5_of_86 : decode cX5_of 86 = .ok (.ifCond .eq 7, 3) := by decide +kernel
theorem dX5_of_89 : decode cX5_of 89 = .ok (.iconst 1, 1) := by decide +kernel
theorem dX5_of_90 : decode cX5_of 90 = .ok (.goto 4, 3) := by decide +kernel
theorem dX5_of_93 : decode cX5_of 93 = .ok (.iconst 0, 1) := by decide +kernel
theorem dX5_of_94 : decode cX5_of 94 = .ok (.ireturn, 1) := by decide +kernel
theorem dX5_of_95 : decode cX5_of 95 = .ok (.aload_n 0, 1) := by decide +kernel
theorem dX5_of_96 : decode cX5_of 96 = .ok (.getfield 10, 3) := by decide +kernel
theorem dX5_of_99 : decode cX5_of 99 = .ok (.iload_n 1, 1) := by decide +kernel
theorem dX5_of_100 : decode cX5_of 100 = .ok (.invokevirtual 98, 3) := by decide +kernel
theorem dX5_of_103 : decode cX5_of 103 = .ok (.ireturn, 1) := by decide +kernel
theorem dX5_of_104 : decode cX5_of 104 = .ok (.iconst (-1), 1) := by decide +kernel
theorem dX5_of_105 : decode cX5_of 105 = .ok (.ireturn, 1) := by decide +kernel
theorem dX5_at_0 : decode cX5_at 0 = .ok (.aload_n 0, 1) := by decide +kernel
theorem dX5_at_1 : decode cX5_at 1 = .ok (.getfield 10, 3) := by decide +kernel
theorem dX5_at_4 : decode cX5_at 4 = .ok (.iload_n 1, 1) := by decide +kernel
theorem dX5_at_5 : decode cX5_at 5 = .ok (.invokevirtual 102, 3) := by decide +kernel
theorem dX5_at_8 : decode cX5_at 8 = .ok (.ifCond .ne 5, 3) := by decide +kernel
theorem dX5_at_11 : decode cX5_at 11 = .ok (.iconst (-1), 1) := by decide +kernel
theorem dX5_at_12 : decode cX5_at 12 = .ok (.ireturn, 1) := by decide +kernel
theorem dX5_at_13 : decode cX5_at 13 = .ok (.iload_n 2, 1) := by decide +kernel
theorem dX5_at_14 : decode cX5_at 14 = .ok (.tableswitch 69 0 3 #[30, 40, 50, 60], 30) := by decide +kernel
theorem dX5_at_44 : decode cX5_at 44 = .ok (.aload_n 0, 1) := by decide +kernel
theorem dX5_at_45 : decode cX5_at 45 = .ok (.getfield 10, 3) := by decide +kernel
theorem dX5_at_48 : decode cX5_at 48 = .ok (.getfield 105, 3) := by decide +kernel
theorem dX5_at_51 : decode cX5_at 51 = .ok (.iload_n 1, 1) := by decide +kernel
theorem dX5_at_52 : decode cX5_at 52 = .ok (.iaload, 1) := by decide +kernel
theorem dX5_at_53 : decode cX5_at 53 = .ok (.ireturn, 1) := by decide +kernel
theorem dX5_at_54 : decode cX5_at 54 = .ok (.aload_n 0, 1) := by decide +kernel
theorem dX5_at_55 : decode cX5_at 55 = .ok (.getfield 10, 3) := by decide +kernel
theorem dX5_at_58 : decode cX5_at 58 = .ok (.getfield 108, 3) := by decide +kernel
theorem dX5_at_61 : decode cX5_at 61 = .ok (.iload_n 1, 1) := by decide +kernel
theorem dX5_at_62 : decode cX5_at 62 = .ok (.iaload, 1) := by decide +kernel
theorem dX5_at_63 : decode cX5_at 63 = .ok (.ireturn, 1) := by decide +kernel
theorem dX5_at_64 : decode cX5_at 64 = .ok (.aload_n 0, 1) := by decide +kernel
theorem dX5_at_65 : decode cX5_at 65 = .ok (.getfield 10, 3) := by decide +kernel
theorem dX5_at_68 : decode cX5_at 68 = .ok (.getfield 111, 3) := by decide +kernel
theorem dX5_at_71 : decode cX5_at 71 = .ok (.iload_n 1, 1) := by decide +kernel
theorem dX5_at_72 : decode cX5_at 72 = .ok (.iaload, 1) := by decide +kernel
theorem dX5_at_73 : decode cX5_at 73 = .ok (.ireturn, 1) := by decide +kernel
theorem dX5_at_74 : decode cX5_at 74 = .ok (.aload_n 0, 1) := by decide +kernel
theorem dX5_at_75 : decode cX5_at 75 = .ok (.getfield 10, 3) := by decide +kernel
theorem dX5_at_78 : decode cX5_at 78 = .ok (.iload_n 1, 1) := by decide +kernel
theorem dX5_at_79 : decode cX5_at 79 = .ok (.invokevirtual 114, 3) := by decide +kernel
theorem dX5_at_82 : decode cX5_at 82 = .ok (.ireturn, 1) := by decide +kernel
theorem dX5_at_83 : decode cX5_at 83 = .ok (.iconst (-1), 1) := by decide +kernel
theorem dX5_at_84 : decode cX5_at 84 = .ok (.ireturn, 1) := by decide +kernel
theorem dX5_type_0 : decode cX5_type 0 = .ok (.iload_n 1, 1) := by decide +kernel
theorem dX5_type_1 : decode cX5_type 1 = .ok (.bipush 32, 2) := by decide +kernel
theorem dX5_type_3 : decode cX5_type 3 = .ok (.bipush 126, 2) := by decide +kernel
theorem dX5_type_5 : decode cX5_type 5 = .ok (.invokestatic 57, 3) := by decide +kernel
theorem dX5_type_8 : decode cX5_type 8 = .ok (.ifCond .ne 5, 3) := by decide +kernel
theorem dX5_type_11 : decode cX5_type 11 = .ok (.iconst (-1), 1) := by decide +kernel
theorem dX5_type_12 : decode cX5_type 12 = .ok (.ireturn, 1) := by decide +kernel
theorem dX5_type_13 : decode cX5_type 13 = .ok (.aload_n 0, 1) := by decide +kernel
theorem dX5_type_14 : decode cX5_type 14 = .ok (.getfield 36, 3) := by decide +kernel
theorem dX5_type_17 : decode cX5_type 17 = .ok (.getfield 117, 3) := by decide +kernel
theorem dX5_type_20 : decode cX5_type 20 = .ok (.bipush 80, 2) := by decide +kernel
theorem dX5_type_22 : decode cX5_type 22 = .ok (.if_icmp .lt 6, 3) := by decide +kernel
theorem dX5_type_25 : decode cX5_type 25 = .ok (.bipush (-3), 2) := by decide +kernel
theorem dX5_type_27 : decode cX5_type 27 = .ok (.ireturn, 1) := by decide +kernel
theorem dX5_type_28 : decode cX5_type 28 = .ok (.aload_n 0, 1) := by decide +kernel
theorem dX5_type_29 : decode cX5_type 29 = .ok (.getfield 36, 3) := by decide +kernel
theorem dX5_type_32 : decode cX5_type 32 = .ok (.iload_n 1, 1) := by decide +kernel
theorem dX5_type_33 : decode cX5_type 33 = .ok (.invokevirtual 120, 3) := by decide +kernel
theorem dX5_type_36 : decode cX5_type 36 = .ok (.ireturn, 1) := by decide +kernel
theorem dX5_read_0 : decode cX5_read 0 = .ok (.aload_n 0, 1) := by decide +kernel
theorem dX5_read_1 : decode cX5_read 1 = .ok (.getfield 36, 3) := by decide +kernel
theorem dX5_read_4 : decode cX5_read 4 = .ok (.invokevirtual 123, 3) := by decide +kernel
theorem dX5_read_7 : decode cX5_read 7 = .ok (.istore_n 1, 1) := by decide +kernel
theorem dX5_read_8 : decode cX5_read 8 = .ok (.aload_n 0, 1) := by decide +kernel
theorem dX5_read_9 : decode cX5_read 9 = .ok (.getfield 36, 3) := by decide +kernel
theorem dX5_read_12 : decode cX5_read 12 = .ok (.iconst 0, 1) := by decide +kernel
theorem dX5_read_13 : decode cX5_read 13 = .ok (.putfield 117, 3) := by decide +kernel
theorem dX5_read_16 : decode cX5_read 16 = .ok (.iload_n 1, 1) := by decide +kernel
theorem dX5_read_17 : decode cX5_read 17 = .ok (.ifCond .ne 11, 3) := by decide +kernel
theorem dX5_read_20 : decode cX5_read 20 = .ok (.aload_n 0, 1) := by decide +kernel
theorem dX5_read_21 : decode cX5_read 21 = .ok (.getfield 36, 3) := by decide +kernel
theorem dX5_read_24 : decode cX5_read 24 = .ok (.getfield 127, 3) := by decide +kernel
theorem dX5_read_27 : decode cX5_read 27 = .ok (.ireturn, 1) := by decide +kernel
theorem dX5_read_28 : decode cX5_read 28 = .ok (.aload_n 0, 1) := by decide +kernel
theorem dX5_read_29 : decode cX5_read 29 = .ok (.getfield 10, 3) := by decide +kernel
theorem dX5_read_32 : decode cX5_read 32 = .ok (.getfield 130, 3) := by decide +kernel
theorem dX5_read_35 : decode cX5_read 35 = .ok (.istore_n 2, 1) := by decide +kernel
theorem dX5_read_36 : decode cX5_read 36 = .ok (.aload_n 0, 1) := by decide +kernel
theorem dX5_read_37 : decode cX5_read 37 = .ok (.getfield 10, 3) := by decide +kernel
theorem dX5_read_40 : decode cX5_read 40 = .ok (.aload_n 0, 1) := by decide +kernel
theorem dX5_read_41 : decode cX5_read 41 = .ok (.getfield 36, 3) := by decide +kernel
theorem dX5_read_44 : decode cX5_read 44 = .ok (.getfield 133, 3) := by decide +kernel
theorem dX5_read_47 : decode cX5_read 47 = .ok (.invokevirtual 136, 3) := by decide +kernel
theorem dX5_read_50 : decode cX5_read 50 = .ok (.aload_n 0, 1) := by decide +kernel
theorem dX5_read_51 : decode cX5_read 51 = .ok (.getfield 10, 3) := by decide +kernel
theorem dX5_read_54 : decode cX5_read 54 = .ok (.iload_n 2, 1) := by decide +kernel
theorem dX5_read_55 : decode cX5_read 55 = .ok (.putfield 130, 3) := by decide +kernel
theorem dX5_read_58 : decode cX5_read 58 = .ok (.aload_n 0, 1) := by decide +kernel
theorem dX5_read_59 : decode cX5_read 59 = .ok (.getfield 22, 3) := by decide +kernel
theorem dX5_read_62 : decode cX5_read 62 = .ok (.invokevirtual 65, 3) := by decide +kernel
theorem dX5_read_65 : decode cX5_read 65 = .ok (.aload_n 0, 1) := by decide +kernel
theorem dX5_read_66 : decode cX5_read 66 = .ok (.getfield 10, 3) := by decide +kernel
theorem dX5_read_69 : decode cX5_read 69 = .ok (.getfield 61, 3) := by decide +kernel
theorem dX5_read_72 : decode cX5_read 72 = .ok (.ireturn, 1) := by decide +kernel
theorem dX5_count_0 : decode cX5_count 0 = .ok (.iload_n 1, 1) := by decide +kernel
theorem dX5_count_1 : decode cX5_count 1 = .ok (.tableswitch 131 0 8 #[51, 59, 67, 75, 83, 91, 99, 107, 123], 51) := by decide +kernel
theorem dX5_count_52 : decode cX5_count 52 = .ok (.aload_n 0, 1) := by decide +kernel
theorem dX5_count_53 : decode cX5_count 53 = .ok (.getfield 10, 3) := by decide +kernel
theorem dX5_count_56 : decode cX5_count 56 = .ok (.getfield 61, 3) := by decide +kernel
theorem dX5_count_59 : decode cX5_count 59 = .ok (.ireturn, 1) := by decide +kernel
theorem dX5_count_60 : decode cX5_count 60 = .ok (.aload_n 0, 1) := by decide +kernel
theorem dX5_count_61 : decode cX5_count 61 = .ok (.getfield 10, 3) := by decide +kernel
theorem dX5_count_64 : decode cX5_count 64 = .ok (.getfield 76, 3) := by decide +kernel
theorem dX5_count_67 : decode cX5_count 67 = .ok (.ireturn, 1) := by decide +kernel
theorem dX5_count_68 : decode cX5_count 68 = .ok (.aload_n 0, 1) := by decide +kernel
theorem dX5_count_69 : decode cX5_count 69 = .ok (.getfield 10, 3) := by decide +kernel
theorem dX5_count_72 : decode cX5_count 72 = .ok (.getfield 140, 3) := by decide +kernel
theorem dX5_count_75 : decode cX5_count 75 = .ok (.ireturn, 1) := by decide +kernel
theorem dX5_count_76 : decode cX5_count 76 = .ok (.aload_n 0, 1) := by decide +kernel
theorem dX5_count_77 : decode cX5_count 77 = .ok (.getfield 10, 3) := by decide +kernel
theorem dX5_count_80 : decode cX5_count 80 = .ok (.getfield 82, 3) := by decide +kernel
theorem dX5_count_83 : decode cX5_count 83 = .ok (.ireturn, 1) := by decide +kernel
theorem dX5_count_84 : decode cX5_count 84 = .ok (.aload_n 0, 1) := by decide +kernel
theorem dX5_count_85 : decode cX5_count 85 = .ok (.getfield 10, 3) := by decide +kernel
theorem dX5_count_88 : decode cX5_count 88 = .ok (.getfield 143, 3) := by decide +kernel
theorem dX5_count_91 : decode cX5_count 91 = .ok (.ireturn, 1) := by decide +kernel
theorem dX5_count_92 : decode cX5_count 92 = .ok (.aload_n 0, 1) := by decide +kernel
theorem dX5_count_93 : decode cX5_count 93 = .ok (.getfield 10, 3) := by decide +kernel
theorem dX5_count_96 : decode cX5_count 96 = .ok (.invokevirtual 146, 3) := by decide +kernel
theorem dX5_count_99 : decode cX5_count 99 = .ok (.ireturn, 1) := by decide +kernel
theorem dX5_count_100 : decode cX5_count 100 = .ok (.aload_n 0, 1) := by decide +kernel
theorem dX5_count_101 : decode cX5_count 101 = .ok (.getfield 10, 3) := by decide +kernel
theorem dX5_count_104 : decode cX5_count 104 = .ok (.invokevirtual 150, 3) := by decide +kernel
theorem dX5_count_107 : decode cX5_count 107 = .ok (.ireturn, 1) := by decide +kernel
theorem dX5_count_108 : decode cX5_count 108 = .ok (.aload_n 0, 1) := by decide +kernel
theorem dX5_count_109 : decode cX5_count 109 = .ok (.getfield 10, 3) := by decide +kernel
theorem dX5_count_112 : decode cX5_count 112 = .ok (.invokevirtual 153, 3) := by decide +kernel
theorem dX5_count_115 : decode cX5_count 115 = .ok (.ifCond .eq 7, 3) := by decide +kernel
theorem dX5_count_118 : decode cX5_count 118 = .ok (.iconst 1, 1) := by decide +kernel
theorem dX5_count_119 : decode cX5_count 119 = .ok (.goto 4, 3) := by decide +kernel
theorem dX5_count_122 : decode cX5_count 122 = .ok (.iconst 0, 1) := by decide +kernel
theorem dX5_count_123 : decode cX5_count 123 = .ok (.ireturn, 1) := by decide +kernel
theorem dX5_count_124 : decode cX5_count 124 = .ok (.aload_n 0, 1) := by decide +kernel
theorem dX5_count_125 : decode cX5_count 125 = .ok (.getfield 22, 3) := by decide +kernel
theorem dX5_count_128 : decode cX5_count 128 = .ok (.getfield 156, 3) := by decide +kernel
theorem dX5_count_131 : decode cX5_count 131 = .ok (.ireturn, 1) := by decide +kernel
theorem dX5_count_132 : decode cX5_count 132 = .ok (.iconst (-1), 1) := by decide +kernel
theorem dX5_count_133 : decode cX5_count 133 = .ok (.ireturn, 1) := by decide +kernel
theorem dX5_nights_0 : decode cX5_nights 0 = .ok (.iload_n 1, 1) := by decide +kernel
theorem dX5_nights_1 : decode cX5_nights 1 = .ok (.iconst 1, 1) := by decide +kernel
theorem dX5_nights_2 : decode cX5_nights 2 = .ok (.bipush 40, 2) := by decide +kernel
theorem dX5_nights_4 : decode cX5_nights 4 = .ok (.invokestatic 57, 3) := by decide +kernel
theorem dX5_nights_7 : decode cX5_nights 7 = .ok (.ifCond .ne 5, 3) := by decide +kernel
theorem dX5_nights_10 : decode cX5_nights 10 = .ok (.iconst (-1), 1) := by decide +kernel
theorem dX5_nights_11 : decode cX5_nights 11 = .ok (.ireturn, 1) := by decide +kernel
theorem dX5_nights_12 : decode cX5_nights 12 = .ok (.aload_n 0, 1) := by decide +kernel
theorem dX5_nights_13 : decode cX5_nights 13 = .ok (.getfield 10, 3) := by decide +kernel
theorem dX5_nights_16 : decode cX5_nights 16 = .ok (.getfield 140, 3) := by decide +kernel
theorem dX5_nights_19 : decode cX5_nights 19 = .ok (.iload_n 1, 1) := by decide +kernel
theorem dX5_nights_20 : decode cX5_nights 20 = .ok (.iadd, 1) := by decide +kernel
theorem dX5_nights_21 : decode cX5_nights 21 = .ok (.sipush 9999, 3) := by decide +kernel
theorem dX5_nights_24 : decode cX5_nights 24 = .ok (.if_icmp .le 6, 3) := by decide +kernel
theorem dX5_nights_27 : decode cX5_nights 27 = .ok (.bipush (-3), 2) := by decide +kernel
theorem dX5_nights_29 : decode cX5_nights 29 = .ok (.ireturn, 1) := by decide +kernel
theorem dX5_nights_30 : decode cX5_nights 30 = .ok (.iconst 0, 1) := by decide +kernel
theorem dX5_nights_31 : decode cX5_nights 31 = .ok (.istore_n 2, 1) := by decide +kernel
theorem dX5_nights_32 : decode cX5_nights 32 = .ok (.iload_n 2, 1) := by decide +kernel
theorem dX5_nights_33 : decode cX5_nights 33 = .ok (.iload_n 1, 1) := by decide +kernel
theorem dX5_nights_34 : decode cX5_nights 34 = .ok (.if_icmp .ge 28, 3) := by decide +kernel
theorem dX5_nights_37 : decode cX5_nights 37 = .ok (.aload_n 0, 1) := by decide +kernel
theorem dX5_nights_38 : decode cX5_nights 38 = .ok (.getfield 22, 3) := by decide +kernel
theorem dX5_nights_41 : decode cX5_nights 41 = .ok (.aload_n 0, 1) := by decide +kernel
theorem dX5_nights_42 : decode cX5_nights 42 = .ok (.getfield 10, 3) := by decide +kernel
theorem dX5_nights_45 : decode cX5_nights 45 = .ok (.invokevirtual 157, 3) := by decide +kernel
theorem dX5_nights_48 : decode cX5_nights 48 = .ok (.aload_n 0, 1) := by decide +kernel
theorem dX5_nights_49 : decode cX5_nights 49 = .ok (.getfield 10, 3) := by decide +kernel
theorem dX5_nights_52 : decode cX5_nights 52 = .ok (.iconst 0, 1) := by decide +kernel
theorem dX5_nights_53 : decode cX5_nights 53 = .ok (.invokevirtual 160, 3) := by decide +kernel
theorem dX5_nights_56 : decode cX5_nights 56 = .ok (.iinc 2 1, 3) := by decide +kernel
theorem dX5_nights_59 : decode cX5_nights 59 = .ok (.goto (-27), 3) := by decide +kernel
theorem dX5_nights_62 : decode cX5_nights 62 = .ok (.aload_n 0, 1) := by decide +kernel
theorem dX5_nights_63 : decode cX5_nights 63 = .ok (.getfield 10, 3) := by decide +kernel
theorem dX5_nights_66 : decode cX5_nights 66 = .ok (.invokevirtual 146, 3) := by decide +kernel
theorem dX5_nights_69 : decode cX5_nights 69 = .ok (.ireturn, 1) := by decide +kernel
theorem dX5_put_0 : decode cX5_put 0 = .ok (.aload_n 0, 1) := by decide +kernel
theorem dX5_put_1 : decode cX5_put 1 = .ok (.getfield 10, 3) := by decide +kernel
theorem dX5_put_4 : decode cX5_put 4 = .ok (.iload_n 1, 1) := by decide +kernel
theorem dX5_put_5 : decode cX5_put 5 = .ok (.invokevirtual 72, 3) := by decide +kernel
theorem dX5_put_8 : decode cX5_put 8 = .ok (.ifCond .eq 13, 3) := by decide +kernel
theorem dX5_put_11 : decode cX5_put 11 = .ok (.iload_n 2, 1) := by decide +kernel
theorem dX5_put_12 : decode cX5_put 12 = .ok (.iconst 0, 1) := by decide +kernel
theorem dX5_put_13 : decode cX5_put 13 = .ok (.bipush 20, 2) := by decide +kernel
theorem dX5_put_15 : decode cX5_put 15 = .ok (.invokestatic 57, 3) := by decide +kernel
theorem dX5_put_18 : decode cX5_put 18 = .ok (.ifCond .ne 5, 3) := by decide +kernel
theorem dX5_put_21 : decode cX5_put 21 = .ok (.iconst (-1), 1) := by decide +kernel
theorem dX5_put_22 : decode cX5_put 22 = .ok (.ireturn, 1) := by decide +kernel
theorem dX5_put_23 : decode cX5_put 23 = .ok (.aload_n 0, 1) := by decide +kernel
theorem dX5_put_24 : decode cX5_put 24 = .ok (.getfield 10, 3) := by decide +kernel
theorem dX5_put_27 : decode cX5_put 27 = .ok (.getfield 89, 3) := by decide +kernel
theorem dX5_put_30 : decode cX5_put 30 = .ok (.iload_n 1, 1) := by decide +kernel
theorem dX5_put_31 : decode cX5_put 31 = .ok (.iaload, 1) := by decide +kernel
theorem dX5_put_32 : decode cX5_put 32 = .ok (.istore_n 3, 1) := by decide +kernel
theorem dX5_put_33 : decode cX5_put 33 = .ok (.iload_n 3, 1) := by decide +kernel
theorem dX5_put_34 : decode cX5_put 34 = .ok (.iload_n 2, 1) := by decide +kernel
theorem dX5_put_35 : decode cX5_put 35 = .ok (.if_icmp .ne 6, 3) := by decide +kernel
theorem dX5_put_38 : decode cX5_put 38 = .ok (.bipush (-2), 2) := by decide +kernel
theorem dX5_put_40 : decode cX5_put 40 = .ok (.ireturn, 1) := by decide +kernel
theorem dX5_put_41 : decode cX5_put 41 = .ok (.aload_n 0, 1) := by decide +kernel
theorem dX5_put_42 : decode cX5_put 42 = .ok (.getfield 22, 3) := by decide +kernel
theorem dX5_put_45 : decode cX5_put 45 = .ok (.aload_n 0, 1) := by decide +kernel
theorem dX5_put_46 : decode cX5_put 46 = .ok (.getfield 10, 3) := by decide +kernel
theorem dX5_put_49 : decode cX5_put 49 = .ok (.invokevirtual 157, 3) := by decide +kernel
theorem dX5_put_52 : decode cX5_put 52 = .ok (.aload_n 0, 1) := by decide +kernel
theorem dX5_put_53 : decode cX5_put 53 = .ok (.getfield 10, 3) := by decide +kernel
theorem dX5_put_56 : decode cX5_put 56 = .ok (.getfield 89, 3) := by decide +kernel
theorem dX5_put_59 : decode cX5_put 59 = .ok (.iload_n 1, 1) := by decide +kernel
theorem dX5_put_60 : decode cX5_put 60 = .ok (.iload_n 2, 1) := by decide +kernel
theorem dX5_put_61 : decode cX5_put 61 = .ok (.iastore, 1) := by decide +kernel
theorem dX5_put_62 : decode cX5_put 62 = .ok (.iload_n 3, 1) := by decide +kernel
theorem dX5_put_63 : decode cX5_put 63 = .ok (.ireturn, 1) := by decide +kernel
theorem dX5_pay_0 : decode cX5_pay 0 = .ok (.aload_n 0, 1) := by decide +kernel
theorem dX5_pay_1 : decode cX5_pay 1 = .ok (.getfield 10, 3) := by decide +kernel
theorem dX5_pay_4 : decode cX5_pay 4 = .ok (.iload_n 1, 1) := by decide +kernel
theorem dX5_pay_5 : decode cX5_pay 5 = .ok (.invokevirtual 72, 3) := by decide +kernel
theorem dX5_pay_8 : decode cX5_pay 8 = .ok (.ifCond .eq 14, 3) := by decide +kernel
theorem dX5_pay_11 : decode cX5_pay 11 = .ok (.iload_n 2, 1) := by decide +kernel
theorem dX5_pay_12 : decode cX5_pay 12 = .ok (.iconst 1, 1) := by decide +kernel
theorem dX5_pay_13 : decode cX5_pay 13 = .ok (.sipush 9999, 3) := by decide +kernel
theorem dX5_pay_16 : decode cX5_pay 16 = .ok (.invokestatic 57, 3) := by decide +kernel
theorem dX5_pay_19 : decode cX5_pay 19 = .ok (.ifCond .ne 5, 3) := by decide +kernel
theorem dX5_pay_22 : decode cX5_pay 22 = .ok (.iconst (-1), 1) := by decide +kernel
theorem dX5_pay_23 : decode cX5_pay 23 = .ok (.ireturn, 1) := by decide +kernel
theorem dX5_pay_24 : decode cX5_pay 24 = .ok (.aload_n 0, 1) := by decide +kernel
theorem dX5_pay_25 : decode cX5_pay 25 = .ok (.getfield 10, 3) := by decide +kernel
theorem dX5_pay_28 : decode cX5_pay 28 = .ok (.getfield 85, 3) := by decide +kernel
theorem dX5_pay_31 : decode cX5_pay 31 = .ok (.iload_n 1, 1) := by decide +kernel
theorem dX5_pay_32 : decode cX5_pay 32 = .ok (.iaload, 1) := by decide +kernel
theorem dX5_pay_33 : decode cX5_pay 33 = .ok (.ifCond .ne 6, 3) := by decide +kernel
theorem dX5_pay_36 : decode cX5_pay 36 = .ok (.bipush (-2), 2) := by decide +kernel
theorem dX5_pay_38 : decode cX5_pay 38 = .ok (.ireturn, 1) := by decide +kernel
theorem dX5_pay_39 : decode cX5_pay 39 = .ok (.aload_n 0, 1) := by decide +kernel
theorem dX5_pay_40 : decode cX5_pay 40 = .ok (.getfield 22, 3) := by decide +kernel
theorem dX5_pay_43 : decode cX5_pay 43 = .ok (.aload_n 0, 1) := by decide +kernel
theorem dX5_pay_44 : decode cX5_pay 44 = .ok (.getfield 10, 3) := by decide +kernel
theorem dX5_pay_47 : decode cX5_pay 47 = .ok (.invokevirtual 157, 3) := by decide +kernel
theorem dX5_pay_50 : decode cX5_pay 50 = .ok (.aload_n 0, 1) := by decide +kernel
theorem dX5_pay_51 : decode cX5_pay 51 = .ok (.getfield 10, 3) := by decide +kernel
theorem dX5_pay_54 : decode cX5_pay 54 = .ok (.iload_n 1, 1) := by decide +kernel
theorem dX5_pay_55 : decode cX5_pay 55 = .ok (.iload_n 2, 1) := by decide +kernel
theorem dX5_pay_56 : decode cX5_pay 56 = .ok (.invokevirtual 164, 3) := by decide +kernel
theorem dX5_pay_59 : decode cX5_pay 59 = .ok (.aload_n 0, 1) := by decide +kernel
theorem dX5_pay_60 : decode cX5_pay 60 = .ok (.getfield 10, 3) := by decide +kernel
theorem dX5_pay_63 : decode cX5_pay 63 = .ok (.getfield 85, 3) := by decide +kernel
theorem dX5_pay_66 : decode cX5_pay 66 = .ok (.iload_n 1, 1) := by decide +kernel
theorem dX5_pay_67 : decode cX5_pay 67 = .ok (.iaload, 1) := by decide +kernel
theorem dX5_pay_68 : decode cX5_pay 68 = .ok (.ireturn, 1) := by decide +kernel
theorem dX5_drive_0 : decode cX5_drive 0 = .ok (.aload_n 0, 1) := by decide +kernel
theorem dX5_drive_1 : decode cX5_drive 1 = .ok (.getfield 10, 3) := by decide +kernel
theorem dX5_drive_4 : decode cX5_drive 4 = .ok (.iload_n 1, 1) := by decide +kernel
theorem dX5_drive_5 : decode cX5_drive 5 = .ok (.invokevirtual 102, 3) := by decide +kernel
theorem dX5_drive_8 : decode cX5_drive 8 = .ok (.ifCond .eq 14, 3) := by decide +kernel
theorem dX5_drive_11 : decode cX5_drive 11 = .ok (.aload_n 0, 1) := by decide +kernel
theorem dX5_drive_12 : decode cX5_drive 12 = .ok (.getfield 10, 3) := by decide +kernel
theorem dX5_drive_15 : decode cX5_drive 15 = .ok (.iload_n 2, 1) := by decide +kernel
theorem dX5_drive_16 : decode cX5_drive 16 = .ok (.invokevirtual 72, 3) := by decide +kernel
theorem dX5_drive_19 : decode cX5_drive 19 = .ok (.ifCond .ne 5, 3) := by decide +kernel
theorem dX5_drive_22 : decode cX5_drive 22 = .ok (.iconst (-1), 1) := by decide +kernel
theorem dX5_drive_23 : decode cX5_drive 23 = .ok (.ireturn, 1) := by decide +kernel
theorem dX5_drive_24 : decode cX5_drive 24 = .ok (.aload_n 0, 1) := by decide +kernel
theorem dX5_drive_25 : decode cX5_drive 25 = .ok (.getfield 10, 3) := by decide +kernel
theorem dX5_drive_28 : decode cX5_drive 28 = .ok (.getfield 111, 3) := by decide +kernel
theorem dX5_drive_31 : decode cX5_drive 31 = .ok (.iload_n 1, 1) := by decide +kernel
theorem dX5_drive_32 : decode cX5_drive 32 = .ok (.iaload, 1) := by decide +kernel
theorem dX5_drive_33 : decode cX5_drive 33 = .ok (.istore_n 3, 1) := by decide +kernel
theorem dX5_drive_34 : decode cX5_drive 34 = .ok (.iload_n 3, 1) := by decide +kernel
theorem dX5_drive_35 : decode cX5_drive 35 = .ok (.iload_n 2, 1) := by decide +kernel
theorem dX5_drive_36 : decode cX5_drive 36 = .ok (.if_icmp .ne 6, 3) := by decide +kernel
theorem dX5_drive_39 : decode cX5_drive 39 = .ok (.bipush (-2), 2) := by decide +kernel
theorem dX5_drive_41 : decode cX5_drive 41 = .ok (.ireturn, 1) := by decide +kernel
theorem dX5_drive_42 : decode cX5_drive 42 = .ok (.aload_n 0, 1) := by decide +kernel
theorem dX5_drive_43 : decode cX5_drive 43 = .ok (.getfield 22, 3) := by decide +kernel
theorem dX5_drive_46 : decode cX5_drive 46 = .ok (.aload_n 0, 1) := by decide +kernel
theorem dX5_drive_47 : decode cX5_drive 47 = .ok (.getfield 10, 3) := by decide +kernel
theorem dX5_drive_50 : decode cX5_drive 50 = .ok (.invokevirtual 157, 3) := by decide +kernel
theorem dX5_drive_53 : decode cX5_drive 53 = .ok (.aload_n 0, 1) := by decide +kernel
theorem dX5_drive_54 : decode cX5_drive 54 = .ok (.getfield 10, 3) := by decide +kernel
theorem dX5_drive_57 : decode cX5_drive 57 = .ok (.getfield 111, 3) := by decide +kernel
theorem dX5_drive_60 : decode cX5_drive 60 = .ok (.iload_n 1, 1) := by decide +kernel
theorem dX5_drive_61 : decode cX5_drive 61 = .ok (.iload_n 2, 1) := by decide +kernel
theorem dX5_drive_62 : decode cX5_drive 62 = .ok (.iastore, 1) := by decide +kernel
theorem dX5_drive_63 : decode cX5_drive 63 = .ok (.iload_n 3, 1) := by decide +kernel
theorem dX5_drive_64 : decode cX5_drive 64 = .ok (.ireturn, 1) := by decide +kernel
theorem dX5_forgive_0 : decode cX5_forgive 0 = .ok (.aload_n 0, 1) := by decide +kernel
theorem dX5_forgive_1 : decode cX5_forgive 1 = .ok (.getfield 10, 3) := by decide +kernel
theorem dX5_forgive_4 : decode cX5_forgive 4 = .ok (.iload_n 1, 1) := by decide +kernel
theorem dX5_forgive_5 : decode cX5_forgive 5 = .ok (.invokevirtual 72, 3) := by decide +kernel
theorem dX5_forgive_8 : decode cX5_forgive 8 = .ok (.ifCond .ne 5, 3) := by decide +kernel
theorem dX5_forgive_11 : decode cX5_forgive 11 = .ok (.iconst (-1), 1) := by decide +kernel
theorem dX5_forgive_12 : decode cX5_forgive 12 = .ok (.ireturn, 1) := by decide +kernel
theorem dX5_forgive_13 : decode cX5_forgive 13 = .ok (.aload_n 0, 1) := by decide +kernel
theorem dX5_forgive_14 : decode cX5_forgive 14 = .ok (.getfield 10, 3) := by decide +kernel
theorem dX5_forgive_17 : decode cX5_forgive 17 = .ok (.getfield 92, 3) := by decide +kernel
theorem dX5_forgive_20 : decode cX5_forgive 20 = .ok (.iload_n 1, 1) := by decide +kernel
theorem dX5_forgive_21 : decode cX5_forgive 21 = .ok (.iaload, 1) := by decide +kernel
theorem dX5_forgive_22 : decode cX5_forgive 22 = .ok (.istore_n 2, 1) := by decide +kernel
theorem dX5_forgive_23 : decode cX5_forgive 23 = .ok (.iload_n 2, 1) := by decide +kernel
theorem dX5_forgive_24 : decode cX5_forgive 24 = .ok (.ifCond .ne 6, 3) := by decide +kernel
theorem dX5_forgive_27 : decode cX5_forgive 27 = .ok (.bipush (-2), 2) := by decide +kernel
theorem dX5_forgive_29 : decode cX5_forgive 29 = .ok (.ireturn, 1) := by decide +kernel
theorem dX5_forgive_30 : decode cX5_forgive 30 = .ok (.aload_n 0, 1) := by decide +kernel
theorem dX5_forgive_31 : decode cX5_forgive 31 = .ok (.getfield 22, 3) := by decide +kernel
theorem dX5_forgive_34 : decode cX5_forgive 34 = .ok (.aload_n 0, 1) := by decide +kernel
theorem dX5_forgive_35 : decode cX5_forgive 35 = .ok (.getfield 10, 3) := by decide +kernel
theorem dX5_forgive_38 : decode cX5_forgive 38 = .ok (.invokevirtual 157, 3) := by decide +kernel
theorem dX5_forgive_41 : decode cX5_forgive 41 = .ok (.aload_n 0, 1) := by decide +kernel
theorem dX5_forgive_42 : decode cX5_forgive 42 = .ok (.getfield 10, 3) := by decide +kernel
theorem dX5_forgive_45 : decode cX5_forgive 45 = .ok (.getfield 92, 3) := by decide +kernel
theorem dX5_forgive_48 : decode cX5_forgive 48 = .ok (.iload_n 1, 1) := by decide +kernel
theorem dX5_forgive_49 : decode cX5_forgive 49 = .ok (.iconst 0, 1) := by decide +kernel
theorem dX5_forgive_50 : decode cX5_forgive 50 = .ok (.iastore, 1) := by decide +kernel
theorem dX5_forgive_51 : decode cX5_forgive 51 = .ok (.iload_n 2, 1) := by decide +kernel
theorem dX5_forgive_52 : decode cX5_forgive 52 = .ok (.ireturn, 1) := by decide +kernel
theorem dX5_drift_0 : decode cX5_drift 0 = .ok (.iload_n 1, 1) := by decide +kernel
theorem dX5_drift_1 : decode cX5_drift 1 = .ok (.iconst 1, 1) := by decide +kernel
theorem dX5_drift_2 : decode cX5_drift 2 = .ok (.bipush 40, 2) := by decide +kernel
theorem dX5_drift_4 : decode cX5_drift 4 = .ok (.invokestatic 57, 3) := by decide +kernel
theorem dX5_drift_7 : decode cX5_drift 7 = .ok (.ifCond .ne 5, 3) := by decide +kernel
theorem dX5_drift_10 : decode cX5_drift 10 = .ok (.iconst (-1), 1) := by decide +kernel
theorem dX5_drift_11 : decode cX5_drift 11 = .ok (.ireturn, 1) := by decide +kernel
theorem dX5_drift_12 : decode cX5_drift 12 = .ok (.aload_n 0, 1) := by decide +kernel
theorem dX5_drift_13 : decode cX5_drift 13 = .ok (.getfield 10, 3) := by decide +kernel
theorem dX5_drift_16 : decode cX5_drift 16 = .ok (.getfield 140, 3) := by decide +kernel
theorem dX5_drift_19 : decode cX5_drift 19 = .ok (.iload_n 1, 1) := by decide +kernel
theorem dX5_drift_20 : decode cX5_drift 20 = .ok (.iadd, 1) := by decide +kernel
theorem dX5_drift_21 : decode cX5_drift 21 = .ok (.sipush 9999, 3) := by decide +kernel
theorem dX5_drift_24 : decode cX5_drift 24 = .ok (.if_icmp .le 6, 3) := by decide +kernel
theorem dX5_drift_27 : decode cX5_drift 27 = .ok (.bipush (-3), 2) := by decide +kernel
theorem dX5_drift_29 : decode cX5_drift 29 = .ok (.ireturn, 1) := by decide +kernel
theorem dX5_drift_30 : decode cX5_drift 30 = .ok (.iconst 0, 1) := by decide +kernel
theorem dX5_drift_31 : decode cX5_drift 31 = .ok (.istore_n 2, 1) := by decide +kernel
theorem dX5_drift_32 : decode cX5_drift 32 = .ok (.iload_n 2, 1) := by decide +kernel
theorem dX5_drift_33 : decode cX5_drift 33 = .ok (.iload_n 1, 1) := by decide +kernel
theorem dX5_drift_34 : decode cX5_drift 34 = .ok (.if_icmp .ge 35, 3) := by decide +kernel
theorem dX5_drift_37 : decode cX5_drift 37 = .ok (.aload_n 0, 1) := by decide +kernel
theorem dX5_drift_38 : decode cX5_drift 38 = .ok (.getfield 22, 3) := by decide +kernel
theorem dX5_drift_41 : decode cX5_drift 41 = .ok (.aload_n 0, 1) := by decide +kernel
theorem dX5_drift_42 : decode cX5_drift 42 = .ok (.getfield 10, 3) := by decide +kernel
theorem dX5_drift_45 : decode cX5_drift 45 = .ok (.invokevirtual 157, 3) := by decide +kernel
theorem dX5_drift_48 : decode cX5_drift 48 = .ok (.aload_n 0, 1) := by decide +kernel
theorem dX5_drift_49 : decode cX5_drift 49 = .ok (.getfield 10, 3) := by decide +kernel
theorem dX5_drift_52 : decode cX5_drift 52 = .ok (.invokevirtual 168, 3) := by decide +kernel
theorem dX5_drift_55 : decode cX5_drift 55 = .ok (.aload_n 0, 1) := by decide +kernel
theorem dX5_drift_56 : decode cX5_drift 56 = .ok (.getfield 10, 3) := by decide +kernel
theorem dX5_drift_59 : decode cX5_drift 59 = .ok (.iconst 0, 1) := by decide +kernel
theorem dX5_drift_60 : decode cX5_drift 60 = .ok (.invokevirtual 160, 3) := by decide +kernel
theorem dX5_drift_63 : decode cX5_drift 63 = .ok (.iinc 2 1, 3) := by decide +kernel
theorem dX5_drift_66 : decode cX5_drift 66 = .ok (.goto (-34), 3) := by decide +kernel
theorem dX5_drift_69 : decode cX5_drift 69 = .ok (.aload_n 0, 1) := by decide +kernel
theorem dX5_drift_70 : decode cX5_drift 70 = .ok (.getfield 10, 3) := by decide +kernel
theorem dX5_drift_73 : decode cX5_drift 73 = .ok (.invokevirtual 146, 3) := by decide +kernel
theorem dX5_drift_76 : decode cX5_drift 76 = .ok (.ireturn, 1) := by decide +kernel
theorem dX5_undo_0 : decode cX5_undo 0 = .ok (.aload_n 0, 1) := by decide +kernel
theorem dX5_undo_1 : decode cX5_undo 1 = .ok (.getfield 22, 3) := by decide +kernel
theorem dX5_undo_4 : decode cX5_undo 4 = .ok (.getfield 156, 3) := by decide +kernel
theorem dX5_undo_7 : decode cX5_undo 7 = .ok (.ifCond .ne 6, 3) := by decide +kernel
theorem dX5_undo_10 : decode cX5_undo 10 = .ok (.bipush (-4), 2) := by decide +kernel
theorem dX5_undo_12 : decode cX5_undo 12 = .ok (.ireturn, 1) := by decide +kernel
theorem dX5_undo_13 : decode cX5_undo 13 = .ok (.aload_n 0, 1) := by decide +kernel
theorem dX5_undo_14 : decode cX5_undo 14 = .ok (.getfield 10, 3) := by decide +kernel
theorem dX5_undo_17 : decode cX5_undo 17 = .ok (.getfield 82, 3) := by decide +kernel
theorem dX5_undo_20 : decode cX5_undo 20 = .ok (.istore_n 1, 1) := by decide +kernel
theorem dX5_undo_21 : decode cX5_undo 21 = .ok (.aload_n 0, 1) := by decide +kernel
theorem dX5_undo_22 : decode cX5_undo 22 = .ok (.getfield 22, 3) := by decide +kernel
theorem dX5_undo_25 : decode cX5_undo 25 = .ok (.aload_n 0, 1) := by decide +kernel
theorem dX5_undo_26 : decode cX5_undo 26 = .ok (.getfield 10, 3) := by decide +kernel
theorem dX5_undo_29 : decode cX5_undo 29 = .ok (.invokevirtual 171, 3) := by decide +kernel
theorem dX5_undo_32 : decode cX5_undo 32 = .ok (.aload_n 0, 1) := by decide +kernel
theorem dX5_undo_33 : decode cX5_undo 33 = .ok (.getfield 10, 3) := by decide +kernel
theorem dX5_undo_36 : decode cX5_undo 36 = .ok (.iload_n 1, 1) := by decide +kernel
theorem dX5_undo_37 : decode cX5_undo 37 = .ok (.putfield 82, 3) := by decide +kernel
theorem dX5_undo_40 : decode cX5_undo 40 = .ok (.aload_n 0, 1) := by decide +kernel
theorem dX5_undo_41 : decode cX5_undo 41 = .ok (.getfield 22, 3) := by decide +kernel
theorem dX5_undo_44 : decode cX5_undo 44 = .ok (.getfield 156, 3) := by decide +kernel
theorem dX5_undo_47 : decode cX5_undo 47 = .ok (.ireturn, 1) := by decide +kernel
theorem dX5_seed_0 : decode cX5_seed 0 = .ok (.iload_n 1, 1) := by decide +kernel
theorem dX5_seed_1 : decode cX5_seed 1 = .ok (.ifCond .ge 5, 3) := by decide +kernel
theorem dX5_seed_4 : decode cX5_seed 4 = .ok (.iconst (-1), 1) := by decide +kernel
theorem dX5_seed_5 : decode cX5_seed 5 = .ok (.ireturn, 1) := by decide +kernel
theorem dX5_seed_6 : decode cX5_seed 6 = .ok (.aload_n 0, 1) := by decide +kernel
theorem dX5_seed_7 : decode cX5_seed 7 = .ok (.getfield 10, 3) := by decide +kernel
theorem dX5_seed_10 : decode cX5_seed 10 = .ok (.getfield 130, 3) := by decide +kernel
theorem dX5_seed_13 : decode cX5_seed 13 = .ok (.istore_n 2, 1) := by decide +kernel
theorem dX5_seed_14 : decode cX5_seed 14 = .ok (.aload_n 0, 1) := by decide +kernel
theorem dX5_seed_15 : decode cX5_seed 15 = .ok (.getfield 10, 3) := by decide +kernel
theorem dX5_seed_18 : decode cX5_seed 18 = .ok (.iload_n 1, 1) := by decide +kernel
theorem dX5_seed_19 : decode cX5_seed 19 = .ok (.putfield 130, 3) := by decide +kernel
theorem dX5_seed_22 : decode cX5_seed 22 = .ok (.iload_n 2, 1) := by decide +kernel
theorem dX5_seed_23 : decode cX5_seed 23 = .ok (.ireturn, 1) := by decide +kernel
theorem dX5_ahead_0 : decode cX5_ahead 0 = .ok (.aload_n 0, 1) := by decide +kernel
theorem dX5_ahead_1 : decode cX5_ahead 1 = .ok (.getfield 10, 3) := by decide +kernel
theorem dX5_ahead_4 : decode cX5_ahead 4 = .ok (.iload_n 1, 1) := by decide +kernel
theorem dX5_ahead_5 : decode cX5_ahead 5 = .ok (.invokevirtual 72, 3) := by decide +kernel
theorem dX5_ahead_8 : decode cX5_ahead 8 = .ok (.ifCond .eq 22, 3) := by decide +kernel
theorem dX5_ahead_11 : decode cX5_ahead 11 = .ok (.iload_n 2, 1) := by decide +kernel
theorem dX5_ahead_12 : decode cX5_ahead 12 = .ok (.iconst 0, 1) := by decide +kernel
theorem dX5_ahead_13 : decode cX5_ahead 13 = .ok (.bipush 60, 2) := by decide +kernel
theorem dX5_ahead_15 : decode cX5_ahead 15 = .ok (.invokestatic 57, 3) := by decide +kernel
theorem dX5_ahead_18 : decode cX5_ahead 18 = .ok (.ifCond .eq 12, 3) := by decide +kernel
theorem dX5_ahead_21 : decode cX5_ahead 21 = .ok (.iload_n 3, 1) := by decide +kernel
theorem dX5_ahead_22 : decode cX5_ahead 22 = .ok (.iconst 0, 1) := by decide +kernel
theorem dX5_ahead_23 : decode cX5_ahead 23 = .ok (.iconst 1, 1) := by decide +kernel
theorem dX5_ahead_24 : decode cX5_ahead 24 = .ok (.invokestatic 57, 3) := by decide +kernel
theorem dX5_ahead_27 : decode cX5_ahead 27 = .ok (.ifCond .ne 5, 3) := by decide +kernel
theorem dX5_ahead_30 : decode cX5_ahead 30 = .ok (.iconst (-1), 1) := by decide +kernel
theorem dX5_ahead_31 : decode cX5_ahead 31 = .ok (.ireturn, 1) := by decide +kernel
theorem dX5_ahead_32 : decode cX5_ahead 32 = .ok (.aload_n 0, 1) := by decide +kernel
theorem dX5_ahead_33 : decode cX5_ahead 33 = .ok (.iload_n 2, 1) := by decide +kernel
theorem dX5_ahead_34 : decode cX5_ahead 34 = .ok (.invokevirtual 174, 3) := by decide +kernel
theorem dX5_ahead_37 : decode cX5_ahead 37 = .ok (.iload_n 3, 1) := by decide +kernel
theorem dX5_ahead_38 : decode cX5_ahead 38 = .ok (.ifCond .ne 15, 3) := by decide +kernel
theorem dX5_ahead_41 : decode cX5_ahead 41 = .ok (.aload_n 0, 1) := by decide +kernel
theorem dX5_ahead_42 : decode cX5_ahead 42 = .ok (.getfield 16, 3) := by decide +kernel
theorem dX5_ahead_45 : decode cX5_ahead 45 = .ok (.getfield 85, 3) := by decide +kernel
theorem dX5_ahead_48 : decode cX5_ahead 48 = .ok (.iload_n 1, 1) := by decide +kernel
theorem dX5_ahead_49 : decode cX5_ahead 49 = .ok (.iaload, 1) := by decide +kernel
theorem dX5_ahead_50 : decode cX5_ahead 50 = .ok (.goto 12, 3) := by decide +kernel
theorem dX5_ahead_53 : decode cX5_ahead 53 = .ok (.aload_n 0, 1) := by decide +kernel
theorem dX5_ahead_54 : decode cX5_ahead 54 = .ok (.getfield 16, 3) := by decide +kernel
theorem dX5_ahead_57 : decode cX5_ahead 57 = .ok (.getfield 92, 3) := by decide +kernel
theorem dX5_ahead_60 : decode cX5_ahead 60 = .ok (.iload_n 1, 1) := by decide +kernel
theorem dX5_ahead_61 : decode cX5_ahead 61 = .ok (.iaload, 1) := by decide +kernel
theorem dX5_ahead_62 : decode cX5_ahead 62 = .ok (.ireturn, 1) := by decide +kernel
theorem dX5_where_0 : decode cX5_where 0 = .ok (.aload_n 0, 1) := by decide +kernel
theorem dX5_where_1 : decode cX5_where 1 = .ok (.getfield 10, 3) := by decide +kernel
theorem dX5_where_4 : decode cX5_where 4 = .ok (.iload_n 1, 1) := by decide +kernel
theorem dX5_where_5 : decode cX5_where 5 = .ok (.invokevirtual 102, 3) := by decide +kernel
theorem dX5_where_8 : decode cX5_where 8 = .ok (.ifCond .eq 13, 3) := by decide +kernel
theorem dX5_where_11 : decode cX5_where 11 = .ok (.iload_n 2, 1) := by decide +kernel
theorem dX5_where_12 : decode cX5_where 12 = .ok (.iconst 0, 1) := by decide +kernel
theorem dX5_where_13 : decode cX5_where 13 = .ok (.bipush 60, 2) := by decide +kernel
theorem dX5_where_15 : decode cX5_where 15 = .ok (.invokestatic 57, 3) := by decide +kernel
theorem dX5_where_18 : decode cX5_where 18 = .ok (.ifCond .ne 5, 3) := by decide +kernel
theorem dX5_where_21 : decode cX5_where 21 = .ok (.iconst (-1), 1) := by decide +kernel
theorem dX5_where_22 : decode cX5_where 22 = .ok (.ireturn, 1) := by decide +kernel
theorem dX5_where_23 : decode cX5_where 23 = .ok (.aload_n 0, 1) := by decide +kernel
theorem dX5_where_24 : decode cX5_where 24 = .ok (.iload_n 2, 1) := by decide +kernel
theorem dX5_where_25 : decode cX5_where 25 = .ok (.invokevirtual 174, 3) := by decide +kernel
theorem dX5_where_28 : decode cX5_where 28 = .ok (.aload_n 0, 1) := by decide +kernel
theorem dX5_where_29 : decode cX5_where 29 = .ok (.getfield 16, 3) := by decide +kernel
theorem dX5_where_32 : decode cX5_where 32 = .ok (.getfield 111, 3) := by decide +kernel
theorem dX5_where_35 : decode cX5_where 35 = .ok (.iload_n 1, 1) := by decide +kernel
theorem dX5_where_36 : decode cX5_where 36 = .ok (.iaload, 1) := by decide +kernel
theorem dX5_where_37 : decode cX5_where 37 = .ok (.ireturn, 1) := by decide +kernel
theorem dX5_then_0 : decode cX5_then 0 = .ok (.iload_n 1, 1) := by decide +kernel
theorem dX5_then_1 : decode cX5_then 1 = .ok (.iconst 0, 1) := by decide +kernel
theorem dX5_then_2 : decode cX5_then 2 = .ok (.bipush 60, 2) := by decide +kernel
theorem dX5_then_4 : decode cX5_then 4 = .ok (.invokestatic 57, 3) := by decide +kernel
theorem dX5_then_7 : decode cX5_then 7 = .ok (.ifCond .eq 12, 3) := by decide +kernel
theorem dX5_then_10 : decode cX5_then 10 = .ok (.iload_n 2, 1) := by decide +kernel
theorem dX5_then_11 : decode cX5_then 11 = .ok (.iconst 0, 1) := by decide +kernel
theorem dX5_then_12 : decode cX5_then 12 = .ok (.iconst 1, 1) := by decide +kernel
theorem dX5_then_13 : decode cX5_then 13 = .ok (.invokestatic 57, 3) := by decide +kernel
theorem dX5_then_16 : decode cX5_then 16 = .ok (.ifCond .ne 5, 3) := by decide +kernel
theorem dX5_then_19 : decode cX5_then 19 = .ok (.iconst (-1), 1) := by decide +kernel
theorem dX5_then_20 : decode cX5_then 20 = .ok (.ireturn, 1) := by decide +kernel
theorem dX5_then_21 : decode cX5_then 21 = .ok (.aload_n 0, 1) := by decide +kernel
theorem dX5_then_22 : decode cX5_then 22 = .ok (.iload_n 1, 1) := by decide +kernel
theorem dX5_then_23 : decode cX5_then 23 = .ok (.invokevirtual 174, 3) := by decide +kernel
theorem dX5_then_26 : decode cX5_then 26 = .ok (.iload_n 2, 1) := by decide +kernel
theorem dX5_then_27 : decode cX5_then 27 = .ok (.ifCond .ne 13, 3) := by decide +kernel
theorem dX5_then_30 : decode cX5_then 30 = .ok (.aload_n 0, 1) := by decide +kernel
theorem dX5_then_31 : decode cX5_then 31 = .ok (.getfield 16, 3) := by decide +kernel
theorem dX5_then_34 : decode cX5_then 34 = .ok (.invokevirtual 146, 3) := by decide +kernel
theorem dX5_then_37 : decode cX5_then 37 = .ok (.goto 10, 3) := by decide +kernel
theorem dX5_then_40 : decode cX5_then 40 = .ok (.aload_n 0, 1) := by decide +kernel
theorem dX5_then_41 : decode cX5_then 41 = .ok (.getfield 16, 3) := by decide +kernel
theorem dX5_then_44 : decode cX5_then 44 = .ok (.getfield 143, 3) := by decide +kernel
theorem dX5_then_47 : decode cX5_then 47 = .ok (.ireturn, 1) := by decide +kernel
theorem dX5_lost_0 : decode cX5_lost 0 = .ok (.aload_n 0, 1) := by decide +kernel
theorem dX5_lost_1 : decode cX5_lost 1 = .ok (.getfield 10, 3) := by decide +kernel
theorem dX5_lost_4 : decode cX5_lost 4 = .ok (.iload_n 1, 1) := by decide +kernel
theorem dX5_lost_5 : decode cX5_lost 5 = .ok (.invokevirtual 72, 3) := by decide +kernel
theorem dX5_lost_8 : decode cX5_lost 8 = .ok (.ifCond .ne 5, 3) := by decide +kernel
theorem dX5_lost_11 : decode cX5_lost 11 = .ok (.iconst (-1), 1) := by decide +kernel
theorem dX5_lost_12 : decode cX5_lost 12 = .ok (.ireturn, 1) := by decide +kernel
theorem dX5_lost_13 : decode cX5_lost 13 = .ok (.aload_n 0, 1) := by decide +kernel
theorem dX5_lost_14 : decode cX5_lost 14 = .ok (.getfield 16, 3) := by decide +kernel
theorem dX5_lost_17 : decode cX5_lost 17 = .ok (.aload_n 0, 1) := by decide +kernel
theorem dX5_lost_18 : decode cX5_lost 18 = .ok (.getfield 10, 3) := by decide +kernel
theorem dX5_lost_21 : decode cX5_lost 21 = .ok (.invokevirtual 136, 3) := by decide +kernel
theorem dX5_lost_24 : decode cX5_lost 24 = .ok (.iconst 0, 1) := by decide +kernel
theorem dX5_lost_25 : decode cX5_lost 25 = .ok (.istore_n 2, 1) := by decide +kernel
theorem dX5_lost_26 : decode cX5_lost 26 = .ok (.iload_n 2, 1) := by decide +kernel
theorem dX5_lost_27 : decode cX5_lost 27 = .ok (.bipush 60, 2) := by decide +kernel
theorem dX5_lost_29 : decode cX5_lost 29 = .ok (.if_icmp .gt 30, 3) := by decide +kernel
theorem dX5_lost_32 : decode cX5_lost 32 = .ok (.aload_n 0, 1) := by decide +kernel
theorem dX5_lost_33 : decode cX5_lost 33 = .ok (.getfield 16, 3) := by decide +kernel
theorem dX5_lost_36 : decode cX5_lost 36 = .ok (.iload_n 1, 1) := by decide +kernel
theorem dX5_lost_37 : decode cX5_lost 37 = .ok (.invokevirtual 95, 3) := by decide +kernel
theorem dX5_lost_40 : decode cX5_lost 40 = .ok (.ifCond .eq 5, 3) := by decide +kernel
theorem dX5_lost_43 : decode cX5_lost 43 = .ok (.iload_n 2, 1) := by decide +kernel
theorem dX5_lost_44 : decode cX5_lost 44 = .ok (.ireturn, 1) := by decide +kernel
theorem dX5_lost_45 : decode cX5_lost 45 = .ok (.aload_n 0, 1) := by decide +kernel
theorem dX5_lost_46 : decode cX5_lost 46 = .ok (.getfield 16, 3) := by decide +kernel
theorem dX5_lost_49 : decode cX5_lost 49 = .ok (.iconst 0, 1) := by decide +kernel
theorem dX5_lost_50 : decode cX5_lost 50 = .ok (.invokevirtual 160, 3) := by decide +kernel
theorem dX5_lost_53 : decode cX5_lost 53 = .ok (.iinc 2 1, 3) := by decide +kernel
theorem dX5_lost_56 : decode cX5_lost 56 = .ok (.goto (-30), 3) := by decide +kernel
theorem dX5_lost_59 : decode cX5_lost 59 = .ok (.bipush (-4), 2) := by decide +kernel
theorem dX5_lost_61 : decode cX5_lost 61 = .ok (.ireturn, 1) := by decide +kernel
theorem dX5_free_0 : decode cX5_free 0 = .ok (.aload_n 0, 1) := by decide +kernel
theorem dX5_free_1 : decode cX5_free 1 = .ok (.getfield 10, 3) := by decide +kernel
theorem dX5_free_4 : decode cX5_free 4 = .ok (.iload_n 1, 1) := by decide +kernel
theorem dX5_free_5 : decode cX5_free 5 = .ok (.invokevirtual 72, 3) := by decide +kernel
theorem dX5_free_8 : decode cX5_free 8 = .ok (.ifCond .ne 5, 3) := by decide +kernel
theorem dX5_free_11 : decode cX5_free 11 = .ok (.iconst (-1), 1) := by decide +kernel
theorem dX5_free_12 : decode cX5_free 12 = .ok (.ireturn, 1) := by decide +kernel
theorem dX5_free_13 : decode cX5_free 13 = .ok (.aload_n 0, 1) := by decide +kernel
theorem dX5_free_14 : decode cX5_free 14 = .ok (.getfield 16, 3) := by decide +kernel
theorem dX5_free_17 : decode cX5_free 17 = .ok (.aload_n 0, 1) := by decide +kernel
theorem dX5_free_18 : decode cX5_free 18 = .ok (.getfield 10, 3) := by decide +kernel
theorem dX5_free_21 : decode cX5_free 21 = .ok (.invokevirtual 136, 3) := by decide +kernel
theorem dX5_free_24 : decode cX5_free 24 = .ok (.iconst 0, 1) := by decide +kernel
theorem dX5_free_25 : decode cX5_free 25 = .ok (.istore_n 2, 1) := by decide +kernel
theorem dX5_free_26 : decode cX5_free 26 = .ok (.iload_n 2, 1) := by decide +kernel
theorem dX5_free_27 : decode cX5_free 27 = .ok (.bipush 60, 2) := by decide +kernel
theorem dX5_free_29 : decode cX5_free 29 = .ok (.if_icmp .gt 31, 3) := by decide +kernel
theorem dX5_free_32 : decode cX5_free 32 = .ok (.aload_n 0, 1) := by decide +kernel
theorem dX5_free_33 : decode cX5_free 33 = .ok (.getfield 16, 3) := by decide +kernel
theorem dX5_free_36 : decode cX5_free 36 = .ok (.getfield 85, 3) := by decide +kernel
theorem dX5_free_39 : decode cX5_free 39 = .ok (.iload_n 1, 1) := by decide +kernel
theorem dX5_free_40 : decode cX5_free 40 = .ok (.iaload, 1) := by decide +kernel
theorem dX5_free_41 : decode cX5_free 41 = .ok (.ifCond .ne 5, 3) := by decide +kernel
theorem dX5_free_44 : decode cX5_free 44 = .ok (.iload_n 2, 1) := by decide +kernel
theorem dX5_free_45 : decode cX5_free 45 = .ok (.ireturn, 1) := by decide +kernel
theorem dX5_free_46 : decode cX5_free 46 = .ok (.aload_n 0, 1) := by decide +kernel
theorem dX5_free_47 : decode cX5_free 47 = .ok (.getfield 16, 3) := by decide +kernel
theorem dX5_free_50 : decode cX5_free 50 = .ok (.iconst 0, 1) := by decide +kernel
theorem dX5_free_51 : decode cX5_free 51 = .ok (.invokevirtual 160, 3) := by decide +kernel
theorem dX5_free_54 : decode cX5_free 54 = .ok (.iinc 2 1, 3) := by decide +kernel
theorem dX5_free_57 : decode cX5_free 57 = .ok (.goto (-31), 3) := by decide +kernel
theorem dX5_free_60 : decode cX5_free 60 = .ok (.bipush (-4), 2) := by decide +kernel
theorem dX5_free_62 : decode cX5_free 62 = .ok (.ireturn, 1) := by decide +kernel
theorem dX5_keep_0 : decode cX5_keep 0 = .ok (.aload_n 0, 1) := by decide +kernel
theorem dX5_keep_1 : decode cX5_keep 1 = .ok (.getfield 10, 3) := by decide +kernel
theorem dX5_keep_4 : decode cX5_keep 4 = .ok (.iload_n 1, 1) := by decide +kernel
theorem dX5_keep_5 : decode cX5_keep 5 = .ok (.invokevirtual 72, 3) := by decide +kernel
theorem dX5_keep_8 : decode cX5_keep 8 = .ok (.ifCond .eq 13, 3) := by decide +kernel
theorem dX5_keep_11 : decode cX5_keep 11 = .ok (.iload_n 2, 1) := by decide +kernel
theorem dX5_keep_12 : decode cX5_keep 12 = .ok (.iconst 1, 1) := by decide +kernel
theorem dX5_keep_13 : decode cX5_keep 13 = .ok (.bipush 40, 2) := by decide +kernel
theorem dX5_keep_15 : decode cX5_keep 15 = .ok (.invokestatic 57, 3) := by decide +kernel
theorem dX5_keep_18 : decode cX5_keep 18 = .ok (.ifCond .ne 5, 3) := by decide +kernel
theorem dX5_keep_21 : decode cX5_keep 21 = .ok (.iconst (-1), 1) := by decide +kernel
theorem dX5_keep_22 : decode cX5_keep 22 = .ok (.ireturn, 1) := by decide +kernel
theorem dX5_keep_23 : decode cX5_keep 23 = .ok (.iconst 0, 1) := by decide +kernel
theorem dX5_keep_24 : decode cX5_keep 24 = .ok (.istore_n 3, 1) := by decide +kernel
theorem dX5_keep_25 : decode cX5_keep 25 = .ok (.iload_n 3, 1) := by decide +kernel
theorem dX5_keep_26 : decode cX5_keep 26 = .ok (.bipush 20, 2) := by decide +kernel
theorem dX5_keep_28 : decode cX5_keep 28 = .ok (.if_icmp .gt 51, 3) := by decide +kernel
theorem dX5_keep_31 : decode cX5_keep 31 = .ok (.aload_n 0, 1) := by decide +kernel
theorem dX5_keep_32 : decode cX5_keep 32 = .ok (.getfield 16, 3) := by decide +kernel
theorem dX5_keep_35 : decode cX5_keep 35 = .ok (.aload_n 0, 1) := by decide +kernel
theorem dX5_keep_36 : decode cX5_keep 36 = .ok (.getfield 10, 3) := by decide +kernel
theorem dX5_keep_39 : decode cX5_keep 39 = .ok (.invokevirtual 136, 3) := by decide +kernel
theorem dX5_keep_42 : decode cX5_keep 42 = .ok (.aload_n 0, 1) := by decide +kernel
theorem dX5_keep_43 : decode cX5_keep 43 = .ok (.getfield 16, 3) := by decide +kernel
theorem dX5_keep_46 : decode cX5_keep 46 = .ok (.getfield 89, 3) := by decide +kernel
theorem dX5_keep_49 : decode cX5_keep 49 = .ok (.iload_n 1, 1) := by decide +kernel
theorem dX5_keep_50 : decode cX5_keep 50 = .ok (.iload_n 3, 1) := by decide +kernel
theorem dX5_keep_51 : decode cX5_keep 51 = .ok (.iastore, 1) := by decide +kernel
theorem dX5_keep_52 : decode cX5_keep 52 = .ok (.aload_n 0, 1) := by decide +kernel
theorem dX5_keep_53 : decode cX5_keep 53 = .ok (.getfield 16, 3) := by decide +kernel
theorem dX5_keep_56 : decode cX5_keep 56 = .ok (.iload_n 2, 1) := by decide +kernel
theorem dX5_keep_57 : decode cX5_keep 57 = .ok (.invokevirtual 177, 3) := by decide +kernel
theorem dX5_keep_60 : decode cX5_keep 60 = .ok (.aload_n 0, 1) := by decide +kernel
theorem dX5_keep_61 : decode cX5_keep 61 = .ok (.getfield 16, 3) := by decide +kernel
theorem dX5_keep_64 : decode cX5_keep 64 = .ok (.iload_n 1, 1) := by decide +kernel
theorem dX5_keep_65 : decode cX5_keep 65 = .ok (.invokevirtual 95, 3) := by decide +kernel
theorem dX5_keep_68 : decode cX5_keep 68 = .ok (.ifCond .ne 5, 3) := by decide +kernel
theorem dX5_keep_71 : decode cX5_keep 71 = .ok (.iload_n 3, 1) := by decide +kernel
theorem dX5_keep_72 : decode cX5_keep 72 = .ok (.ireturn, 1) := by decide +kernel
theorem dX5_keep_73 : decode cX5_keep 73 = .ok (.iinc 3 1, 3) := by decide +kernel
theorem dX5_keep_76 : decode cX5_keep 76 = .ok (.goto (-51), 3) := by decide +kernel
theorem dX5_keep_79 : decode cX5_keep 79 = .ok (.bipush (-4), 2) := by decide +kernel
theorem dX5_keep_81 : decode cX5_keep 81 = .ok (.ireturn, 1) := by decide +kernel
theorem dX5_part_0 : decode cX5_part 0 = .ok (.iload_n 1, 1) := by decide +kernel
theorem dX5_part_1 : decode cX5_part 1 = .ok (.iconst 0, 1) := by decide +kernel
theorem dX5_part_2 : decode cX5_part 2 = .ok (.bipush 12, 2) := by decide +kernel
theorem dX5_part_4 : decode cX5_part 4 = .ok (.invokestatic 57, 3) := by decide +kernel
theorem dX5_part_7 : decode cX5_part 7 = .ok (.ifCond .eq 19, 3) := by decide +kernel
theorem dX5_part_10 : decode cX5_part 10 = .ok (.iload_n 2, 1) := by decide +kernel
theorem dX5_part_11 : decode cX5_part 11 = .ok (.iconst 1, 1) := by decide +kernel
theorem dX5_part_12 : decode cX5_part 12 = .ok (.bipush 30, 2) := by decide +kernel
theorem dX5_part_14 : decode cX5_part 14 = .ok (.invokestatic 57, 3) := by decide +kernel
theorem dX5_part_17 : decode cX5_part 17 = .ok (.ifCond .eq 9, 3) := by decide +kernel
theorem dX5_part_20 : decode cX5_part 20 = .ok (.iload_n 3, 1) := by decide +kernel
theorem dX5_part_21 : decode cX5_part 21 = .ok (.bipush (-2), 2) := by decide +kernel
theorem dX5_part_23 : decode cX5_part 23 = .ok (.if_icmp .ge 5, 3) := by decide +kernel
theorem dX5_part_26 : decode cX5_part 26 = .ok (.iconst (-1), 1) := by decide +kernel
theorem dX5_part_27 : decode cX5_part 27 = .ok (.ireturn, 1) := by decide +kernel
theorem dX5_part_28 : decode cX5_part 28 = .ok (.iload_n 3, 1) := by decide +kernel
theorem dX5_part_29 : decode cX5_part 29 = .ok (.aload_n 0, 1) := by decide +kernel
theorem dX5_part_30 : decode cX5_part 30 = .ok (.getfield 10, 3) := by decide +kernel
theorem dX5_part_33 : decode cX5_part 33 = .ok (.getfield 61, 3) := by decide +kernel
theorem dX5_part_36 : decode cX5_part 36 = .ok (.if_icmp .ge 13, 3) := by decide +kernel
theorem dX5_part_39 : decode cX5_part 39 = .ok (.aload_n 0, 1) := by decide +kernel
theorem dX5_part_40 : decode cX5_part 40 = .ok (.getfield 10, 3) := by decide +kernel
theorem dX5_part_43 : decode cX5_part 43 = .ok (.getfield 61, 3) := by decide +kernel
theorem dX5_part_46 : decode cX5_part 46 = .ok (.ifCond .ne 6, 3) := by decide +kernel
theorem dX5_part_49 : decode cX5_part 49 = .ok (.bipush (-4), 2) := by decide +kernel
theorem dX5_part_51 : decode cX5_part 51 = .ok (.ireturn, 1) := by decide +kernel
theorem dX5_part_52 : decode cX5_part 52 = .ok (.aload_n 0, 1) := by decide +kernel
theorem dX5_part_53 : decode cX5_part 53 = .ok (.getfield 29, 3) := by decide +kernel
theorem dX5_part_56 : decode cX5_part 56 = .ok (.aload_n 0, 1) := by decide +kernel
theorem dX5_part_57 : decode cX5_part 57 = .ok (.getfield 10, 3) := by decide +kernel
theorem dX5_part_60 : decode cX5_part 60 = .ok (.aload_n 0, 1) := by decide +kernel
theorem dX5_part_61 : decode cX5_part 61 = .ok (.getfield 16, 3) := by decide +kernel
theorem dX5_part_64 : decode cX5_part 64 = .ok (.iload_n 1, 1) := by decide +kernel
theorem dX5_part_65 : decode cX5_part 65 = .ok (.iload_n 2, 1) := by decide +kernel
theorem dX5_part_66 : decode cX5_part 66 = .ok (.invokevirtual 180, 3) := by decide +kernel
theorem dX5_part_69 : decode cX5_part 69 = .ok (.iload_n 3, 1) := by decide +kernel
theorem dX5_part_70 : decode cX5_part 70 = .ok (.iconst (-1), 1) := by decide +kernel
theorem dX5_part_71 : decode cX5_part 71 = .ok (.if_icmp .ne 11, 3) := by decide +kernel
theorem dX5_part_74 : decode cX5_part 74 = .ok (.aload_n 0, 1) := by decide +kernel
theorem dX5_part_75 : decode cX5_part 75 = .ok (.getfield 29, 3) := by decide +kernel
theorem dX5_part_78 : decode cX5_part 78 = .ok (.getfield 184, 3) := by decide +kernel
theorem dX5_part_81 : decode cX5_part 81 = .ok (.ireturn, 1) := by decide +kernel
theorem dX5_part_82 : decode cX5_part 82 = .ok (.iload_n 3, 1) := by decide +kernel
theorem dX5_part_83 : decode cX5_part 83 = .ok (.bipush (-2), 2) := by decide +kernel
theorem dX5_part_85 : decode cX5_part 85 = .ok (.if_icmp .ne 13, 3) := by decide +kernel
theorem dX5_part_88 : decode cX5_part 88 = .ok (.aload_n 0, 1) := by decide +kernel
theorem dX5_part_89 : decode cX5_part 89 = .ok (.getfield 29, 3) := by decide +kernel
theorem dX5_part_92 : decode cX5_part 92 = .ok (.getfield 187, 3) := by decide +kernel
theorem dX5_part_95 : decode cX5_part 95 = .ok (.goto 12, 3) := by decide +kernel
theorem dX5_part_98 : decode cX5_part 98 = .ok (.aload_n 0, 1) := by decide +kernel
theorem dX5_part_99 : decode cX5_part 99 = .ok (.getfield 29, 3) := by decide +kernel
theorem dX5_part_102 : decode cX5_part 102 = .ok (.getfield 190, 3) := by decide +kernel
theorem dX5_part_105 : decode cX5_part 105 = .ok (.iload_n 3, 1) := by decide +kernel
theorem dX5_part_106 : decode cX5_part 106 = .ok (.iaload, 1) := by decide +kernel
theorem dX5_part_107 : decode cX5_part 107 = .ok (.ireturn, 1) := by decide +kernel
theorem dX5_drives_0 : decode cX5_drives 0 = .ok (.aload_n 0, 1) := by decide +kernel
theorem dX5_drives_1 : decode cX5_drives 1 = .ok (.getfield 10, 3) := by decide +kernel
theorem dX5_drives_4 : decode cX5_drives 4 = .ok (.iload_n 1, 1) := by decide +kernel
theorem dX5_drives_5 : decode cX5_drives 5 = .ok (.invokevirtual 72, 3) := by decide +kernel
theorem dX5_drives_8 : decode cX5_drives 8 = .ok (.ifCond .eq 22, 3) := by decide +kernel
theorem dX5_drives_11 : decode cX5_drives 11 = .ok (.iload_n 2, 1) := by decide +kernel
theorem dX5_drives_12 : decode cX5_drives 12 = .ok (.iconst 1, 1) := by decide +kernel
theorem dX5_drives_13 : decode cX5_drives 13 = .ok (.bipush 40, 2) := by decide +kernel
theorem dX5_drives_15 : decode cX5_drives 15 = .ok (.invokestatic 57, 3) := by decide +kernel
theorem dX5_drives_18 : decode cX5_drives 18 = .ok (.ifCond .eq 12, 3) := by decide +kernel
theorem dX5_drives_21 : decode cX5_drives 21 = .ok (.iload_n 3, 1) := by decide +kernel
theorem dX5_drives_22 : decode cX5_drives 22 = .ok (.iconst 0, 1) := by decide +kernel
theorem dX5_drives_23 : decode cX5_drives 23 = .ok (.iconst 1, 1) := by decide +kernel
theorem dX5_drives_24 : decode cX5_drives 24 = .ok (.invokestatic 57, 3) := by decide +kernel
theorem dX5_drives_27 : decode cX5_drives 27 = .ok (.ifCond .ne 5, 3) := by decide +kernel
theorem dX5_drives_30 : decode cX5_drives 30 = .ok (.iconst (-1), 1) := by decide +kernel
theorem dX5_drives_31 : decode cX5_drives 31 = .ok (.ireturn, 1) := by decide +kernel
theorem dX5_drives_32 : decode cX5_drives 32 = .ok (.bipush (-4), 2) := by decide +kernel
theorem dX5_drives_34 : decode cX5_drives 34 = .ok (.istore 4, 2) := by decide +kernel
theorem dX5_drives_36 : decode cX5_drives 36 = .ok (.iconst 0, 1) := by decide +kernel
theorem dX5_drives_37 : decode cX5_drives 37 = .ok (.istore 5, 2) := by decide +kernel
theorem dX5_drives_39 : decode cX5_drives 39 = .ok (.iconst 0, 1) := by decide +kernel
theorem dX5_drives_40 : decode cX5_drives 40 = .ok (.istore 6, 2) := by decide +kernel
theorem dX5_drives_42 : decode cX5_drives 42 = .ok (.iconst 0, 1) := by decide +kernel
theorem dX5_drives_43 : decode cX5_drives 43 = .ok (.istore 7, 2) := by decide +kernel
theorem dX5_drives_45 : decode cX5_drives 45 = .ok (.iload 7, 2) := by decide +kernel
theorem dX5_drives_47 : decode cX5_drives 47 = .ok (.aload_n 0, 1) := by decide +kernel
theorem dX5_drives_48 : decode cX5_drives 48 = .ok (.getfield 10, 3) := by decide +kernel
theorem dX5_drives_51 : decode cX5_drives 51 = .ok (.getfield 76, 3) := by decide +kernel
theorem dX5_drives_54 : decode cX5_drives 54 = .ok (.if_icmp .ge 125, 3) := by decide +kernel
theorem dX5_drives_57 : decode cX5_drives 57 = .ok (.iconst 0, 1) := by decide +kernel
theorem dX5_drives_58 : decode cX5_drives 58 = .ok (.istore 8, 2) := by decide +kernel
theorem dX5_drives_60 : decode cX5_drives 60 = .ok (.iload 8, 2) := by decide +kernel
theorem dX5_drives_62 : decode cX5_drives 62 = .ok (.aload_n 0, 1) := by decide +kernel
theorem dX5_drives_63 : decode cX5_drives 63 = .ok (.getfield 10, 3) := by decide +kernel
theorem dX5_drives_66 : decode cX5_drives 66 = .ok (.getfield 61, 3) := by decide +kernel
theorem dX5_drives_69 : decode cX5_drives 69 = .ok (.if_icmp .ge 104, 3) := by decide +kernel
theorem dX5_drives_72 : decode cX5_drives 72 = .ok (.aload_n 0, 1) := by decide +kernel
theorem dX5_drives_73 : decode cX5_drives 73 = .ok (.getfield 10, 3) := by decide +kernel
theorem dX5_drives_76 : decode cX5_drives 76 = .ok (.getfield 111, 3) := by decide +kernel
theorem dX5_drives_79 : decode cX5_drives 79 = .ok (.iload 7, 2) := by decide +kernel
theorem dX5_drives_81 : decode cX5_drives 81 = .ok (.iaload, 1) := by decide +kernel
theorem dX5_drives_82 : decode cX5_drives 82 = .ok (.iload 8, 2) := by decide +kernel
theorem dX5_drives_84 : decode cX5_drives 84 = .ok (.if_icmp .ne 6, 3) := by decide +kernel
theorem dX5_drives_87 : decode cX5_drives 87 = .ok (.goto 80, 3) := by decide +kernel
theorem dX5_drives_90 : decode cX5_drives 90 = .ok (.aload_n 0, 1) := by decide +kernel
theorem dX5_drives_91 : decode cX5_drives 91 = .ok (.iload 7, 2) := by decide +kernel
theorem dX5_drives_93 : decode cX5_drives 93 = .ok (.iload 8, 2) := by decide +kernel
theorem dX5_drives_95 : decode cX5_drives 95 = .ok (.iload_n 2, 1) := by decide +kernel
theorem dX5_drives_96 : decode cX5_drives 96 = .ok (.invokevirtual 193, 3) := by decide +kernel
theorem dX5_drives_99 : decode cX5_drives 99 = .ok (.aload_n 0, 1) := by decide +kernel
theorem dX5_drives_100 : decode cX5_drives 100 = .ok (.getfield 16, 3) := by decide +kernel
theorem dX5_drives_103 : decode cX5_drives 103 = .ok (.getfield 92, 3) := by decide +kernel
theorem dX5_drives_106 : decode cX5_drives 106 = .ok (.iload_n 1, 1) := by decide +kernel
theorem dX5_drives_107 : decode cX5_drives 107 = .ok (.iaload, 1) := by decide +kernel
theorem dX5_drives_108 : decode cX5_drives 108 = .ok (.istore 9, 2) := by decide +kernel
theorem dX5_drives_110 : decode cX5_drives 110 = .ok (.aload_n 0, 1) := by decide +kernel
theorem dX5_drives_111 : decode cX5_drives 111 = .ok (.getfield 16, 3) := by decide +kernel
theorem dX5_drives_114 : decode cX5_drives 114 = .ok (.getfield 85, 3) := by decide +kernel
theorem dX5_drives_117 : decode cX5_drives 117 = .ok (.iload_n 1, 1) := by decide +kernel
theorem dX5_drives_118 : decode cX5_drives 118 = .ok (.iaload, 1) := by decide +kernel
theorem dX5_drives_119 : decode cX5_drives 119 = .ok (.istore 10, 2) := by decide +kernel
theorem dX5_drives_121 : decode cX5_drives 121 = .ok (.iload 4, 2) := by decide +kernel
theorem dX5_drives_123 : decode cX5_drives 123 = .ok (.bipush (-4), 2) := by decide +kernel
theorem dX5_drives_125 : decode cX5_drives 125 = .ok (.if_icmp .eq 24, 3) := by decide +kernel
theorem dX5_drives_128 : decode cX5_drives 128 = .ok (.iload 9, 2) := by decide +kernel
theorem dX5_drives_130 : decode cX5_drives 130 = .ok (.iload 5, 2) := by decide +kernel
theorem dX5_drives_132 : decode cX5_drives 132 = .ok (.if_icmp .lt 17, 3) := by decide +kernel
theorem dX5_drives_135 : decode cX5_drives 135 = .ok (.iload 9, 2) := by decide +kernel
theorem dX5_drives_137 : decode cX5_drives 137 = .ok (.iload 5, 2) := by decide +kernel
theorem dX5_drives_139 : decode cX5_drives 139 = .ok (.if_icmp .ne 28, 3) := by decide +kernel
theorem dX5_drives_142 : decode cX5_drives 142 = .ok (.iload 10, 2) := by decide +kernel
theorem dX5_drives_144 : decode cX5_drives 144 = .ok (.iload 6, 2) := by decide +kernel
theorem dX5_drives_146 : decode cX5_drives 146 = .ok (.if_icmp .ge 21, 3) := by decide +kernel
theorem dX5_drives_149 : decode cX5_drives 149 = .ok (.bipush 10, 2) := by decide +kernel
theorem dX5_drives_151 : decode cX5_drives 151 = .ok (.iload 7, 2) := by decide +kernel
theorem dX5_drives_153 : decode cX5_drives 153 = .ok (.imul, 1) := by decide +kernel
theorem dX5_drives_154 : decode cX5_drives 154 = .ok (.iload 8, 2) := by decide +kernel
theorem dX5_drives_156 : decode cX5_drives 156 = .ok (.iadd, 1) := by decide +kernel
theorem dX5_drives_157 : decode cX5_drives 157 = .ok (.istore 4, 2) := by decide +kernel
theorem dX5_drives_159 : decode cX5_drives 159 = .ok (.iload 9, 2) := by decide +kernel
theorem dX5_drives_161 : decode cX5_drives 161 = .ok (.istore 5, 2) := by decide +kernel
theorem dX5_drives_163 : decode cX5_drives 163 = .ok (.iload 10, 2) := by decide +kernel
theorem dX5_drives_165 : decode cX5_drives 165 = .ok (.istore 6, 2) := by decide +kernel
theorem dX5_drives_167 : decode cX5_drives 167 = .ok (.iinc 8 1, 3) := by decide +kernel
theorem dX5_drives_170 : decode cX5_drives 170 = .ok (.goto (-110), 3) := by decide +kernel
theorem dX5_drives_173 : decode cX5_drives 173 = .ok (.iinc 7 1, 3) := by decide +kernel
theorem dX5_drives_176 : decode cX5_drives 176 = .ok (.goto (-131), 3) := by decide +kernel
theorem dX5_drives_179 : decode cX5_drives 179 = .ok (.iload_n 3, 1) := by decide +kernel
theorem dX5_drives_180 : decode cX5_drives 180 = .ok (.ifCond .eq 10, 3) := by decide +kernel
theorem dX5_drives_183 : decode cX5_drives 183 = .ok (.iload 4, 2) := by decide +kernel
theorem dX5_drives_185 : decode cX5_drives 185 = .ok (.bipush (-4), 2) := by decide +kernel
theorem dX5_drives_187 : decode cX5_drives 187 = .ok (.if_icmp .ne 8, 3) := by decide +kernel
theorem dX5_drives_190 : decode cX5_drives 190 = .ok (.iload 4, 2) := by decide +kernel
theorem dX5_drives_192 : decode cX5_drives 192 = .ok (.goto 5, 3) := by decide +kernel
theorem dX5_drives_195 : decode cX5_drives 195 = .ok (.iload 5, 2) := by decide +kernel
theorem dX5_drives_197 : decode cX5_drives 197 = .ok (.ireturn, 1) := by decide +kernel
theorem dX5_visits_0 : decode cX5_visits 0 = .ok (.iload_n 1, 1) := by decide +kernel
theorem dX5_visits_1 : decode cX5_visits 1 = .ok (.iconst 1, 1) := by decide +kernel
theorem dX5_visits_2 : decode cX5_visits 2 = .ok (.bipush 40, 2) := by decide +kernel
theorem dX5_visits_4 : decode cX5_visits 4 = .ok (.invokestatic 57, 3) := by decide +kernel
theorem dX5_visits_7 : decode cX5_visits 7 = .ok (.ifCond .eq 12, 3) := by decide +kernel
theorem dX5_visits_10 : decode cX5_visits 10 = .ok (.iload_n 2, 1) := by decide +kernel
theorem dX5_visits_11 : decode cX5_visits 11 = .ok (.iconst 0, 1) := by decide +kernel
theorem dX5_visits_12 : decode cX5_visits 12 = .ok (.iconst 1, 1) := by decide +kernel
theorem dX5_visits_13 : decode cX5_visits 13 = .ok (.invokestatic 57, 3) := by decide +kernel
theorem dX5_visits_16 : decode cX5_visits 16 = .ok (.ifCond .ne 5, 3) := by decide +kernel
theorem dX5_visits_19 : decode cX5_visits 19 = .ok (.iconst (-1), 1) := by decide +kernel
theorem dX5_visits_20 : decode cX5_visits 20 = .ok (.ireturn, 1) := by decide +kernel
theorem dX5_visits_21 : decode cX5_visits 21 = .ok (.aload_n 0, 1) := by decide +kernel
theorem dX5_visits_22 : decode cX5_visits 22 = .ok (.getfield 10, 3) := by decide +kernel
theorem dX5_visits_25 : decode cX5_visits 25 = .ok (.getfield 61, 3) := by decide +kernel
theorem dX5_visits_28 : decode cX5_visits 28 = .ok (.ifCond .ne 6, 3) := by decide +kernel
theorem dX5_visits_31 : decode cX5_visits 31 = .ok (.bipush (-4), 2) := by decide +kernel
theorem dX5_visits_33 : decode cX5_visits 33 = .ok (.ireturn, 1) := by decide +kernel
theorem dX5_visits_34 : decode cX5_visits 34 = .ok (.aload_n 0, 1) := by decide +kernel
theorem dX5_visits_35 : decode cX5_visits 35 = .ok (.iload_n 1, 1) := by decide +kernel
theorem dX5_visits_36 : decode cX5_visits 36 = .ok (.invokevirtual 174, 3) := by decide +kernel
theorem dX5_visits_39 : decode cX5_visits 39 = .ok (.iconst 0, 1) := by decide +kernel
theorem dX5_visits_40 : decode cX5_visits 40 = .ok (.istore_n 3, 1) := by decide +kernel
theorem dX5_visits_41 : decode cX5_visits 41 = .ok (.iconst 1, 1) := by decide +kernel
theorem dX5_visits_42 : decode cX5_visits 42 = .ok (.istore 4, 2) := by decide +kernel
theorem dX5_visits_44 : decode cX5_visits 44 = .ok (.iload 4, 2) := by decide +kernel
theorem dX5_visits_46 : decode cX5_visits 46 = .ok (.aload_n 0, 1) := by decide +kernel
theorem dX5_visits_47 : decode cX5_visits 47 = .ok (.getfield 16, 3) := by decide +kernel
theorem dX5_visits_50 : decode cX5_visits 50 = .ok (.getfield 61, 3) := by decide +kernel
theorem dX5_visits_53 : decode cX5_visits 53 = .ok (.if_icmp .ge 34, 3) := by decide +kernel
theorem dX5_visits_56 : decode cX5_visits 56 = .ok (.aload_n 0, 1) := by decide +kernel
theorem dX5_visits_57 : decode cX5_visits 57 = .ok (.getfield 16, 3) := by decide +kernel
theorem dX5_visits_60 : decode cX5_visits 60 = .ok (.getfield 197, 3) := by decide +kernel
theorem dX5_visits_63 : decode cX5_visits 63 = .ok (.iload 4, 2) := by decide +kernel
theorem dX5_visits_65 : decode cX5_visits 65 = .ok (.iaload, 1) := by decide +kernel
theorem dX5_visits_66 : decode cX5_visits 66 = .ok (.aload_n 0, 1) := by decide +kernel
theorem dX5_visits_67 : decode cX5_visits 67 = .ok (.getfield 16, 3) := by decide +kernel
theorem dX5_visits_70 : decode cX5_visits 70 = .ok (.getfield 197, 3) := by decide +kernel
theorem dX5_visits_73 : decode cX5_visits 73 = .ok (.iload_n 3, 1) := by decide +kernel
theorem dX5_visits_74 : decode cX5_visits 74 = .ok (.iaload, 1) := by decide +kernel
theorem dX5_visits_75 : decode cX5_visits 75 = .ok (.if_icmp .le 6, 3) := by decide +kernel
theorem dX5_visits_78 : decode cX5_visits 78 = .ok (.iload 4, 2) := by decide +kernel
theorem dX5_visits_80 : decode cX5_visits 80 = .ok (.istore_n 3, 1) := by decide +kernel
theorem dX5_visits_81 : decode cX5_visits 81 = .ok (.iinc 4 1, 3) := by decide +kernel
theorem dX5_visits_84 : decode cX5_visits 84 = .ok (.goto (-40), 3) := by decide +kernel
theorem dX5_visits_87 : decode cX5_visits 87 = .ok (.iload_n 2, 1) := by decide +kernel
theorem dX5_visits_88 : decode cX5_visits 88 = .ok (.ifCond .ne 7, 3) := by decide +kernel
theorem dX5_visits_91 : decode cX5_visits 91 = .ok (.iload_n 3, 1) := by decide +kernel
theorem dX5_visits_92 : decode cX5_visits 92 = .ok (.goto 12, 3) := by decide +kernel
theorem dX5_visits_95 : decode cX5_visits 95 = .ok (.aload_n 0, 1) := by decide +kernel
theorem dX5_visits_96 : decode cX5_visits 96 = .ok (.getfield 16, 3) := by decide +kernel
theorem dX5_visits_99 : decode cX5_visits 99 = .ok (.getfield 197, 3) := by decide +kernel
theorem dX5_visits_102 : decode cX5_visits 102 = .ok (.iload_n 3, 1) := by decide +kernel
theorem dX5_visits_103 : decode cX5_visits 103 = .ok (.iaload, 1) := by decide +kernel
theorem dX5_visits_104 : decode cX5_visits 104 = .ok (.ireturn, 1) := by decide +kernel
theorem dX5_solvent_0 : decode cX5_solvent 0 = .ok (.aload_n 0, 1) := by decide +kernel
theorem dX5_solvent_1 : decode cX5_solvent 1 = .ok (.getfield 10, 3) := by decide +kernel
theorem dX5_solvent_4 : decode cX5_solvent 4 = .ok (.iload_n 1, 1) := by decide +kernel
theorem dX5_solvent_5 : decode cX5_solvent 5 = .ok (.invokevirtual 72, 3) := by decide +kernel
theorem dX5_solvent_8 : decode cX5_solvent 8 = .ok (.ifCond .eq 13, 3) := by decide +kernel
theorem dX5_solvent_11 : decode cX5_solvent 11 = .ok (.iload_n 2, 1) := by decide +kernel
theorem dX5_solvent_12 : decode cX5_solvent 12 = .ok (.iconst 1, 1) := by decide +kernel
theorem dX5_solvent_13 : decode cX5_solvent 13 = .ok (.bipush 40, 2) := by decide +kernel
theorem dX5_solvent_15 : decode cX5_solvent 15 = .ok (.invokestatic 57, 3) := by decide +kernel
theorem dX5_solvent_18 : decode cX5_solvent 18 = .ok (.ifCond .ne 5, 3) := by decide +kernel
theorem dX5_solvent_21 : decode cX5_solvent 21 = .ok (.iconst (-1), 1) := by decide +kernel
theorem dX5_solvent_22 : decode cX5_solvent 22 = .ok (.ireturn, 1) := by decide +kernel
theorem dX5_solvent_23 : decode cX5_solvent 23 = .ok (.bipush 20, 2) := by decide +kernel
theorem dX5_solvent_25 : decode cX5_solvent 25 = .ok (.istore_n 3, 1) := by decide +kernel
theorem dX5_solvent_26 : decode cX5_solvent 26 = .ok (.iload_n 3, 1) := by decide +kernel
theorem dX5_solvent_27 : decode cX5_solvent 27 = .ok (.ifCond .lt 59, 3) := by decide +kernel
theorem dX5_solvent_30 : decode cX5_solvent 30 = .ok (.aload_n 0, 1) := by decide +kernel
theorem dX5_solvent_31 : decode cX5_solvent 31 = .ok (.getfield 16, 3) := by decide +kernel
theorem dX5_solvent_34 : decode cX5_solvent 34 = .ok (.aload_n 0, 1) := by decide +kernel
theorem dX5_solvent_35 : decode cX5_solvent 35 = .ok (.getfield 10, 3) := by decide +kernel
theorem dX5_solvent_38 : decode cX5_solvent 38 = .ok (.invokevirtual 136, 3) := by decide +kernel
theorem dX5_solvent_41 : decode cX5_solvent 41 = .ok (.aload_n 0, 1) := by decide +kernel
theorem dX5_solvent_42 : decode cX5_solvent 42 = .ok (.getfield 16, 3) := by decide +kernel
theorem dX5_solvent_45 : decode cX5_solvent 45 = .ok (.iload_n 3, 1) := by decide +kernel
theorem dX5_solvent_46 : decode cX5_solvent 46 = .ok (.putfield 82, 3) := by decide +kernel
theorem dX5_solvent_49 : decode cX5_solvent 49 = .ok (.aload_n 0, 1) := by decide +kernel
theorem dX5_solvent_50 : decode cX5_solvent 50 = .ok (.getfield 16, 3) := by decide +kernel
theorem dX5_solvent_53 : decode cX5_solvent 53 = .ok (.iload_n 2, 1) := by decide +kernel
theorem dX5_solvent_54 : decode cX5_solvent 54 = .ok (.invokevirtual 177, 3) := by decide +kernel
theorem dX5_solvent_57 : decode cX5_solvent 57 = .ok (.aload_n 0, 1) := by decide +kernel
theorem dX5_solvent_58 : decode cX5_solvent 58 = .ok (.getfield 16, 3) := by decide +kernel
theorem dX5_solvent_61 : decode cX5_solvent 61 = .ok (.getfield 85, 3) := by decide +kernel
theorem dX5_solvent_64 : decode cX5_solvent 64 = .ok (.iload_n 1, 1) := by decide +kernel
theorem dX5_solvent_65 : decode cX5_solvent 65 = .ok (.iaload, 1) := by decide +kernel
theorem dX5_solvent_66 : decode cX5_solvent 66 = .ok (.aload_n 0, 1) := by decide +kernel
theorem dX5_solvent_67 : decode cX5_solvent 67 = .ok (.getfield 10, 3) := by decide +kernel
theorem dX5_solvent_70 : decode cX5_solvent 70 = .ok (.getfield 85, 3) := by decide +kernel
theorem dX5_solvent_73 : decode cX5_solvent 73 = .ok (.iload_n 1, 1) := by decide +kernel
theorem dX5_solvent_74 : decode cX5_solvent 74 = .ok (.iaload, 1) := by decide +kernel
theorem dX5_solvent_75 : decode cX5_solvent 75 = .ok (.if_icmp .gt 5, 3) := by decide +kernel
theorem dX5_solvent_78 : decode cX5_solvent 78 = .ok (.iload_n 3, 1) := by decide +kernel
theorem dX5_solvent_79 : decode cX5_solvent 79 = .ok (.ireturn, 1) := by decide +kernel
theorem dX5_solvent_80 : decode cX5_solvent 80 = .ok (.iinc 3 (-1), 3) := by decide +kernel
theorem dX5_solvent_83 : decode cX5_solvent 83 = .ok (.goto (-57), 3) := by decide +kernel
theorem dX5_solvent_86 : decode cX5_solvent 86 = .ok (.bipush (-4), 2) := by decide +kernel
theorem dX5_solvent_88 : decode cX5_solvent 88 = .ok (.ireturn, 1) := by decide +kernel
theorem dX5_sleep_0 : decode cX5_sleep 0 = .ok (.aload_n 0, 1) := by decide +kernel
theorem dX5_sleep_1 : decode cX5_sleep 1 = .ok (.getfield 10, 3) := by decide +kernel
theorem dX5_sleep_4 : decode cX5_sleep 4 = .ok (.iload_n 1, 1) := by decide +kernel
theorem dX5_sleep_5 : decode cX5_sleep 5 = .ok (.invokevirtual 72, 3) := by decide +kernel
theorem dX5_sleep_8 : decode cX5_sleep 8 = .ok (.ifCond .eq 22, 3) := by decide +kernel
theorem dX5_sleep_11 : decode cX5_sleep 11 = .ok (.iload_n 2, 1) := by decide +kernel
theorem dX5_sleep_12 : decode cX5_sleep 12 = .ok (.iconst 0, 1) := by decide +kernel
theorem dX5_sleep_13 : decode cX5_sleep 13 = .ok (.bipush 10, 2) := by decide +kernel
theorem dX5_sleep_15 : decode cX5_sleep 15 = .ok (.invokestatic 57, 3) := by decide +kernel
theorem dX5_sleep_18 : decode cX5_sleep 18 = .ok (.ifCond .eq 12, 3) := by decide +kernel
theorem dX5_sleep_21 : decode cX5_sleep 21 = .ok (.iload_n 3, 1) := by decide +kernel
theorem dX5_sleep_22 : decode cX5_sleep 22 = .ok (.iconst 0, 1) := by decide +kernel
theorem dX5_sleep_23 : decode cX5_sleep 23 = .ok (.iconst 1, 1) := by decide +kernel
theorem dX5_sleep_24 : decode cX5_sleep 24 = .ok (.invokestatic 57, 3) := by decide +kernel
theorem dX5_sleep_27 : decode cX5_sleep 27 = .ok (.ifCond .ne 5, 3) := by decide +kernel
theorem dX5_sleep_30 : decode cX5_sleep 30 = .ok (.iconst (-1), 1) := by decide +kernel
theorem dX5_sleep_31 : decode cX5_sleep 31 = .ok (.ireturn, 1) := by decide +kernel
theorem dX5_sleep_32 : decode cX5_sleep 32 = .ok (.iconst 0, 1) := by decide +kernel
theorem dX5_sleep_33 : decode cX5_sleep 33 = .ok (.istore 4, 2) := by decide +kernel
theorem dX5_sleep_35 : decode cX5_sleep 35 = .ok (.iconst 0, 1) := by decide +kernel
theorem dX5_sleep_36 : decode cX5_sleep 36 = .ok (.istore 5, 2) := by decide +kernel
theorem dX5_sleep_38 : decode cX5_sleep 38 = .ok (.iconst 0, 1) := by decide +kernel
theorem dX5_sleep_39 : decode cX5_sleep 39 = .ok (.istore 6, 2) := by decide +kernel
theorem dX5_sleep_41 : decode cX5_sleep 41 = .ok (.iload 6, 2) := by decide +kernel
theorem dX5_sleep_43 : decode cX5_sleep 43 = .ok (.iconst 1, 1) := by decide +kernel
theorem dX5_sleep_44 : decode cX5_sleep 44 = .ok (.aload_n 0, 1) := by decide +kernel
theorem dX5_sleep_45 : decode cX5_sleep 45 = .ok (.getfield 10, 3) := by decide +kernel
theorem dX5_sleep_48 : decode cX5_sleep 48 = .ok (.getfield 76, 3) := by decide +kernel
theorem dX5_sleep_51 : decode cX5_sleep 51 = .ok (.ishl, 1) := by decide +kernel
theorem dX5_sleep_52 : decode cX5_sleep 52 = .ok (.if_icmp .ge 47, 3) := by decide +kernel
theorem dX5_sleep_55 : decode cX5_sleep 55 = .ok (.aload_n 0, 1) := by decide +kernel
theorem dX5_sleep_56 : decode cX5_sleep 56 = .ok (.iload 6, 2) := by decide +kernel
theorem dX5_sleep_58 : decode cX5_sleep 58 = .ok (.iload_n 2, 1) := by decide +kernel
theorem dX5_sleep_59 : decode cX5_sleep 59 = .ok (.invokevirtual 200, 3) := by decide +kernel
theorem dX5_sleep_62 : decode cX5_sleep 62 = .ok (.istore 7, 2) := by decide +kernel
theorem dX5_sleep_64 : decode cX5_sleep 64 = .ok (.iload 5, 2) := by decide +kernel
theorem dX5_sleep_66 : decode cX5_sleep 66 = .ok (.iload 7, 2) := by decide +kernel
theorem dX5_sleep_68 : decode cX5_sleep 68 = .ok (.iadd, 1) := by decide +kernel
theorem dX5_sleep_69 : decode cX5_sleep 69 = .ok (.istore 5, 2) := by decide +kernel
theorem dX5_sleep_71 : decode cX5_sleep 71 = .ok (.iload 7, 2) := by decide +kernel
theorem dX5_sleep_73 : decode cX5_sleep 73 = .ok (.ifCond .le 20, 3) := by decide +kernel
theorem dX5_sleep_76 : decode cX5_sleep 76 = .ok (.aload_n 0, 1) := by decide +kernel
theorem dX5_sleep_77 : decode cX5_sleep 77 = .ok (.iload_n 1, 1) := by decide +kernel
theorem dX5_sleep_78 : decode cX5_sleep 78 = .ok (.iload 6, 2) := by decide +kernel
theorem dX5_sleep_80 : decode cX5_sleep 80 = .ok (.invokevirtual 204, 3) := by decide +kernel
theorem dX5_sleep_83 : decode cX5_sleep 83 = .ok (.ifCond .eq 10, 3) := by decide +kernel
theorem dX5_sleep_86 : decode cX5_sleep 86 = .ok (.iload 4, 2) := by decide +kernel
theorem dX5_sleep_88 : decode cX5_sleep 88 = .ok (.iload 7, 2) := by decide +kernel
theorem dX5_sleep_90 : decode cX5_sleep 90 = .ok (.iadd, 1) := by decide +kernel
theorem dX5_sleep_91 : decode cX5_sleep 91 = .ok (.istore 4, 2) := by decide +kernel
theorem dX5_sleep_93 : decode cX5_sleep 93 = .ok (.iinc 6 1, 3) := by decide +kernel
theorem dX5_sleep_96 : decode cX5_sleep 96 = .ok (.goto (-55), 3) := by decide +kernel
theorem dX5_sleep_99 : decode cX5_sleep 99 = .ok (.iload 4, 2) := by decide +kernel
theorem dX5_sleep_101 : decode cX5_sleep 101 = .ok (.iload 5, 2) := by decide +kernel
theorem dX5_sleep_103 : decode cX5_sleep 103 = .ok (.invokestatic 208, 3) := by decide +kernel
theorem dX5_sleep_106 : decode cX5_sleep 106 = .ok (.istore 6, 2) := by decide +kernel
theorem dX5_sleep_108 : decode cX5_sleep 108 = .ok (.iload 6, 2) := by decide +kernel
theorem dX5_sleep_110 : decode cX5_sleep 110 = .ok (.iconst 1, 1) := by decide +kernel
theorem dX5_sleep_111 : decode cX5_sleep 111 = .ok (.if_icmp .ge 5, 3) := by decide +kernel
theorem dX5_sleep_114 : decode cX5_sleep 114 = .ok (.iconst (-1), 1) := by decide +kernel
theorem dX5_sleep_115 : decode cX5_sleep 115 = .ok (.ireturn, 1) := by decide +kernel
theorem dX5_sleep_116 : decode cX5_sleep 116 = .ok (.iload_n 3, 1) := by decide +kernel
theorem dX5_sleep_117 : decode cX5_sleep 117 = .ok (.ifCond .ne 8, 3) := by decide +kernel
theorem dX5_sleep_120 : decode cX5_sleep 120 = .ok (.iload 4, 2) := by decide +kernel
theorem dX5_sleep_122 : decode cX5_sleep 122 = .ok (.goto 5, 3) := by decide +kernel
theorem dX5_sleep_125 : decode cX5_sleep 125 = .ok (.iload 5, 2) := by decide +kernel
theorem dX5_sleep_127 : decode cX5_sleep 127 = .ok (.iload 6, 2) := by decide +kernel
theorem dX5_sleep_129 : decode cX5_sleep 129 = .ok (.idiv, 1) := by decide +kernel
theorem dX5_sleep_130 : decode cX5_sleep 130 = .ok (.ireturn, 1) := by decide +kernel
theorem dX5_image_0 : decode cX5_image 0 = .ok (.aload_n 0, 1) := by decide +kernel
theorem dX5_image_1 : decode cX5_image 1 = .ok (.getfield 47, 3) := by decide +kernel
theorem dX5_image_4 : decode cX5_image 4 = .ok (.aload_n 0, 1) := by decide +kernel
theorem dX5_image_5 : decode cX5_image 5 = .ok (.getfield 10, 3) := by decide +kernel
theorem dX5_image_8 : decode cX5_image 8 = .ok (.invokevirtual 136, 3) := by decide +kernel
theorem dX5_image_11 : decode cX5_image 11 = .ok (.aload_n 0, 1) := by decide +kernel
theorem dX5_image_12 : decode cX5_image 12 = .ok (.getfield 50, 3) := by decide +kernel
theorem dX5_image_15 : decode cX5_image 15 = .ok (.aload_n 0, 1) := by decide +kernel
theorem dX5_image_16 : decode cX5_image 16 = .ok (.getfield 22, 3) := by decide +kernel
theorem dX5_image_19 : decode cX5_image 19 = .ok (.invokevirtual 211, 3) := by decide +kernel
theorem dX5_image_22 : decode cX5_image 22 = .ok (.aload_n 0, 1) := by decide +kernel
theorem dX5_image_23 : decode cX5_image 23 = .ok (.iconst 1, 1) := by decide +kernel
theorem dX5_image_24 : decode cX5_image 24 = .ok (.putfield 53, 3) := by decide +kernel
theorem dX5_image_27 : decode cX5_image 27 = .ok (.iconst 1, 1) := by decide +kernel
theorem dX5_image_28 : decode cX5_image 28 = .ok (.ireturn, 1) := by decide +kernel
theorem dX5_restore_0 : decode cX5_restore 0 = .ok (.aload_n 0, 1) := by decide +kernel
theorem dX5_restore_1 : decode cX5_restore 1 = .ok (.getfield 53, 3) := by decide +kernel
theorem dX5_restore_4 : decode cX5_restore 4 = .ok (.ifCond .ne 6, 3) := by decide +kernel
theorem dX5_restore_7 : decode cX5_restore 7 = .ok (.bipush (-4), 2) := by decide +kernel
theorem dX5_restore_9 : decode cX5_restore 9 = .ok (.ireturn, 1) := by decide +kernel
theorem dX5_restore_10 : decode cX5_restore 10 = .ok (.aload_n 0, 1) := by decide +kernel
theorem dX5_restore_11 : decode cX5_restore 11 = .ok (.getfield 10, 3) := by decide +kernel
theorem dX5_restore_14 : decode cX5_restore 14 = .ok (.aload_n 0, 1) := by decide +kernel
theorem dX5_restore_15 : decode cX5_restore 15 = .ok (.getfield 47, 3) := by decide +kernel
theorem dX5_restore_18 : decode cX5_restore 18 = .ok (.invokevirtual 136, 3) := by decide +kernel
theorem dX5_restore_21 : decode cX5_restore 21 = .ok (.aload_n 0, 1) := by decide +kernel
theorem dX5_restore_22 : decode cX5_restore 22 = .ok (.getfield 22, 3) := by decide +kernel
theorem dX5_restore_25 : decode cX5_restore 25 = .ok (.aload_n 0, 1) := by decide +kernel
theorem dX5_restore_26 : decode cX5_restore 26 = .ok (.getfield 50, 3) := by decide +kernel
theorem dX5_restore_29 : decode cX5_restore 29 = .ok (.invokevirtual 211, 3) := by decide +kernel
theorem dX5_restore_32 : decode cX5_restore 32 = .ok (.iconst 1, 1) := by decide +kernel
theorem dX5_restore_33 : decode cX5_restore 33 = .ok (.ireturn, 1) := by decide +kernel
theorem dX5_dawns_0 : decode cX5_dawns 0 = .ok (.aload_n 0, 1) := by decide +kernel
theorem dX5_dawns_1 : decode cX5_dawns 1 = .ok (.getfield 10, 3) := by decide +kernel
theorem dX5_dawns_4 : decode cX5_dawns 4 = .ok (.iload_n 1, 1) := by decide +kernel
theorem dX5_dawns_5 : decode cX5_dawns 5 = .ok (.invokevirtual 102, 3) := by decide +kernel
theorem dX5_dawns_8 : decode cX5_dawns 8 = .ok (.ifCond .eq 54, 3) := by decide +kernel
theorem dX5_dawns_11 : decode cX5_dawns 11 = .ok (.aload_n 0, 1) := by decide +kernel
theorem dX5_dawns_12 : decode cX5_dawns 12 = .ok (.getfield 10, 3) := by decide +kernel
theorem dX5_dawns_15 : decode cX5_dawns 15 = .ok (.iload_n 2, 1) := by decide +kernel
theorem dX5_dawns_16 : decode cX5_dawns 16 = .ok (.invokevirtual 72, 3) := by decide +kernel
theorem dX5_dawns_19 : decode cX5_dawns 19 = .ok (.ifCond .eq 43, 3) := by decide +kernel
theorem dX5_dawns_22 : decode cX5_dawns 22 = .ok (.iload_n 3, 1) := by decide +kernel
theorem dX5_dawns_23 : decode cX5_dawns 23 = .ok (.iconst 0, 1) := by decide +kernel
theorem dX5_dawns_24 : decode cX5_dawns 24 = .ok (.iconst 3, 1) := by decide +kernel
theorem dX5_dawns_25 : decode cX5_dawns 25 = .ok (.invokestatic 57, 3) := by decide +kernel
theorem dX5_dawns_28 : decode cX5_dawns 28 = .ok (.ifCond .eq 34, 3) := by decide +kernel
theorem dX5_dawns_31 : decode cX5_dawns 31 = .ok (.iload 4, 2) := by decide +kernel
theorem dX5_dawns_33 : decode cX5_dawns 33 = .ok (.iconst 0, 1) := by decide +kernel
theorem dX5_dawns_34 : decode cX5_dawns 34 = .ok (.iconst 3, 1) := by decide +kernel
theorem dX5_dawns_35 : decode cX5_dawns 35 = .ok (.invokestatic 57, 3) := by decide +kernel
theorem dX5_dawns_38 : decode cX5_dawns 38 = .ok (.ifCond .eq 24, 3) := by decide +kernel
theorem dX5_dawns_41 : decode cX5_dawns 41 = .ok (.iload 6, 2) := by decide +kernel
theorem dX5_dawns_43 : decode cX5_dawns 43 = .ok (.iconst 1, 1) := by decide +kernel
theorem dX5_dawns_44 : decode cX5_dawns 44 = .ok (.bipush 8, 2) := by decide +kernel
theorem dX5_dawns_46 : decode cX5_dawns 46 = .ok (.invokestatic 57, 3) := by decide +kernel
theorem dX5_dawns_49 : decode cX5_dawns 49 = .ok (.ifCond .eq 13, 3) := by decide +kernel
theorem dX5_dawns_52 : decode cX5_dawns 52 = .ok (.iload 7, 2) := by decide +kernel
theorem dX5_dawns_54 : decode cX5_dawns 54 = .ok (.iconst 0, 1) := by decide +kernel
theorem dX5_dawns_55 : decode cX5_dawns 55 = .ok (.iconst 1, 1) := by decide +kernel
theorem dX5_dawns_56 : decode cX5_dawns 56 = .ok (.invokestatic 57, 3) := by decide +kernel
theorem dX5_dawns_59 : decode cX5_dawns 59 = .ok (.ifCond .ne 5, 3) := by decide +kernel
theorem dX5_dawns_62 : decode cX5_dawns 62 = .ok (.iconst (-1), 1) := by decide +kernel
theorem dX5_dawns_63 : decode cX5_dawns 63 = .ok (.ireturn, 1) := by decide +kernel
theorem dX5_dawns_64 : decode cX5_dawns 64 = .ok (.aload_n 0, 1) := by decide +kernel
theorem dX5_dawns_65 : decode cX5_dawns 65 = .ok (.getfield 42, 3) := by decide +kernel
theorem dX5_dawns_68 : decode cX5_dawns 68 = .ok (.iload_n 3, 1) := by decide +kernel
theorem dX5_dawns_69 : decode cX5_dawns 69 = .ok (.aaload, 1) := by decide +kernel
theorem dX5_dawns_70 : decode cX5_dawns 70 = .ok (.astore 8, 2) := by decide +kernel
theorem dX5_dawns_72 : decode cX5_dawns 72 = .ok (.aload 8, 2) := by decide +kernel
theorem dX5_dawns_74 : decode cX5_dawns 74 = .ok (.iload 4, 2) := by decide +kernel
theorem dX5_dawns_76 : decode cX5_dawns 76 = .ok (.iload 5, 2) := by decide +kernel
theorem dX5_dawns_78 : decode cX5_dawns 78 = .ok (.iload 6, 2) := by decide +kernel
theorem dX5_dawns_80 : decode cX5_dawns 80 = .ok (.invokevirtual 214, 3) := by decide +kernel
theorem dX5_dawns_83 : decode cX5_dawns 83 = .ok (.istore 9, 2) := by decide +kernel
theorem dX5_dawns_85 : decode cX5_dawns 85 = .ok (.iload 9, 2) := by decide +kernel
theorem dX5_dawns_87 : decode cX5_dawns 87 = .ok (.ifCond .eq 6, 3) := by decide +kernel
theorem dX5_dawns_90 : decode cX5_dawns 90 = .ok (.iload 9, 2) := by decide +kernel
theorem dX5_dawns_92 : decode cX5_dawns 92 = .ok (.ireturn, 1) := by decide +kernel
theorem dX5_dawns_93 : decode cX5_dawns 93 = .ok (.iconst 0, 1) := by decide +kernel
theorem dX5_dawns_94 : decode cX5_dawns 94 = .ok (.istore 10, 2) := by decide +kernel
theorem dX5_dawns_96 : decode cX5_dawns 96 = .ok (.iload 7, 2) := by decide +kernel
theorem dX5_dawns_98 : decode cX5_dawns 98 = .ok (.ifCond .ne 7, 3) := by decide +kernel
theorem dX5_dawns_101 : decode cX5_dawns 101 = .ok (.iconst 0, 1) := by decide +kernel
theorem dX5_dawns_102 : decode cX5_dawns 102 = .ok (.goto 4, 3) := by decide +kernel
theorem dX5_dawns_105 : decode cX5_dawns 105 = .ok (.iconst 1, 1) := by decide +kernel
theorem dX5_dawns_106 : decode cX5_dawns 106 = .ok (.istore 11, 2) := by decide +kernel
theorem dX5_dawns_108 : decode cX5_dawns 108 = .ok (.iload 7, 2) := by decide +kernel
theorem dX5_dawns_110 : decode cX5_dawns 110 = .ok (.ifCond .ne 7, 3) := by decide +kernel
theorem dX5_dawns_113 : decode cX5_dawns 113 = .ok (.iconst 4, 1) := by decide +kernel
theorem dX5_dawns_114 : decode cX5_dawns 114 = .ok (.goto 5, 3) := by decide +kernel
theorem dX5_dawns_117 : decode cX5_dawns 117 = .ok (.bipush 9, 2) := by decide +kernel
theorem dX5_dawns_119 : decode cX5_dawns 119 = .ok (.istore 12, 2) := by decide +kernel
theorem dX5_dawns_121 : decode cX5_dawns 121 = .ok (.iload 11, 2) := by decide +kernel
theorem dX5_dawns_123 : decode cX5_dawns 123 = .ok (.istore 13, 2) := by decide +kernel
theorem dX5_dawns_125 : decode cX5_dawns 125 = .ok (.iload 13, 2) := by decide +kernel
theorem dX5_dawns_127 : decode cX5_dawns 127 = .ok (.iload 12, 2) := by decide +kernel
theorem dX5_dawns_129 : decode cX5_dawns 129 = .ok (.if_icmp .gt 73, 3) := by decide +kernel
theorem dX5_dawns_132 : decode cX5_dawns 132 = .ok (.aload_n 0, 1) := by decide +kernel
theorem dX5_dawns_133 : decode cX5_dawns 133 = .ok (.getfield 16, 3) := by decide +kernel
theorem dX5_dawns_136 : decode cX5_dawns 136 = .ok (.aload_n 0, 1) := by decide +kernel
theorem dX5_dawns_137 : decode cX5_dawns 137 = .ok (.getfield 10, 3) := by decide +kernel
theorem dX5_dawns_140 : decode cX5_dawns 140 = .ok (.invokevirtual 136, 3) := by decide +kernel
theorem dX5_dawns_143 : decode cX5_dawns 143 = .ok (.iload 7, 2) := by decide +kernel
theorem dX5_dawns_145 : decode cX5_dawns 145 = .ok (.ifCond .ne 17, 3) := by decide +kernel
theorem dX5_dawns_148 : decode cX5_dawns 148 = .ok (.aload_n 0, 1) := by decide +kernel
theorem dX5_dawns_149 : decode cX5_dawns 149 = .ok (.getfield 16, 3) := by decide +kernel
theorem dX5_dawns_152 : decode cX5_dawns 152 = .ok (.getfield 105, 3) := by decide +kernel
theorem dX5_dawns_155 : decode cX5_dawns 155 = .ok (.iload_n 1, 1) := by decide +kernel
theorem dX5_dawns_156 : decode cX5_dawns 156 = .ok (.iload 13, 2) := by decide +kernel
theorem dX5_dawns_158 : decode cX5_dawns 158 = .ok (.iastore, 1) := by decide +kernel
theorem dX5_dawns_159 : decode cX5_dawns 159 = .ok (.goto 14, 3) := by decide +kernel
theorem dX5_dawns_162 : decode cX5_dawns 162 = .ok (.aload_n 0, 1) := by decide +kernel
theorem dX5_dawns_163 : decode cX5_dawns 163 = .ok (.getfield 16, 3) := by decide +kernel
theorem dX5_dawns_166 : decode cX5_dawns 166 = .ok (.getfield 108, 3) := by decide +kernel
theorem dX5_dawns_169 : decode cX5_dawns 169 = .ok (.iload_n 1, 1) := by decide +kernel
theorem dX5_dawns_170 : decode cX5_dawns 170 = .ok (.iload 13, 2) := by decide +kernel
theorem dX5_dawns_172 : decode cX5_dawns 172 = .ok (.iastore, 1) := by decide +kernel
theorem dX5_dawns_173 : decode cX5_dawns 173 = .ok (.aload_n 0, 1) := by decide +kernel
theorem dX5_dawns_174 : decode cX5_dawns 174 = .ok (.iload_n 2, 1) := by decide +kernel
theorem dX5_dawns_175 : decode cX5_dawns 175 = .ok (.aload 8, 2) := by decide +kernel
theorem dX5_dawns_177 : decode cX5_dawns 177 = .ok (.iload 5, 2) := by decide +kernel
theorem dX5_dawns_179 : decode cX5_dawns 179 = .ok (.iload 6, 2) := by decide +kernel
theorem dX5_dawns_181 : decode cX5_dawns 181 = .ok (.invokevirtual 217, 3) := by decide +kernel
theorem dX5_dawns_184 : decode cX5_dawns 184 = .ok (.ifCond .eq 12, 3) := by decide +kernel
theorem dX5_dawns_187 : decode cX5_dawns 187 = .ok (.iload 10, 2) := by decide +kernel
theorem dX5_dawns_189 : decode cX5_dawns 189 = .ok (.iconst 1, 1) := by decide +kernel
theorem dX5_dawns_190 : decode cX5_dawns 190 = .ok (.iload 13, 2) := by decide +kernel
theorem dX5_dawns_192 : decode cX5_dawns 192 = .ok (.ishl, 1) := by decide +kernel
theorem dX5_dawns_193 : decode cX5_dawns 193 = .ok (.ior, 1) := by decide +kernel
theorem dX5_dawns_194 : decode cX5_dawns 194 = .ok (.istore 10, 2) := by decide +kernel
theorem dX5_dawns_196 : decode cX5_dawns 196 = .ok (.iinc 13 1, 3) := by decide +kernel
theorem dX5_dawns_199 : decode cX5_dawns 199 = .ok (.goto (-74), 3) := by decide +kernel
theorem dX5_dawns_202 : decode cX5_dawns 202 = .ok (.iload 10, 2) := by decide +kernel
theorem dX5_dawns_204 : decode cX5_dawns 204 = .ok (.ireturn, 1) := by decide +kernel
theorem dX5_film_0 : decode cX5_film 0 = .ok (.aload_n 0, 1) := by decide +kernel
theorem dX5_film_1 : decode cX5_film 1 = .ok (.getfield 10, 3) := by decide +kernel
theorem dX5_film_4 : decode cX5_film 4 = .ok (.iload_n 1, 1) := by decide +kernel
theorem dX5_film_5 : decode cX5_film 5 = .ok (.invokevirtual 72, 3) := by decide +kernel
theorem dX5_film_8 : decode cX5_film 8 = .ok (.ifCond .eq 32, 3) := by decide +kernel
theorem dX5_film_11 : decode cX5_film 11 = .ok (.iload_n 2, 1) := by decide +kernel
theorem dX5_film_12 : decode cX5_film 12 = .ok (.iconst 1, 1) := by decide +kernel
theorem dX5_film_13 : decode cX5_film 13 = .ok (.bipush 24, 2) := by decide +kernel
theorem dX5_film_15 : decode cX5_film 15 = .ok (.invokestatic 57, 3) := by decide +kernel
theorem dX5_film_18 : decode cX5_film 18 = .ok (.ifCond .eq 22, 3) := by decide +kernel
theorem dX5_film_21 : decode cX5_film 21 = .ok (.iload_n 3, 1) := by decide +kernel
theorem dX5_film_22 : decode cX5_film 22 = .ok (.iconst 0, 1) := by decide +kernel
theorem dX5_film_23 : decode cX5_film 23 = .ok (.iconst 3, 1) := by decide +kernel
theorem dX5_film_24 : decode cX5_film 24 = .ok (.invokestatic 57, 3) := by decide +kernel
theorem dX5_film_27 : decode cX5_film 27 = .ok (.ifCond .eq 13, 3) := by decide +kernel
theorem dX5_film_30 : decode cX5_film 30 = .ok (.iload 4, 2) := by decide +kernel
theorem dX5_film_32 : decode cX5_film 32 = .ok (.iconst 0, 1) := by decide +kernel
theorem dX5_film_33 : decode cX5_film 33 = .ok (.iconst 3, 1) := by decide +kernel
theorem dX5_film_34 : decode cX5_film 34 = .ok (.invokestatic 57, 3) := by decide +kernel
theorem dX5_film_37 : decode cX5_film 37 = .ok (.ifCond .ne 5, 3) := by decide +kernel
theorem dX5_film_40 : decode cX5_film 40 = .ok (.iconst (-1), 1) := by decide +kernel
theorem dX5_film_41 : decode cX5_film 41 = .ok (.ireturn, 1) := by decide +kernel
theorem dX5_film_42 : decode cX5_film 42 = .ok (.aload_n 0, 1) := by decide +kernel
theorem dX5_film_43 : decode cX5_film 43 = .ok (.getfield 42, 3) := by decide +kernel
theorem dX5_film_46 : decode cX5_film 46 = .ok (.iload_n 3, 1) := by decide +kernel
theorem dX5_film_47 : decode cX5_film 47 = .ok (.aaload, 1) := by decide +kernel
theorem dX5_film_48 : decode cX5_film 48 = .ok (.astore 6, 2) := by decide +kernel
theorem dX5_film_50 : decode cX5_film 50 = .ok (.aload 6, 2) := by decide +kernel
theorem dX5_film_52 : decode cX5_film 52 = .ok (.iload 4, 2) := by decide +kernel
theorem dX5_film_54 : decode cX5_film 54 = .ok (.iload 5, 2) := by decide +kernel
theorem dX5_film_56 : decode cX5_film 56 = .ok (.iload_n 2, 1) := by decide +kernel
theorem dX5_film_57 : decode cX5_film 57 = .ok (.invokevirtual 214, 3) := by decide +kernel
theorem dX5_film_60 : decode cX5_film 60 = .ok (.istore 7, 2) := by decide +kernel
theorem dX5_film_62 : decode cX5_film 62 = .ok (.iload 7, 2) := by decide +kernel
theorem dX5_film_64 : decode cX5_film 64 = .ok (.ifCond .eq 6, 3) := by decide +kernel
theorem dX5_film_67 : decode cX5_film 67 = .ok (.iload 7, 2) := by decide +kernel
theorem dX5_film_69 : decode cX5_film 69 = .ok (.ireturn, 1) := by decide +kernel
theorem dX5_film_70 : decode cX5_film 70 = .ok (.aload_n 0, 1) := by decide +kernel
theorem dX5_film_71 : decode cX5_film 71 = .ok (.getfield 16, 3) := by decide +kernel
theorem dX5_film_74 : decode cX5_film 74 = .ok (.aload_n 0, 1) := by decide +kernel
theorem dX5_film_75 : decode cX5_film 75 = .ok (.getfield 10, 3) := by decide +kernel
theorem dX5_film_78 : decode cX5_film 78 = .ok (.invokevirtual 136, 3) := by decide +kernel
theorem dX5_film_81 : decode cX5_film 81 = .ok (.iconst 0, 1) := by decide +kernel
theorem dX5_film_82 : decode cX5_film 82 = .ok (.istore 8, 2) := by decide +kernel
theorem dX5_film_84 : decode cX5_film 84 = .ok (.iload 8, 2) := by decide +kernel
theorem dX5_film_86 : decode cX5_film 86 = .ok (.iload_n 2, 1) := by decide +kernel
theorem dX5_film_87 : decode cX5_film 87 = .ok (.if_icmp .ge 37, 3) := by decide +kernel
theorem dX5_film_90 : decode cX5_film 90 = .ok (.aload_n 0, 1) := by decide +kernel
theorem dX5_film_91 : decode cX5_film 91 = .ok (.getfield 16, 3) := by decide +kernel
theorem dX5_film_94 : decode cX5_film 94 = .ok (.iconst 0, 1) := by decide +kernel
theorem dX5_film_95 : decode cX5_film 95 = .ok (.invokevirtual 160, 3) := by decide +kernel
theorem dX5_film_98 : decode cX5_film 98 = .ok (.aload 6, 2) := by decide +kernel
theorem dX5_film_100 : decode cX5_film 100 = .ok (.iload 5, 2) := by decide +kernel
theorem dX5_film_102 : decode cX5_film 102 = .ok (.iload 8, 2) := by decide +kernel
theorem dX5_film_104 : decode cX5_film 104 = .ok (.iadd, 1) := by decide +kernel
theorem dX5_film_105 : decode cX5_film 105 = .ok (.aload_n 0, 1) := by decide +kernel
theorem dX5_film_106 : decode cX5_film 106 = .ok (.getfield 16, 3) := by decide +kernel
theorem dX5_film_109 : decode cX5_film 109 = .ok (.getfield 85, 3) := by decide +kernel
theorem dX5_film_112 : decode cX5_film 112 = .ok (.iload_n 1, 1) := by decide +kernel
theorem dX5_film_113 : decode cX5_film 113 = .ok (.iaload, 1) := by decide +kernel
theorem dX5_film_114 : decode cX5_film 114 = .ok (.i2l, 1) := by decide +kernel
theorem dX5_film_115 : decode cX5_film 115 = .ok (.invokevirtual 221, 3) := by decide +kernel
theorem dX5_film_118 : decode cX5_film 118 = .ok (.iinc 8 1, 3) := by decide +kernel
theorem dX5_film_121 : decode cX5_film 121 = .ok (.goto (-37), 3) := by decide +kernel
theorem dX5_film_124 : decode cX5_film 124 = .ok (.iload_n 2, 1) := by decide +kernel
theorem dX5_film_125 : decode cX5_film 125 = .ok (.ireturn, 1) := by decide +kernel
theorem dX5_sheet_0 : decode cX5_sheet 0 = .ok (.iload_n 1, 1) := by decide +kernel
theorem dX5_sheet_1 : decode cX5_sheet 1 = .ok (.iconst 0, 1) := by decide +kernel
theorem dX5_sheet_2 : decode cX5_sheet 2 = .ok (.iconst 3, 1) := by decide +kernel
theorem dX5_sheet_3 : decode cX5_sheet 3 = .ok (.invokestatic 57, 3) := by decide +kernel
theorem dX5_sheet_6 : decode cX5_sheet 6 = .ok (.ifCond .eq 18, 3) := by decide +kernel
theorem dX5_sheet_9 : decode cX5_sheet 9 = .ok (.iload_n 2, 1) := by decide +kernel
theorem dX5_sheet_10 : decode cX5_sheet 10 = .ok (.iconst 0, 1) := by decide +kernel
theorem dX5_sheet_11 : decode cX5_sheet 11 = .ok (.iconst 3, 1) := by decide +kernel
theorem dX5_sheet_12 : decode cX5_sheet 12 = .ok (.invokestatic 57, 3) := by decide +kernel
theorem dX5_sheet_15 : decode cX5_sheet 15 = .ok (.ifCond .eq 9, 3) := by decide +kernel
theorem dX5_sheet_18 : decode cX5_sheet 18 = .ok (.iload_n 3, 1) := by decide +kernel
theorem dX5_sheet_19 : decode cX5_sheet 19 = .ok (.bipush 24, 2) := by decide +kernel
theorem dX5_sheet_21 : decode cX5_sheet 21 = .ok (.if_icmp .le 5, 3) := by decide +kernel
theorem dX5_sheet_24 : decode cX5_sheet 24 = .ok (.iconst (-1), 1) := by decide +kernel
theorem dX5_sheet_25 : decode cX5_sheet 25 = .ok (.ireturn, 1) := by decide +kernel
theorem dX5_sheet_26 : decode cX5_sheet 26 = .ok (.iload_n 3, 1) := by decide +kernel
theorem dX5_sheet_27 : decode cX5_sheet 27 = .ok (.ifCond .ge 6, 3) := by decide +kernel
theorem dX5_sheet_30 : decode cX5_sheet 30 = .ok (.bipush (-14), 2) := by decide +kernel
theorem dX5_sheet_32 : decode cX5_sheet 32 = .ok (.ireturn, 1) := by decide +kernel
theorem dX5_sheet_33 : decode cX5_sheet 33 = .ok (.aload_n 0, 1) := by decide +kernel
theorem dX5_sheet_34 : decode cX5_sheet 34 = .ok (.getfield 42, 3) := by decide +kernel
theorem dX5_sheet_37 : decode cX5_sheet 37 = .ok (.iload_n 1, 1) := by decide +kernel
theorem dX5_sheet_38 : decode cX5_sheet 38 = .ok (.aaload, 1) := by decide +kernel
theorem dX5_sheet_39 : decode cX5_sheet 39 = .ok (.iload_n 2, 1) := by decide +kernel
theorem dX5_sheet_40 : decode cX5_sheet 40 = .ok (.iload_n 3, 1) := by decide +kernel
theorem dX5_sheet_41 : decode cX5_sheet 41 = .ok (.invokevirtual 225, 3) := by decide +kernel
theorem dX5_sheet_44 : decode cX5_sheet 44 = .ok (.iload_n 3, 1) := by decide +kernel
theorem dX5_sheet_45 : decode cX5_sheet 45 = .ok (.ireturn, 1) := by decide +kernel
theorem dX5_drop_0 : decode cX5_drop 0 = .ok (.iload_n 1, 1) := by decide +kernel
theorem dX5_drop_1 : decode cX5_drop 1 = .ok (.iconst 0, 1) := by decide +kernel
theorem dX5_drop_2 : decode cX5_drop 2 = .ok (.iconst 3, 1) := by decide +kernel
theorem dX5_drop_3 : decode cX5_drop 3 = .ok (.invokestatic 57, 3) := by decide +kernel
theorem dX5_drop_6 : decode cX5_drop 6 = .ok (.ifCond .ne 5, 3) := by decide +kernel
theorem dX5_drop_9 : decode cX5_drop 9 = .ok (.iconst (-1), 1) := by decide +kernel
theorem dX5_drop_10 : decode cX5_drop 10 = .ok (.ireturn, 1) := by decide +kernel
theorem dX5_drop_11 : decode cX5_drop 11 = .ok (.aload_n 0, 1) := by decide +kernel
theorem dX5_drop_12 : decode cX5_drop 12 = .ok (.getfield 42, 3) := by decide +kernel
theorem dX5_drop_15 : decode cX5_drop 15 = .ok (.iload_n 1, 1) := by decide +kernel
theorem dX5_drop_16 : decode cX5_drop 16 = .ok (.aaload, 1) := by decide +kernel
theorem dX5_drop_17 : decode cX5_drop 17 = .ok (.astore_n 2, 1) := by decide +kernel
theorem dX5_drop_18 : decode cX5_drop 18 = .ok (.aload_n 2, 1) := by decide +kernel
theorem dX5_drop_19 : decode cX5_drop 19 = .ok (.getfield 228, 3) := by decide +kernel
theorem dX5_drop_22 : decode cX5_drop 22 = .ok (.ifCond .ne 6, 3) := by decide +kernel
theorem dX5_drop_25 : decode cX5_drop 25 = .ok (.bipush (-11), 2) := by decide +kernel
theorem dX5_drop_27 : decode cX5_drop 27 = .ok (.ireturn, 1) := by decide +kernel
theorem dX5_drop_28 : decode cX5_drop 28 = .ok (.aload_n 2, 1) := by decide +kernel
theorem dX5_drop_29 : decode cX5_drop 29 = .ok (.iconst 0, 1) := by decide +kernel
theorem dX5_drop_30 : decode cX5_drop 30 = .ok (.putfield 228, 3) := by decide +kernel
theorem dX5_drop_33 : decode cX5_drop 33 = .ok (.aload_n 2, 1) := by decide +kernel
theorem dX5_drop_34 : decode cX5_drop 34 = .ok (.getfield 231, 3) := by decide +kernel
theorem dX5_drop_37 : decode cX5_drop 37 = .ok (.ireturn, 1) := by decide +kernel
theorem dX5_item_0 : decode cX5_item 0 = .ok (.iload_n 1, 1) := by decide +kernel
theorem dX5_item_1 : decode cX5_item 1 = .ok (.iconst 0, 1) := by decide +kernel
theorem dX5_item_2 : decode cX5_item 2 = .ok (.iconst 3, 1) := by decide +kernel
theorem dX5_item_3 : decode cX5_item 3 = .ok (.invokestatic 57, 3) := by decide +kernel
theorem dX5_item_6 : decode cX5_item 6 = .ok (.ifCond .eq 12, 3) := by decide +kernel
theorem dX5_item_9 : decode cX5_item 9 = .ok (.iload_n 2, 1) := by decide +kernel
theorem dX5_item_10 : decode cX5_item 10 = .ok (.iconst 0, 1) := by decide +kernel
theorem dX5_item_11 : decode cX5_item 11 = .ok (.iconst 3, 1) := by decide +kernel
theorem dX5_item_12 : decode cX5_item 12 = .ok (.invokestatic 57, 3) := by decide +kernel
theorem dX5_item_15 : decode cX5_item 15 = .ok (.ifCond .ne 5, 3) := by decide +kernel
theorem dX5_item_18 : decode cX5_item 18 = .ok (.iconst (-1), 1) := by decide +kernel
theorem dX5_item_19 : decode cX5_item 19 = .ok (.ireturn, 1) := by decide +kernel
theorem dX5_item_20 : decode cX5_item 20 = .ok (.aload_n 0, 1) := by decide +kernel
theorem dX5_item_21 : decode cX5_item 21 = .ok (.getfield 42, 3) := by decide +kernel
theorem dX5_item_24 : decode cX5_item 24 = .ok (.iload_n 1, 1) := by decide +kernel
theorem dX5_item_25 : decode cX5_item 25 = .ok (.aaload, 1) := by decide +kernel
theorem dX5_item_26 : decode cX5_item 26 = .ok (.astore 6, 2) := by decide +kernel
theorem dX5_item_28 : decode cX5_item 28 = .ok (.aload 6, 2) := by decide +kernel
theorem dX5_item_30 : decode cX5_item 30 = .ok (.iload_n 2, 1) := by decide +kernel
theorem dX5_item_31 : decode cX5_item 31 = .ok (.iload_n 3, 1) := by decide +kernel
theorem dX5_item_32 : decode cX5_item 32 = .ok (.iconst 1, 1) := by decide +kernel
theorem dX5_item_33 : decode cX5_item 33 = .ok (.invokevirtual 214, 3) := by decide +kernel
theorem dX5_item_36 : decode cX5_item 36 = .ok (.istore 7, 2) := by decide +kernel
theorem dX5_item_38 : decode cX5_item 38 = .ok (.iload 7, 2) := by decide +kernel
theorem dX5_item_40 : decode cX5_item 40 = .ok (.ifCond .eq 6, 3) := by decide +kernel
theorem dX5_item_43 : decode cX5_item 43 = .ok (.iload 7, 2) := by decide +kernel
theorem dX5_item_45 : decode cX5_item 45 = .ok (.ireturn, 1) := by decide +kernel
theorem dX5_item_46 : decode cX5_item 46 = .ok (.aload 6, 2) := by decide +kernel
theorem dX5_item_48 : decode cX5_item 48 = .ok (.iload_n 3, 1) := by decide +kernel
theorem dX5_item_49 : decode cX5_item 49 = .ok (.lload 4, 2) := by decide +kernel
theorem dX5_item_51 : decode cX5_item 51 = .ok (.invokevirtual 221, 3) := by decide +kernel
theorem dX5_item_54 : decode cX5_item 54 = .ok (.iconst 1, 1) := by decide +kernel
theorem dX5_item_55 : decode cX5_item 55 = .ok (.ireturn, 1) := by decide +kernel
theorem dX5_copy_0 : decode cX5_copy 0 = .ok (.iload_n 1, 1) := by decide +kernel
theorem dX5_copy_1 : decode cX5_copy 1 = .ok (.iconst 0, 1) := by decide +kernel
theorem dX5_copy_2 : decode cX5_copy 2 = .ok (.iconst 3, 1) := by decide +kernel
theorem dX5_copy_3 : decode cX5_copy 3 = .ok (.invokestatic 57, 3) := by decide +kernel
theorem dX5_copy_6 : decode cX5_copy 6 = .ok (.ifCond .eq 12, 3) := by decide +kernel
theorem dX5_copy_9 : decode cX5_copy 9 = .ok (.iload_n 3, 1) := by decide +kernel
theorem dX5_copy_10 : decode cX5_copy 10 = .ok (.iconst 0, 1) := by decide +kernel
theorem dX5_copy_11 : decode cX5_copy 11 = .ok (.iconst 3, 1) := by decide +kernel
theorem dX5_copy_12 : decode cX5_copy 12 = .ok (.invokestatic 57, 3) := by decide +kernel
theorem dX5_copy_15 : decode cX5_copy 15 = .ok (.ifCond .ne 5, 3) := by decide +kernel
theorem dX5_copy_18 : decode cX5_copy 18 = .ok (.iconst (-1), 1) := by decide +kernel
theorem dX5_copy_19 : decode cX5_copy 19 = .ok (.ireturn, 1) := by decide +kernel
theorem dX5_copy_20 : decode cX5_copy 20 = .ok (.aload_n 0, 1) := by decide +kernel
theorem dX5_copy_21 : decode cX5_copy 21 = .ok (.getfield 42, 3) := by decide +kernel
theorem dX5_copy_24 : decode cX5_copy 24 = .ok (.iload_n 1, 1) := by decide +kernel
theorem dX5_copy_25 : decode cX5_copy 25 = .ok (.aaload, 1) := by decide +kernel
theorem dX5_copy_26 : decode cX5_copy 26 = .ok (.astore 6, 2) := by decide +kernel
theorem dX5_copy_28 : decode cX5_copy 28 = .ok (.aload_n 0, 1) := by decide +kernel
theorem dX5_copy_29 : decode cX5_copy 29 = .ok (.getfield 42, 3) := by decide +kernel
theorem dX5_copy_32 : decode cX5_copy 32 = .ok (.iload_n 3, 1) := by decide +kernel
theorem dX5_copy_33 : decode cX5_copy 33 = .ok (.aaload, 1) := by decide +kernel
theorem dX5_copy_34 : decode cX5_copy 34 = .ok (.astore 7, 2) := by decide +kernel
theorem dX5_copy_36 : decode cX5_copy 36 = .ok (.aload 6, 2) := by decide +kernel
theorem dX5_copy_38 : decode cX5_copy 38 = .ok (.getfield 228, 3) := by decide +kernel
theorem dX5_copy_41 : decode cX5_copy 41 = .ok (.ifCond .eq 11, 3) := by decide +kernel
theorem dX5_copy_44 : decode cX5_copy 44 = .ok (.aload 7, 2) := by decide +kernel
theorem dX5_copy_46 : decode cX5_copy 46 = .ok (.getfield 228, 3) := by decide +kernel
theorem dX5_copy_49 : decode cX5_copy 49 = .ok (.ifCond .ne 6, 3) := by decide +kernel
theorem dX5_copy_52 : decode cX5_copy 52 = .ok (.bipush (-11), 2) := by decide +kernel
theorem dX5_copy_54 : decode cX5_copy 54 = .ok (.ireturn, 1) := by decide +kernel
theorem dX5_copy_55 : decode cX5_copy 55 = .ok (.aload 6, 2) := by decide +kernel
theorem dX5_copy_57 : decode cX5_copy 57 = .ok (.getfield 232, 3) := by decide +kernel
theorem dX5_copy_60 : decode cX5_copy 60 = .ok (.aload 7, 2) := by decide +kernel
theorem dX5_copy_62 : decode cX5_copy 62 = .ok (.getfield 232, 3) := by decide +kernel
theorem dX5_copy_65 : decode cX5_copy 65 = .ok (.if_icmp .eq 6, 3) := by decide +kernel
theorem dX5_copy_68 : decode cX5_copy 68 = .ok (.bipush (-12), 2) := by decide +kernel
theorem dX5_copy_70 : decode cX5_copy 70 = .ok (.ireturn, 1) := by decide +kernel
theorem dX5_copy_71 : decode cX5_copy 71 = .ok (.aload 6, 2) := by decide +kernel
theorem dX5_copy_73 : decode cX5_copy 73 = .ok (.iload_n 2, 1) := by decide +kernel
theorem dX5_copy_74 : decode cX5_copy 74 = .ok (.iload 5, 2) := by decide +kernel
theorem dX5_copy_76 : decode cX5_copy 76 = .ok (.invokevirtual 235, 3) := by decide +kernel
theorem dX5_copy_79 : decode cX5_copy 79 = .ok (.ifCond .eq 15, 3) := by decide +kernel
theorem dX5_copy_82 : decode cX5_copy 82 = .ok (.aload 7, 2) := by decide +kernel
theorem dX5_copy_84 : decode cX5_copy 84 = .ok (.iload 4, 2) := by decide +kernel
theorem dX5_copy_86 : decode cX5_copy 86 = .ok (.iload 5, 2) := by decide +kernel
theorem dX5_copy_88 : decode cX5_copy 88 = .ok (.invokevirtual 235, 3) := by decide +kernel
theorem dX5_copy_91 : decode cX5_copy 91 = .ok (.ifCond .ne 6, 3) := by decide +kernel
theorem dX5_copy_94 : decode cX5_copy 94 = .ok (.bipush (-13), 2) := by decide +kernel
theorem dX5_copy_96 : decode cX5_copy 96 = .ok (.ireturn, 1) := by decide +kernel
theorem dX5_copy_97 : decode cX5_copy 97 = .ok (.aload 6, 2) := by decide +kernel
theorem dX5_copy_99 : decode cX5_copy 99 = .ok (.getfield 238, 3) := by decide +kernel
theorem dX5_copy_102 : decode cX5_copy 102 = .ok (.iload_n 2, 1) := by decide +kernel
theorem dX5_copy_103 : decode cX5_copy 103 = .ok (.aload 7, 2) := by decide +kernel
theorem dX5_copy_105 : decode cX5_copy 105 = .ok (.getfield 238, 3) := by decide +kernel
theorem dX5_copy_108 : decode cX5_copy 108 = .ok (.iload 4, 2) := by decide +kernel
theorem dX5_copy_110 : decode cX5_copy 110 = .ok (.iload 5, 2) := by decide +kernel
theorem dX5_copy_112 : decode cX5_copy 112 = .ok (.invokestatic 242, 3) := by decide +kernel
theorem dX5_copy_115 : decode cX5_copy 115 = .ok (.iload 5, 2) := by decide +kernel
theorem dX5_copy_117 : decode cX5_copy 117 = .ok (.ireturn, 1) := by decide +kernel
theorem dX5_within_0 : decode cX5_within 0 = .ok (.iload_n 0, 1) := by decide +kernel
theorem dX5_within_1 : decode cX5_within 1 = .ok (.iload_n 1, 1) := by decide +kernel
theorem dX5_within_2 : decode cX5_within 2 = .ok (.if_icmp .lt 12, 3) := by decide +kernel
theorem dX5_within_5 : decode cX5_within 5 = .ok (.iload_n 0, 1) := by decide +kernel
theorem dX5_within_6 : decode cX5_within 6 = .ok (.iload_n 2, 1) := by decide +kernel
theorem dX5_within_7 : decode cX5_within 7 = .ok (.if_icmp .gt 7, 3) := by decide +kernel
theorem dX5_within_10 : decode cX5_within 10 = .ok (.iconst 1, 1) := by decide +kernel
theorem dX5_within_11 : decode cX5_within 11 = .ok (.goto 4, 3) := by decide +kernel
theorem dX5_within_14 : decode cX5_within 14 = .ok (.iconst 0, 1) := by decide +kernel
theorem dX5_within_15 : decode cX5_within 15 = .ok (.ireturn, 1) := by decide +kernel
theorem dX5_foretell_0 : decode cX5_foretell 0 = .ok (.aload_n 0, 1) := by decide +kernel
theorem dX5_foretell_1 : decode cX5_foretell 1 = .ok (.getfield 16, 3) := by decide +kernel
theorem dX5_foretell_4 : decode cX5_foretell 4 = .ok (.aload_n 0, 1) := by decide +kernel
theorem dX5_foretell_5 : decode cX5_foretell 5 = .ok (.getfield 10, 3) := by decide +kernel
theorem dX5_foretell_8 : decode cX5_foretell 8 = .ok (.invokevirtual 136, 3) := by decide +kernel
theorem dX5_foretell_11 : decode cX5_foretell 11 = .ok (.aload_n 0, 1) := by decide +kernel
theorem dX5_foretell_12 : decode cX5_foretell 12 = .ok (.getfield 16, 3) := by decide +kernel
theorem dX5_foretell_15 : decode cX5_foretell 15 = .ok (.iload_n 1, 1) := by decide +kernel
theorem dX5_foretell_16 : decode cX5_foretell 16 = .ok (.invokevirtual 177, 3) := by decide +kernel
theorem dX5_foretell_19 : decode cX5_foretell 19 = .ok (.return_, 1) := by decide +kernel
theorem dX5_foretellDriven_0 : decode cX5_foretellDriven 0 = .ok (.aload_n 0, 1) := by decide +kernel
theorem dX5_foretellDriven_1 : decode cX5_foretellDriven 1 = .ok (.getfield 16, 3) := by decide +kernel
theorem dX5_foretellDriven_4 : decode cX5_foretellDriven 4 = .ok (.aload_n 0, 1) := by decide +kernel
theorem dX5_foretellDriven_5 : decode cX5_foretellDriven 5 = .ok (.getfield 10, 3) := by decide +kernel
theorem dX5_foretellDriven_8 : decode cX5_foretellDriven 8 = .ok (.invokevirtual 136, 3) := by decide +kernel
theorem dX5_foretellDriven_11 : decode cX5_foretellDriven 11 = .ok (.aload_n 0, 1) := by decide +kernel
theorem dX5_foretellDriven_12 : decode cX5_foretellDriven 12 = .ok (.getfield 16, 3) := by decide +kernel
theorem dX5_foretellDriven_15 : decode cX5_foretellDriven 15 = .ok (.getfield 111, 3) := by decide +kernel
theorem dX5_foretellDriven_18 : decode cX5_foretellDriven 18 = .ok (.iload_n 1, 1) := by decide +kernel
theorem dX5_foretellDriven_19 : decode cX5_foretellDriven 19 = .ok (.iload_n 2, 1) := by decide +kernel
theorem dX5_foretellDriven_20 : decode cX5_foretellDriven 20 = .ok (.iastore, 1) := by decide +kernel
theorem dX5_foretellDriven_21 : decode cX5_foretellDriven 21 = .ok (.aload_n 0, 1) := by decide +kernel
theorem dX5_foretellDriven_22 : decode cX5_foretellDriven 22 = .ok (.getfield 16, 3) := by decide +kernel
theorem dX5_foretellDriven_25 : decode cX5_foretellDriven 25 = .ok (.iload_n 3, 1) := by decide +kernel
theorem dX5_foretellDriven_26 : decode cX5_foretellDriven 26 = .ok (.invokevirtual 177, 3) := by decide +kernel
theorem dX5_foretellDriven_29 : decode cX5_foretellDriven 29 = .ok (.return_, 1) := by decide +kernel
theorem dX5_chance_0 : decode cX5_chance 0 = .ok (.iconst 1, 1) := by decide +kernel
theorem dX5_chance_1 : decode cX5_chance 1 = .ok (.istore_n 3, 1) := by decide +kernel
theorem dX5_chance_2 : decode cX5_chance 2 = .ok (.iconst 0, 1) := by decide +kernel
theorem dX5_chance_3 : decode cX5_chance 3 = .ok (.istore 4, 2) := by decide +kernel
theorem dX5_chance_5 : decode cX5_chance 5 = .ok (.iload 4, 2) := by decide +kernel
theorem dX5_chance_7 : decode cX5_chance 7 = .ok (.aload_n 0, 1) := by decide +kernel
theorem dX5_chance_8 : decode cX5_chance 8 = .ok (.getfield 10, 3) := by decide +kernel
theorem dX5_chance_11 : decode cX5_chance 11 = .ok (.getfield 76, 3) := by decide +kernel
theorem dX5_chance_14 : decode cX5_chance 14 = .ok (.if_icmp .ge 30, 3) := by decide +kernel
theorem dX5_chance_17 : decode cX5_chance 17 = .ok (.iload_n 3, 1) := by decide +kernel
theorem dX5_chance_18 : decode cX5_chance 18 = .ok (.iload_n 1, 1) := by decide +kernel
theorem dX5_chance_19 : decode cX5_chance 19 = .ok (.iload 4, 2) := by decide +kernel
theorem dX5_chance_21 : decode cX5_chance 21 = .ok (.ishr, 1) := by decide +kernel
theorem dX5_chance_22 : decode cX5_chance 22 = .ok (.iconst 1, 1) := by decide +kernel
theorem dX5_chance_23 : decode cX5_chance 23 = .ok (.iand, 1) := by decide +kernel
theorem dX5_chance_24 : decode cX5_chance 24 = .ok (.iconst 1, 1) := by decide +kernel
theorem dX5_chance_25 : decode cX5_chance 25 = .ok (.if_icmp .ne 7, 3) := by decide +kernel
theorem dX5_chance_28 : decode cX5_chance 28 = .ok (.iload_n 2, 1) := by decide +kernel
theorem dX5_chance_29 : decode cX5_chance 29 = .ok (.goto 7, 3) := by decide +kernel
theorem dX5_chance_32 : decode cX5_chance 32 = .ok (.bipush 10, 2) := by decide +kernel
theorem dX5_chance_34 : decode cX5_chance 34 = .ok (.iload_n 2, 1) := by decide +kernel
theorem dX5_chance_35 : decode cX5_chance 35 = .ok (.isub, 1) := by decide +kernel
theorem dX5_chance_36 : decode cX5_chance 36 = .ok (.imul, 1) := by decide +kernel
theorem dX5_chance_37 : decode cX5_chance 37 = .ok (.istore_n 3, 1) := by decide +kernel
theorem dX5_chance_38 : decode cX5_chance 38 = .ok (.iinc 4 1, 3) := by decide +kernel
theorem dX5_chance_41 : decode cX5_chance 41 = .ok (.goto (-36), 3) := by decide +kernel
theorem dX5_chance_44 : decode cX5_chance 44 = .ok (.iload_n 3, 1) := by decide +kernel
theorem dX5_chance_45 : decode cX5_chance 45 = .ok (.ireturn, 1) := by decide +kernel
theorem dX5_looksMore_0 : decode cX5_looksMore 0 = .ok (.aload_n 0, 1) := by decide +kernel
theorem dX5_looksMore_1 : decode cX5_looksMore 1 = .ok (.getfield 16, 3) := by decide +kernel
theorem dX5_looksMore_4 : decode cX5_looksMore 4 = .ok (.aload_n 0, 1) := by decide +kernel
theorem dX5_looksMore_5 : decode cX5_looksMore 5 = .ok (.getfield 10, 3) := by decide +kernel
theorem dX5_looksMore_8 : decode cX5_looksMore 8 = .ok (.invokevirtual 136, 3) := by decide +kernel
theorem dX5_looksMore_11 : decode cX5_looksMore 11 = .ok (.aload_n 0, 1) := by decide +kernel
theorem dX5_looksMore_12 : decode cX5_looksMore 12 = .ok (.getfield 16, 3) := by decide +kernel
theorem dX5_looksMore_15 : decode cX5_looksMore 15 = .ok (.iload_n 2, 1) := by decide +kernel
theorem dX5_looksMore_16 : decode cX5_looksMore 16 = .ok (.invokevirtual 160, 3) := by decide +kernel
theorem dX5_looksMore_19 : decode cX5_looksMore 19 = .ok (.aload_n 0, 1) := by decide +kernel
theorem dX5_looksMore_20 : decode cX5_looksMore 20 = .ok (.getfield 16, 3) := by decide +kernel
theorem dX5_looksMore_23 : decode cX5_looksMore 23 = .ok (.getfield 92, 3) := by decide +kernel
theorem dX5_looksMore_26 : decode cX5_looksMore 26 = .ok (.iload_n 1, 1) := by decide +kernel
theorem dX5_looksMore_27 : decode cX5_looksMore 27 = .ok (.iaload, 1) := by decide +kernel
theorem dX5_looksMore_28 : decode cX5_looksMore 28 = .ok (.aload_n 0, 1) := by decide +kernel
theorem dX5_looksMore_29 : decode cX5_looksMore 29 = .ok (.getfield 10, 3) := by decide +kernel
theorem dX5_looksMore_32 : decode cX5_looksMore 32 = .ok (.getfield 92, 3) := by decide +kernel
theorem dX5_looksMore_35 : decode cX5_looksMore 35 = .ok (.iload_n 1, 1) := by decide +kernel
theorem dX5_looksMore_36 : decode cX5_looksMore 36 = .ok (.iaload, 1) := by decide +kernel
theorem dX5_looksMore_37 : decode cX5_looksMore 37 = .ok (.if_icmp .le 7, 3) := by decide +kernel
theorem dX5_looksMore_40 : decode cX5_looksMore 40 = .ok (.iconst 1, 1) := by decide +kernel
theorem dX5_looksMore_41 : decode cX5_looksMore 41 = .ok (.goto 4, 3) := by decide +kernel
theorem dX5_looksMore_44 : decode cX5_looksMore 44 = .ok (.iconst 0, 1) := by decide +kernel
theorem dX5_looksMore_45 : decode cX5_looksMore 45 = .ok (.ireturn, 1) := by decide +kernel
theorem dX5_commonDivisor_0 : decode cX5_commonDivisor 0 = .ok (.iload_n 0, 1) := by decide +kernel
theorem dX5_commonDivisor_1 : decode cX5_commonDivisor 1 = .ok (.istore_n 2, 1) := by decide +kernel
theorem dX5_commonDivisor_2 : decode cX5_commonDivisor 2 = .ok (.iload_n 1, 1) := by decide +kernel
theorem dX5_commonDivisor_3 : decode cX5_commonDivisor 3 = .ok (.istore_n 3, 1) := by decide +kernel
theorem dX5_commonDivisor_4 : decode cX5_commonDivisor 4 = .ok (.iconst 0, 1) := by decide +kernel
theorem dX5_commonDivisor_5 : decode cX5_commonDivisor 5 = .ok (.istore 4, 2) := by decide +kernel
theorem dX5_commonDivisor_7 : decode cX5_commonDivisor 7 = .ok (.iload 4, 2) := by decide +kernel
theorem dX5_commonDivisor_9 : decode cX5_commonDivisor 9 = .ok (.bipush 64, 2) := by decide +kernel
theorem dX5_commonDivisor_11 : decode cX5_commonDivisor 11 = .ok (.if_icmp .ge 23, 3) := by decide +kernel
theorem dX5_commonDivisor_14 : decode cX5_commonDivisor 14 = .ok (.iload_n 3, 1) := by decide +kernel
theorem dX5_commonDivisor_15 : decode cX5_commonDivisor 15 = .ok (.ifCond .le 19, 3) := by decide +kernel
theorem dX5_commonDivisor_18 : decode cX5_commonDivisor 18 = .ok (.iload_n 2, 1) := by decide +kernel
theorem dX5_commonDivisor_19 : decode cX5_commonDivisor 19 = .ok (.iload_n 3, 1) := by decide +kernel
theorem dX5_commonDivisor_20 : decode cX5_commonDivisor 20 = .ok (.irem, 1) := by decide +kernel
theorem dX5_commonDivisor_21 : decode cX5_commonDivisor 21 = .ok (.istore 5, 2) := by decide +kernel
theorem dX5_commonDivisor_23 : decode cX5_commonDivisor 23 = .ok (.iload_n 3, 1) := by decide +kernel
theorem dX5_commonDivisor_24 : decode cX5_commonDivisor 24 = .ok (.istore_n 2, 1) := by decide +kernel
theorem dX5_commonDivisor_25 : decode cX5_commonDivisor 25 = .ok (.iload 5, 2) := by decide +kernel
theorem dX5_commonDivisor_27 : decode cX5_commonDivisor 27 = .ok (.istore_n 3, 1) := by decide +kernel
theorem dX5_commonDivisor_28 : decode cX5_commonDivisor 28 = .ok (.iinc 4 1, 3) := by decide +kernel
theorem dX5_commonDivisor_31 : decode cX5_commonDivisor 31 = .ok (.goto (-24), 3) := by decide +kernel
theorem dX5_commonDivisor_34 : decode cX5_commonDivisor 34 = .ok (.iload_n 2, 1) := by decide +kernel
theorem dX5_commonDivisor_35 : decode cX5_commonDivisor 35 = .ok (.ireturn, 1) := by decide +kernel
theorem dX5_dawnsAs_0 : decode cX5_dawnsAs 0 = .ok (.iconst 0, 1) := by decide +kernel
theorem dX5_dawnsAs_1 : decode cX5_dawnsAs 1 = .ok (.istore 5, 2) := by decide +kernel
theorem dX5_dawnsAs_3 : decode cX5_dawnsAs 3 = .ok (.iload 5, 2) := by decide +kernel
theorem dX5_dawnsAs_5 : decode cX5_dawnsAs 5 = .ok (.iload 4, 2) := by decide +kernel
theorem dX5_dawnsAs_7 : decode cX5_dawnsAs 7 = .ok (.if_icmp .ge 42, 3) := by decide +kernel
theorem dX5_dawnsAs_10 : decode cX5_dawnsAs 10 = .ok (.aload_n 0, 1) := by decide +kernel
theorem dX5_dawnsAs_11 : decode cX5_dawnsAs 11 = .ok (.getfield 16, 3) := by decide +kernel
theorem dX5_dawnsAs_14 : decode cX5_dawnsAs 14 = .ok (.iconst 0, 1) := by decide +kernel
theorem dX5_dawnsAs_15 : decode cX5_dawnsAs 15 = .ok (.invokevirtual 160, 3) := by decide +kernel
theorem dX5_dawnsAs_18 : decode cX5_dawnsAs 18 = .ok (.aload_n 2, 1) := by decide +kernel

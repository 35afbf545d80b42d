theorem dX5_init_70 : decode cX5_init 70 = .ok (.aload_n 0, 1) := by decide +kernel
theorem dX5_init_71 : decode cX5_init 71 = .ok (.bipush 10, 2) := by decide +kernel
theorem dX5_init_73 : decode cX5_init 73 = .ok (.newarray .int, 2) := by decide +kernel
theorem dX5_init_75 : decode cX5_init 75 = .ok (.putfield 35, 3) := by decide +kernel
theorem dX5_init_78 : decode cX5_init 78 = .ok (.aload_n 0, 1) := by decide +kernel
theorem dX5_init_79 : decode cX5_init 79 = .ok (.bipush 10, 2) := by decide +kernel
theorem dX5_init_81 : decode cX5_init 81 = .ok (.newarray .int, 2) := by decide +kernel
theorem dX5_init_83 : decode cX5_init 83 = .ok (.putfield 38, 3) := by decide +kernel
theorem dX5_init_86 : decode cX5_init 86 = .ok (.aload_n 0, 1) := by decide +kernel
theorem dX5_init_87 : decode cX5_init 87 = .ok (.bipush 60, 2) := by decide +kernel
theorem dX5_init_89 : decode cX5_init 89 = .ok (.newarray .int, 2) := by decide +kernel
theorem dX5_init_91 : decode cX5_init 91 = .ok (.putfield 41, 3) := by decide +kernel
theorem dX5_init_94 : decode cX5_init 94 = .ok (.iconst 0, 1) := by decide +kernel
theorem dX5_init_95 : decode cX5_init 95 = .ok (.istore_n 1, 1) := by decide +kernel
theorem dX5_init_96 : decode cX5_init 96 = .ok (.iload_n 1, 1) := by decide +kernel
theorem dX5_init_97 : decode cX5_init 97 = .ok (.bipush 12, 2) := by decide +kernel
theorem dX5_init_99 : decode cX5_init 99 = .ok (.if_icmp .ge 16, 3) := by decide +kernel
theorem dX5_init_102 : decode cX5_init 102 = .ok (.aload_n 0, 1) := by decide +kernel
theorem dX5_init_103 : decode cX5_init 103 = .ok (.getfield 26, 3) := by decide +kernel
theorem dX5_init_106 : decode cX5_init 106 = .ok (.iload_n 1, 1) := by decide +kernel
theorem dX5_init_107 : decode cX5_init 107 = .ok (.iconst (-1), 1) := by decide +kernel
theorem dX5_init_108 : decode cX5_init 108 = .ok (.iastore, 1) := by decide +kernel
theorem dX5_init_109 : decode cX5_init 109 = .ok (.iinc 1 1, 3) := by decide +kernel
theorem dX5_init_112 : decode cX5_init 112 = .ok (.goto (-16), 3) := by decide +kernel
theorem dX5_init_115 : decode cX5_init 115 = .ok (.iconst 0, 1) := by decide +kernel
theorem dX5_init_116 : decode cX5_init 116 = .ok (.istore_n 1, 1) := by decide +kernel
theorem dX5_init_117 : decode cX5_init 117 = .ok (.iload_n 1, 1) := by decide +kernel
theorem dX5_init_118 : decode cX5_init 118 = .ok (.bipush 6, 2) := by decide +kernel
theorem dX5_init_120 : decode cX5_init 120 = .ok (.if_icmp .ge 16, 3) := by decide +kernel
theorem dX5_init_123 : decode cX5_init 123 = .ok (.aload_n 0, 1) := by decide +kernel
theorem dX5_init_124 : decode cX5_init 124 = .ok (.getfield 29, 3) := by decide +kernel
theorem dX5_init_127 : decode cX5_init 127 = .ok (.iload_n 1, 1) := by decide +kernel
theorem dX5_init_128 : decode cX5_init 128 = .ok (.iconst (-1), 1) := by decide +kernel
theorem dX5_init_129 : decode cX5_init 129 = .ok (.iastore, 1) := by decide +kernel
theorem dX5_init_130 : decode cX5_init 130 = .ok (.iinc 1 1, 3) := by decide +kernel
theorem dX5_init_133 : decode cX5_init 133 = .ok (.goto (-16), 3) := by decide +kernel
theorem dX5_init_136 : decode cX5_init 136 = .ok (.return_, 1) := by decide +kernel
theorem dX5_isIn_0 : decode cX5_isIn 0 = .ok (.iload_n 0, 1) := by decide +kernel
theorem dX5_isIn_1 : decode cX5_isIn 1 = .ok (.iload_n 1, 1) := by decide +kernel
theorem dX5_isIn_2 : decode cX5_isIn 2 = .ok (.if_icmp .lt 12, 3) := by decide +kernel
theorem dX5_isIn_5 : decode cX5_isIn 5 = .ok (.iload_n 0, 1) := by decide +kernel
theorem dX5_isIn_6 : decode cX5_isIn 6 = .ok (.iload_n 2, 1) := by decide +kernel
theorem dX5_isIn_7 : decode cX5_isIn 7 = .ok (.if_icmp .gt 7, 3) := by decide +kernel
theorem dX5_isIn_10 : decode cX5_isIn 10 = .ok (.iconst 1, 1) := by decide +kernel
theorem dX5_isIn_11 : decode cX5_isIn 11 = .ok (.goto 4, 3) := by decide +kernel
theorem dX5_isIn_14 : decode cX5_isIn 14 = .ok (.iconst 0, 1) := by decide +kernel
theorem dX5_isIn_15 : decode cX5_isIn 15 = .ok (.ireturn, 1) := by decide +kernel
theorem dX5_isLoad_0 : decode cX5_isLoad 0 = .ok (.iload_n 1, 1) := by decide +kernel
theorem dX5_isLoad_1 : decode cX5_isLoad 1 = .ok (.iconst 0, 1) := by decide +kernel
theorem dX5_isLoad_2 : decode cX5_isLoad 2 = .ok (.aload_n 0, 1) := by decide +kernel
theorem dX5_isLoad_3 : decode cX5_isLoad 3 = .ok (.getfield 44, 3) := by decide +kernel
theorem dX5_isLoad_6 : decode cX5_isLoad 6 = .ok (.iconst 1, 1) := by decide +kernel
theorem dX5_isLoad_7 : decode cX5_isLoad 7 = .ok (.isub, 1) := by decide +kernel
theorem dX5_isLoad_8 : decode cX5_isLoad 8 = .ok (.invokestatic 48, 3) := by decide +kernel
theorem dX5_isLoad_11 : decode cX5_isLoad 11 = .ok (.ireturn, 1) := by decide +kernel
theorem dX5_isView_0 : decode cX5_isView 0 = .ok (.iload_n 0, 1) := by decide +kernel
theorem dX5_isView_1 : decode cX5_isView 1 = .ok (.iconst 0, 1) := by decide +kernel
theorem dX5_isView_2 : decode cX5_isView 2 = .ok (.bipush 13, 2) := by decide +kernel
theorem dX5_isView_4 : decode cX5_isView 4 = .ok (.invokestatic 48, 3) := by decide +kernel
theorem dX5_isView_7 : decode cX5_isView 7 = .ok (.ireturn, 1) := by decide +kernel
theorem dX5_no_0 : decode cX5_no 0 = .ok (.aload_n 0, 1) := by decide +kernel
theorem dX5_no_1 : decode cX5_no 1 = .ok (.iload_n 1, 1) := by decide +kernel
theorem dX5_no_2 : decode cX5_no 2 = .ok (.putfield 52, 3) := by decide +kernel
theorem dX5_no_5 : decode cX5_no 5 = .ok (.aload_n 0, 1) := by decide +kernel
theorem dX5_no_6 : decode cX5_no 6 = .ok (.dup, 1) := by decide +kernel
theorem dX5_no_7 : decode cX5_no 7 = .ok (.getfield 55, 3) := by decide +kernel
theorem dX5_no_10 : decode cX5_no 10 = .ok (.iload_n 1, 1) := by decide +kernel
theorem dX5_no_11 : decode cX5_no 11 = .ok (.bipush (-4), 2) := by decide +kernel
theorem dX5_no_13 : decode cX5_no 13 = .ok (.if_icmp .ne 7, 3) := by decide +kernel
theorem dX5_no_16 : decode cX5_no 16 = .ok (.iconst 1, 1) := by decide +kernel
theorem dX5_no_17 : decode cX5_no 17 = .ok (.goto 4, 3) := by decide +kernel
theorem dX5_no_20 : decode cX5_no 20 = .ok (.iconst 0, 1) := by decide +kernel
theorem dX5_no_21 : decode cX5_no 21 = .ok (.iadd, 1) := by decide +kernel
theorem dX5_no_22 : decode cX5_no 22 = .ok (.putfield 55, 3) := by decide +kernel
theorem dX5_no_25 : decode cX5_no 25 = .ok (.aload_n 0, 1) := by decide +kernel
theorem dX5_no_26 : decode cX5_no 26 = .ok (.dup, 1) := by decide +kernel
theorem dX5_no_27 : decode cX5_no 27 = .ok (.getfield 58, 3) := by decide +kernel
theorem dX5_no_30 : decode cX5_no 30 = .ok (.iload_n 1, 1) := by decide +kernel
theorem dX5_no_31 : decode cX5_no 31 = .ok (.bipush (-5), 2) := by decide +kernel
theorem dX5_no_33 : decode cX5_no 33 = .ok (.if_icmp .ne 7, 3) := by decide +kernel
theorem dX5_no_36 : decode cX5_no 36 = .ok (.iconst 1, 1) := by decide +kernel
theorem dX5_no_37 : decode cX5_no 37 = .ok (.goto 4, 3) := by decide +kernel
theorem dX5_no_40 : decode cX5_no 40 = .ok (.iconst 0, 1) := by decide +kernel
theorem dX5_no_41 : decode cX5_no 41 = .ok (.iadd, 1) := by decide +kernel
theorem dX5_no_42 : decode cX5_no 42 = .ok (.putfield 58, 3) := by decide +kernel
theorem dX5_no_45 : decode cX5_no 45 = .ok (.aload_n 0, 1) := by decide +kernel
theorem dX5_no_46 : decode cX5_no 46 = .ok (.dup, 1) := by decide +kernel
theorem dX5_no_47 : decode cX5_no 47 = .ok (.getfield 61, 3) := by decide +kernel
theorem dX5_no_50 : decode cX5_no 50 = .ok (.iload_n 1, 1) := by decide +kernel
theorem dX5_no_51 : decode cX5_no 51 = .ok (.bipush (-6), 2) := by decide +kernel
theorem dX5_no_53 : decode cX5_no 53 = .ok (.if_icmp .ne 7, 3) := by decide +kernel
theorem dX5_no_56 : decode cX5_no 56 = .ok (.iconst 1, 1) := by decide +kernel
theorem dX5_no_57 : decode cX5_no 57 = .ok (.goto 4, 3) := by decide +kernel
theorem dX5_no_60 : decode cX5_no 60 = .ok (.iconst 0, 1) := by decide +kernel
theorem dX5_no_61 : decode cX5_no 61 = .ok (.iadd, 1) := by decide +kernel
theorem dX5_no_62 : decode cX5_no 62 = .ok (.putfield 61, 3) := by decide +kernel
theorem dX5_no_65 : decode cX5_no 65 = .ok (.iload_n 1, 1) := by decide +kernel
theorem dX5_no_66 : decode cX5_no 66 = .ok (.ireturn, 1) := by decide +kernel
theorem dX5_goes_0 : decode cX5_goes 0 = .ok (.iload_n 0, 1) := by decide +kernel
theorem dX5_goes_1 : decode cX5_goes 1 = .ok (.iload_n 1, 1) := by decide +kernel
theorem dX5_goes_2 : decode cX5_goes 2 = .ok (.if_icmp .ne 5, 3) := by decide +kernel
theorem dX5_goes_5 : decode cX5_goes 5 = .ok (.iconst 1, 1) := by decide +kernel
theorem dX5_goes_6 : decode cX5_goes 6 = .ok (.ireturn, 1) := by decide +kernel
theorem dX5_goes_7 : decode cX5_goes 7 = .ok (.iload_n 0, 1) := by decide +kernel
theorem dX5_goes_8 : decode cX5_goes 8 = .ok (.tableswitch 109 5 11 #[44, 61, 109, 73, 109, 109, 91], 44) := by decide +kernel
theorem dX5_goes_52 : decode cX5_goes 52 = .ok (.iload_n 1, 1) := by decide +kernel
theorem dX5_goes_53 : decode cX5_goes 53 = .ok (.iconst 4, 1) := by decide +kernel
theorem dX5_goes_54 : decode cX5_goes 54 = .ok (.if_icmp .eq 9, 3) := by decide +kernel
theorem dX5_goes_57 : decode cX5_goes 57 = .ok (.iload_n 1, 1) := by decide +kernel
theorem dX5_goes_58 : decode cX5_goes 58 = .ok (.bipush 13, 2) := by decide +kernel
theorem dX5_goes_60 : decode cX5_goes 60 = .ok (.if_icmp .ne 7, 3) := by decide +kernel
theorem dX5_goes_63 : decode cX5_goes 63 = .ok (.iconst 1, 1) := by decide +kernel
theorem dX5_goes_64 : decode cX5_goes 64 = .ok (.goto 4, 3) := by decide +kernel
theorem dX5_goes_67 : decode cX5_goes 67 = .ok (.iconst 0, 1) := by decide +kernel
theorem dX5_goes_68 : decode cX5_goes 68 = .ok (.ireturn, 1) := by decide +kernel
theorem dX5_goes_69 : decode cX5_goes 69 = .ok (.iload_n 1, 1) := by decide +kernel
theorem dX5_goes_70 : decode cX5_goes 70 = .ok (.bipush 13, 2) := by decide +kernel
theorem dX5_goes_72 : decode cX5_goes 72 = .ok (.if_icmp .ne 7, 3) := by decide +kernel
theorem dX5_goes_75 : decode cX5_goes 75 = .ok (.iconst 1, 1) := by decide +kernel
theorem dX5_goes_76 : decode cX5_goes 76 = .ok (.goto 4, 3) := by decide +kernel
theorem dX5_goes_79 : decode cX5_goes 79 = .ok (.iconst 0, 1) := by decide +kernel
theorem dX5_goes_80 : decode cX5_goes 80 = .ok (.ireturn, 1) := by decide +kernel
theorem dX5_goes_81 : decode cX5_goes 81 = .ok (.iload_n 1, 1) := by decide +kernel
theorem dX5_goes_82 : decode cX5_goes 82 = .ok (.bipush 7, 2) := by decide +kernel
theorem dX5_goes_84 : decode cX5_goes 84 = .ok (.if_icmp .eq 9, 3) := by decide +kernel
theorem dX5_goes_87 : decode cX5_goes 87 = .ok (.iload_n 1, 1) := by decide +kernel
theorem dX5_goes_88 : decode cX5_goes 88 = .ok (.bipush 9, 2) := by decide +kernel
theorem dX5_goes_90 : decode cX5_goes 90 = .ok (.if_icmp .ne 7, 3) := by decide +kernel
theorem dX5_goes_93 : decode cX5_goes 93 = .ok (.iconst 1, 1) := by decide +kernel
theorem dX5_goes_94 : decode cX5_goes 94 = .ok (.goto 4, 3) := by decide +kernel
theorem dX5_goes_97 : decode cX5_goes 97 = .ok (.iconst 0, 1) := by decide +kernel
theorem dX5_goes_98 : decode cX5_goes 98 = .ok (.ireturn, 1) := by decide +kernel
theorem dX5_goes_99 : decode cX5_goes 99 = .ok (.iload_n 1, 1) := by decide +kernel
theorem dX5_goes_100 : decode cX5_goes 100 = .ok (.bipush 10, 2) := by decide +kernel
theorem dX5_goes_102 : decode cX5_goes 102 = .ok (.if_icmp .eq 9, 3) := by decide +kernel
theorem dX5_goes_105 : decode cX5_goes 105 = .ok (.iload_n 1, 1) := by decide +kernel
theorem dX5_goes_106 : decode cX5_goes 106 = .ok (.bipush 12, 2) := by decide +kernel
theorem dX5_goes_108 : decode cX5_goes 108 = .ok (.if_icmp .ne 7, 3) := by decide +kernel
theorem dX5_goes_111 : decode cX5_goes 111 = .ok (.iconst 1, 1) := by decide +kernel
theorem dX5_goes_112 : decode cX5_goes 112 = .ok (.goto 4, 3) := by decide +kernel
theorem dX5_goes_115 : decode cX5_goes 115 = .ok (.iconst 0, 1) := by decide +kernel
theorem dX5_goes_116 : decode cX5_goes 116 = .ok (.ireturn, 1) := by decide +kernel
theorem dX5_goes_117 : decode cX5_goes 117 = .ok (.iconst 0, 1) := by decide +kernel
theorem dX5_goes_118 : decode cX5_goes 118 = .ok (.ireturn, 1) := by decide +kernel
theorem dX5_isSingle_0 : decode cX5_isSingle 0 = .ok (.iload_n 0, 1) := by decide +kernel
theorem dX5_isSingle_1 : decode cX5_isSingle 1 = .ok (.iconst 4, 1) := by decide +kernel
theorem dX5_isSingle_2 : decode cX5_isSingle 2 = .ok (.bipush 6, 2) := by decide +kernel
theorem dX5_isSingle_4 : decode cX5_isSingle 4 = .ok (.invokestatic 48, 3) := by decide +kernel
theorem dX5_isSingle_7 : decode cX5_isSingle 7 = .ok (.ireturn, 1) := by decide +kernel
theorem dX5_isOfNumbers_0 : decode cX5_isOfNumbers 0 = .ok (.iload_n 0, 1) := by decide +kernel
theorem dX5_isOfNumbers_1 : decode cX5_isOfNumbers 1 = .ok (.iconst 0, 1) := by decide +kernel
theorem dX5_isOfNumbers_2 : decode cX5_isOfNumbers 2 = .ok (.iconst 2, 1) := by decide +kernel
theorem dX5_isOfNumbers_3 : decode cX5_isOfNumbers 3 = .ok (.invokestatic 48, 3) := by decide +kernel
theorem dX5_isOfNumbers_6 : decode cX5_isOfNumbers 6 = .ok (.ireturn, 1) := by decide +kernel
theorem dX5_isOfThings_0 : decode cX5_isOfThings 0 = .ok (.iload_n 0, 1) := by decide +kernel
theorem dX5_isOfThings_1 : decode cX5_isOfThings 1 = .ok (.iconst 3, 1) := by decide +kernel
theorem dX5_isOfThings_2 : decode cX5_isOfThings 2 = .ok (.if_icmp .eq 14, 3) := by decide +kernel
theorem dX5_isOfThings_5 : decode cX5_isOfThings 5 = .ok (.iload_n 0, 1) := by decide +kernel
theorem dX5_isOfThings_6 : decode cX5_isOfThings 6 = .ok (.bipush 7, 2) := by decide +kernel
theorem dX5_isOfThings_8 : decode cX5_isOfThings 8 = .ok (.bipush 12, 2) := by decide +kernel
theorem dX5_isOfThings_10 : decode cX5_isOfThings 10 = .ok (.invokestatic 48, 3) := by decide +kernel
theorem dX5_isOfThings_13 : decode cX5_isOfThings 13 = .ok (.ifCond .eq 7, 3) := by decide +kernel
theorem dX5_isOfThings_16 : decode cX5_isOfThings 16 = .ok (.iconst 1, 1) := by decide +kernel
theorem dX5_isOfThings_17 : decode cX5_isOfThings 17 = .ok (.goto 4, 3) := by decide +kernel
theorem dX5_isOfThings_20 : decode cX5_isOfThings 20 = .ok (.iconst 0, 1) := by decide +kernel
theorem dX5_isOfThings_21 : decode cX5_isOfThings 21 = .ok (.ireturn, 1) := by decide +kernel
theorem dX5_load_0 : decode cX5_load 0 = .ok (.aload_n 0, 1) := by decide +kernel
theorem dX5_load_1 : decode cX5_load 1 = .ok (.iconst 0, 1) := by decide +kernel
theorem dX5_load_2 : decode cX5_load 2 = .ok (.putfield 52, 3) := by decide +kernel
theorem dX5_load_5 : decode cX5_load 5 = .ok (.iload_n 1, 1) := by decide +kernel
theorem dX5_load_6 : decode cX5_load 6 = .ok (.iconst 0, 1) := by decide +kernel
theorem dX5_load_7 : decode cX5_load 7 = .ok (.bipush 12, 2) := by decide +kernel
theorem dX5_load_9 : decode cX5_load 9 = .ok (.invokestatic 48, 3) := by decide +kernel
theorem dX5_load_12 : decode cX5_load 12 = .ok (.ifCond .eq 26, 3) := by decide +kernel
theorem dX5_load_15 : decode cX5_load 15 = .ok (.iload_n 2, 1) := by decide +kernel
theorem dX5_load_16 : decode cX5_load 16 = .ok (.iconst 0, 1) := by decide +kernel
theorem dX5_load_17 : decode cX5_load 17 = .ok (.iload_n 1, 1) := by decide +kernel
theorem dX5_load_18 : decode cX5_load 18 = .ok (.invokestatic 64, 3) := by decide +kernel
theorem dX5_load_21 : decode cX5_load 21 = .ok (.ifCond .eq 9, 3) := by decide +kernel
theorem dX5_load_24 : decode cX5_load 24 = .ok (.sipush 1000, 3) := by decide +kernel
theorem dX5_load_27 : decode cX5_load 27 = .ok (.goto 5, 3) := by decide +kernel
theorem dX5_load_30 : decode cX5_load 30 = .ok (.bipush 6, 2) := by decide +kernel
theorem dX5_load_32 : decode cX5_load 32 = .ok (.invokestatic 48, 3) := by decide +kernel
theorem dX5_load_35 : decode cX5_load 35 = .ok (.ifCond .ne 10, 3) := by decide +kernel
theorem dX5_load_38 : decode cX5_load 38 = .ok (.aload_n 0, 1) := by decide +kernel
theorem dX5_load_39 : decode cX5_load 39 = .ok (.bipush (-2), 2) := by decide +kernel
theorem dX5_load_41 : decode cX5_load 41 = .ok (.invokevirtual 68, 3) := by decide +kernel
theorem dX5_load_44 : decode cX5_load 44 = .ok (.ireturn, 1) := by decide +kernel
theorem dX5_load_45 : decode cX5_load 45 = .ok (.aload_n 0, 1) := by decide +kernel
theorem dX5_load_46 : decode cX5_load 46 = .ok (.getfield 44, 3) := by decide +kernel
theorem dX5_load_49 : decode cX5_load 49 = .ok (.bipush 80, 2) := by decide +kernel
theorem dX5_load_51 : decode cX5_load 51 = .ok (.if_icmp .ne 10, 3) := by decide +kernel
theorem dX5_load_54 : decode cX5_load 54 = .ok (.aload_n 0, 1) := by decide +kernel
theorem dX5_load_55 : decode cX5_load 55 = .ok (.bipush (-3), 2) := by decide +kernel
theorem dX5_load_57 : decode cX5_load 57 = .ok (.invokevirtual 68, 3) := by decide +kernel
theorem dX5_load_60 : decode cX5_load 60 = .ok (.ireturn, 1) := by decide +kernel
theorem dX5_load_61 : decode cX5_load 61 = .ok (.aload_n 0, 1) := by decide +kernel
theorem dX5_load_62 : decode cX5_load 62 = .ok (.getfield 7, 3) := by decide +kernel
theorem dX5_load_65 : decode cX5_load 65 = .ok (.aload_n 0, 1) := by decide +kernel
theorem dX5_load_66 : decode cX5_load 66 = .ok (.getfield 44, 3) := by decide +kernel
theorem dX5_load_69 : decode cX5_load 69 = .ok (.iload_n 1, 1) := by decide +kernel
theorem dX5_load_70 : decode cX5_load 70 = .ok (.iastore, 1) := by decide +kernel
theorem dX5_load_71 : decode cX5_load 71 = .ok (.aload_n 0, 1) := by decide +kernel
theorem dX5_load_72 : decode cX5_load 72 = .ok (.getfield 13, 3) := by decide +kernel
theorem dX5_load_75 : decode cX5_load 75 = .ok (.aload_n 0, 1) := by decide +kernel
theorem dX5_load_76 : decode cX5_load 76 = .ok (.getfield 44, 3) := by decide +kernel
theorem dX5_load_79 : decode cX5_load 79 = .ok (.iload_n 1, 1) := by decide +kernel
theorem dX5_load_80 : decode cX5_load 80 = .ok (.invokestatic 64, 3) := by decide +kernel
theorem dX5_load_83 : decode cX5_load 83 = .ok (.ifCond .eq 7, 3) := by decide +kernel
theorem dX5_load_86 : decode cX5_load 86 = .ok (.iconst 0, 1) := by decide +kernel
theorem dX5_load_87 : decode cX5_load 87 = .ok (.goto 4, 3) := by decide +kernel
theorem dX5_load_90 : decode cX5_load 90 = .ok (.iload_n 2, 1) := by decide +kernel
theorem dX5_load_91 : decode cX5_load 91 = .ok (.iastore, 1) := by decide +kernel
theorem dX5_load_92 : decode cX5_load 92 = .ok (.aload_n 0, 1) := by decide +kernel
theorem dX5_load_93 : decode cX5_load 93 = .ok (.getfield 16, 3) := by decide +kernel
theorem dX5_load_96 : decode cX5_load 96 = .ok (.aload_n 0, 1) := by decide +kernel
theorem dX5_load_97 : decode cX5_load 97 = .ok (.getfield 44, 3) := by decide +kernel
theorem dX5_load_100 : decode cX5_load 100 = .ok (.iload_n 1, 1) := by decide +kernel
theorem dX5_load_101 : decode cX5_load 101 = .ok (.invokestatic 64, 3) := by decide +kernel
theorem dX5_load_104 : decode cX5_load 104 = .ok (.ifCond .eq 7, 3) := by decide +kernel
theorem dX5_load_107 : decode cX5_load 107 = .ok (.iload_n 2, 1) := by decide +kernel
theorem dX5_load_108 : decode cX5_load 108 = .ok (.goto 4, 3) := by decide +kernel
theorem dX5_load_111 : decode cX5_load 111 = .ok (.iconst 0, 1) := by decide +kernel
theorem dX5_load_112 : decode cX5_load 112 = .ok (.iastore, 1) := by decide +kernel
theorem dX5_load_113 : decode cX5_load 113 = .ok (.iconst 0, 1) := by decide +kernel
theorem dX5_load_114 : decode cX5_load 114 = .ok (.istore_n 3, 1) := by decide +kernel
theorem dX5_load_115 : decode cX5_load 115 = .ok (.iload_n 3, 1) := by decide +kernel
theorem dX5_load_116 : decode cX5_load 116 = .ok (.bipush 6, 2) := by decide +kernel
theorem dX5_load_118 : decode cX5_load 118 = .ok (.if_icmp .ge 39, 3) := by decide +kernel
theorem dX5_load_121 : decode cX5_load 121 = .ok (.aload_n 0, 1) := by decide +kernel
theorem dX5_load_122 : decode cX5_load 122 = .ok (.getfield 19, 3) := by decide +kernel
theorem dX5_load_125 : decode cX5_load 125 = .ok (.bipush 6, 2) := by decide +kernel
theorem dX5_load_127 : decode cX5_load 127 = .ok (.aload_n 0, 1) := by decide +kernel
theorem dX5_load_128 : decode cX5_load 128 = .ok (.getfield 44, 3) := by decide +kernel
theorem dX5_load_131 : decode cX5_load 131 = .ok (.imul, 1) := by decide +kernel
theorem dX5_load_132 : decode cX5_load 132 = .ok (.iload_n 3, 1) := by decide +kernel
theorem dX5_load_133 : decode cX5_load 133 = .ok (.iadd, 1) := by decide +kernel
theorem dX5_load_134 : decode cX5_load 134 = .ok (.lconst 0, 1) := by decide +kernel
theorem dX5_load_135 : decode cX5_load 135 = .ok (.lastore, 1) := by decide +kernel
theorem dX5_load_136 : decode cX5_load 136 = .ok (.aload_n 0, 1) := by decide +kernel
theorem dX5_load_137 : decode cX5_load 137 = .ok (.getfield 23, 3) := by decide +kernel
theorem dX5_load_140 : decode cX5_load 140 = .ok (.bipush 6, 2) := by decide +kernel
theorem dX5_load_142 : decode cX5_load 142 = .ok (.aload_n 0, 1) := by decide +kernel
theorem dX5_load_143 : decode cX5_load 143 = .ok (.getfield 44, 3) := by decide +kernel
theorem dX5_load_146 : decode cX5_load 146 = .ok (.imul, 1) := by decide +kernel
theorem dX5_load_147 : decode cX5_load 147 = .ok (.iload_n 3, 1) := by decide +kernel
theorem dX5_load_148 : decode cX5_load 148 = .ok (.iadd, 1) := by decide +kernel
theorem dX5_load_149 : decode cX5_load 149 = .ok (.iconst (-1), 1) := by decide +kernel
theorem dX5_load_150 : decode cX5_load 150 = .ok (.iastore, 1) := by decide +kernel
theorem dX5_load_151 : decode cX5_load 151 = .ok (.iinc 3 1, 3) := by decide +kernel
theorem dX5_load_154 : decode cX5_load 154 = .ok (.goto (-39), 3) := by decide +kernel
theorem dX5_load_157 : decode cX5_load 157 = .ok (.aload_n 0, 1) := by decide +kernel
theorem dX5_load_158 : decode cX5_load 158 = .ok (.dup, 1) := by decide +kernel
theorem dX5_load_159 : decode cX5_load 159 = .ok (.getfield 44, 3) := by decide +kernel
theorem dX5_load_162 : decode cX5_load 162 = .ok (.iconst 1, 1) := by decide +kernel
theorem dX5_load_163 : decode cX5_load 163 = .ok (.iadd, 1) := by decide +kernel
theorem dX5_load_164 : decode cX5_load 164 = .ok (.putfield 44, 3) := by decide +kernel
theorem dX5_load_167 : decode cX5_load 167 = .ok (.aload_n 0, 1) := by decide +kernel
theorem dX5_load_168 : decode cX5_load 168 = .ok (.getfield 44, 3) := by decide +kernel
theorem dX5_load_171 : decode cX5_load 171 = .ok (.iconst 1, 1) := by decide +kernel
theorem dX5_load_172 : decode cX5_load 172 = .ok (.isub, 1) := by decide +kernel
theorem dX5_load_173 : decode cX5_load 173 = .ok (.ireturn, 1) := by decide +kernel
theorem dX5_isPlace_0 : decode cX5_isPlace 0 = .ok (.iload_n 2, 1) := by decide +kernel
theorem dX5_isPlace_1 : decode cX5_isPlace 1 = .ok (.iconst 0, 1) := by decide +kernel
theorem dX5_isPlace_2 : decode cX5_isPlace 2 = .ok (.aload_n 0, 1) := by decide +kernel
theorem dX5_isPlace_3 : decode cX5_isPlace 3 = .ok (.getfield 13, 3) := by decide +kernel
theorem dX5_isPlace_6 : decode cX5_isPlace 6 = .ok (.iload_n 1, 1) := by decide +kernel
theorem dX5_isPlace_7 : decode cX5_isPlace 7 = .ok (.iaload, 1) := by decide +kernel
theorem dX5_isPlace_8 : decode cX5_isPlace 8 = .ok (.iconst 1, 1) := by decide +kernel
theorem dX5_isPlace_9 : decode cX5_isPlace 9 = .ok (.isub, 1) := by decide +kernel
theorem dX5_isPlace_10 : decode cX5_isPlace 10 = .ok (.invokestatic 48, 3) := by decide +kernel
theorem dX5_isPlace_13 : decode cX5_isPlace 13 = .ok (.ireturn, 1) := by decide +kernel
theorem dX5_set_0 : decode cX5_set 0 = .ok (.aload_n 0, 1) := by decide +kernel
theorem dX5_set_1 : decode cX5_set 1 = .ok (.iconst 0, 1) := by decide +kernel
theorem dX5_set_2 : decode cX5_set 2 = .ok (.putfield 52, 3) := by decide +kernel
theorem dX5_set_5 : decode cX5_set 5 = .ok (.aload_n 0, 1) := by decide +kernel
theorem dX5_set_6 : decode cX5_set 6 = .ok (.iload_n 1, 1) := by decide +kernel
theorem dX5_set_7 : decode cX5_set 7 = .ok (.invokevirtual 72, 3) := by decide +kernel
theorem dX5_set_10 : decode cX5_set 10 = .ok (.ifCond .ne 10, 3) := by decide +kernel
theorem dX5_set_13 : decode cX5_set 13 = .ok (.aload_n 0, 1) := by decide +kernel
theorem dX5_set_14 : decode cX5_set 14 = .ok (.bipush (-2), 2) := by decide +kernel
theorem dX5_set_16 : decode cX5_set 16 = .ok (.invokevirtual 68, 3) := by decide +kernel
theorem dX5_set_19 : decode cX5_set 19 = .ok (.ireturn, 1) := by decide +kernel
theorem dX5_set_20 : decode cX5_set 20 = .ok (.aload_n 0, 1) := by decide +kernel
theorem dX5_set_21 : decode cX5_set 21 = .ok (.getfield 7, 3) := by decide +kernel
theorem dX5_set_24 : decode cX5_set 24 = .ok (.iload_n 1, 1) := by decide +kernel
theorem dX5_set_25 : decode cX5_set 25 = .ok (.iaload, 1) := by decide +kernel
theorem dX5_set_26 : decode cX5_set 26 = .ok (.invokestatic 75, 3) := by decide +kernel
theorem dX5_set_29 : decode cX5_set 29 = .ok (.ifCond .ne 10, 3) := by decide +kernel
theorem dX5_set_32 : decode cX5_set 32 = .ok (.aload_n 0, 1) := by decide +kernel
theorem dX5_set_33 : decode cX5_set 33 = .ok (.bipush (-4), 2) := by decide +kernel
theorem dX5_set_35 : decode cX5_set 35 = .ok (.invokevirtual 68, 3) := by decide +kernel
theorem dX5_set_38 : decode cX5_set 38 = .ok (.ireturn, 1) := by decide +kernel
theorem dX5_set_39 : decode cX5_set 39 = .ok (.aload_n 0, 1) := by decide +kernel
theorem dX5_set_40 : decode cX5_set 40 = .ok (.iload_n 1, 1) := by decide +kernel
theorem dX5_set_41 : decode cX5_set 41 = .ok (.iload_n 2, 1) := by decide +kernel
theorem dX5_set_42 : decode cX5_set 42 = .ok (.invokevirtual 78, 3) := by decide +kernel
theorem dX5_set_45 : decode cX5_set 45 = .ok (.ifCond .ne 10, 3) := by decide +kernel
theorem dX5_set_48 : decode cX5_set 48 = .ok (.aload_n 0, 1) := by decide +kernel
theorem dX5_set_49 : decode cX5_set 49 = .ok (.bipush (-5), 2) := by decide +kernel
theorem dX5_set_51 : decode cX5_set 51 = .ok (.invokevirtual 68, 3) := by decide +kernel
theorem dX5_set_54 : decode cX5_set 54 = .ok (.ireturn, 1) := by decide +kernel
theorem dX5_set_55 : decode cX5_set 55 = .ok (.aload_n 0, 1) := by decide +kernel
theorem dX5_set_56 : decode cX5_set 56 = .ok (.getfield 19, 3) := by decide +kernel
theorem dX5_set_59 : decode cX5_set 59 = .ok (.bipush 6, 2) := by decide +kernel
theorem dX5_set_61 : decode cX5_set 61 = .ok (.iload_n 1, 1) := by decide +kernel
theorem dX5_set_62 : decode cX5_set 62 = .ok (.imul, 1) := by decide +kernel
theorem dX5_set_63 : decode cX5_set 63 = .ok (.iload_n 2, 1) := by decide +kernel
theorem dX5_set_64 : decode cX5_set 64 = .ok (.iadd, 1) := by decide +kernel
theorem dX5_set_65 : decode cX5_set 65 = .ok (.aload_n 0, 1) := by decide +kernel
theorem dX5_set_66 : decode cX5_set 66 = .ok (.getfield 7, 3) := by decide +kernel
theorem dX5_set_69 : decode cX5_set 69 = .ok (.iload_n 1, 1) := by decide +kernel
theorem dX5_set_70 : decode cX5_set 70 = .ok (.iaload, 1) := by decide +kernel
theorem dX5_set_71 : decode cX5_set 71 = .ok (.iconst 1, 1) := by decide +kernel
theorem dX5_set_72 : decode cX5_set 72 = .ok (.if_icmp .ne 9, 3) := by decide +kernel
theorem dX5_set_75 : decode cX5_set 75 = .ok (.iload_n 3, 1) := by decide +kernel
theorem dX5_set_76 : decode cX5_set 76 = .ok (.i2b, 1) := by decide +kernel
theorem dX5_set_77 : decode cX5_set 77 = .ok (.i2l, 1) := by decide +kernel
theorem dX5_set_78 : decode cX5_set 78 = .ok (.goto 5, 3) := by decide +kernel
theorem dX5_set_81 : decode cX5_set 81 = .ok (.iload_n 3, 1) := by decide +kernel
theorem dX5_set_82 : decode cX5_set 82 = .ok (.i2l, 1) := by decide +kernel
theorem dX5_set_83 : decode cX5_set 83 = .ok (.lastore, 1) := by decide +kernel
theorem dX5_set_84 : decode cX5_set 84 = .ok (.iconst 1, 1) := by decide +kernel
theorem dX5_set_85 : decode cX5_set 85 = .ok (.ireturn, 1) := by decide +kernel
theorem dX5_number_0 : decode cX5_number 0 = .ok (.aload_n 0, 1) := by decide +kernel
theorem dX5_number_1 : decode cX5_number 1 = .ok (.iconst 0, 1) := by decide +kernel
theorem dX5_number_2 : decode cX5_number 2 = .ok (.putfield 52, 3) := by decide +kernel
theorem dX5_number_5 : decode cX5_number 5 = .ok (.aload_n 0, 1) := by decide +kernel
theorem dX5_number_6 : decode cX5_number 6 = .ok (.iload_n 1, 1) := by decide +kernel
theorem dX5_number_7 : decode cX5_number 7 = .ok (.invokevirtual 72, 3) := by decide +kernel
theorem dX5_number_10 : decode cX5_number 10 = .ok (.ifCond .ne 8, 3) := by decide +kernel
theorem dX5_number_13 : decode cX5_number 13 = .ok (.bipush (-2), 2) := by decide +kernel
theorem dX5_number_15 : decode cX5_number 15 = .ok (.goto 35, 3) := by decide +kernel
theorem dX5_number_18 : decode cX5_number 18 = .ok (.aload_n 0, 1) := by decide +kernel
theorem dX5_number_19 : decode cX5_number 19 = .ok (.getfield 7, 3) := by decide +kernel
theorem dX5_number_22 : decode cX5_number 22 = .ok (.iload_n 1, 1) := by decide +kernel
theorem dX5_number_23 : decode cX5_number 23 = .ok (.iaload, 1) := by decide +kernel
theorem dX5_number_24 : decode cX5_number 24 = .ok (.invokestatic 75, 3) := by decide +kernel
theorem dX5_number_27 : decode cX5_number 27 = .ok (.ifCond .ne 8, 3) := by decide +kernel
theorem dX5_number_30 : decode cX5_number 30 = .ok (.bipush (-4), 2) := by decide +kernel
theorem dX5_number_32 : decode cX5_number 32 = .ok (.goto 18, 3) := by decide +kernel
theorem dX5_number_35 : decode cX5_number 35 = .ok (.aload_n 0, 1) := by decide +kernel
theorem dX5_number_36 : decode cX5_number 36 = .ok (.iload_n 1, 1) := by decide +kernel
theorem dX5_number_37 : decode cX5_number 37 = .ok (.iload_n 2, 1) := by decide +kernel
theorem dX5_number_38 : decode cX5_number 38 = .ok (.invokevirtual 78, 3) := by decide +kernel
theorem dX5_number_41 : decode cX5_number 41 = .ok (.ifCond .ne 8, 3) := by decide +kernel
theorem dX5_number_44 : decode cX5_number 44 = .ok (.bipush (-5), 2) := by decide +kernel
theorem dX5_number_46 : decode cX5_number 46 = .ok (.goto 4, 3) := by decide +kernel
theorem dX5_number_49 : decode cX5_number 49 = .ok (.iconst 0, 1) := by decide +kernel
theorem dX5_number_50 : decode cX5_number 50 = .ok (.istore_n 3, 1) := by decide +kernel
theorem dX5_number_51 : decode cX5_number 51 = .ok (.iload_n 3, 1) := by decide +kernel
theorem dX5_number_52 : decode cX5_number 52 = .ok (.ifCond .eq 11, 3) := by decide +kernel
theorem dX5_number_55 : decode cX5_number 55 = .ok (.aload_n 0, 1) := by decide +kernel
theorem dX5_number_56 : decode cX5_number 56 = .ok (.iload_n 3, 1) := by decide +kernel
theorem dX5_number_57 : decode cX5_number 57 = .ok (.invokevirtual 68, 3) := by decide +kernel
theorem dX5_number_60 : decode cX5_number 60 = .ok (.istore_n 3, 1) := by decide +kernel
theorem dX5_number_61 : decode cX5_number 61 = .ok (.lconst 0, 1) := by decide +kernel
theorem dX5_number_62 : decode cX5_number 62 = .ok (.lreturn, 1) := by decide +kernel
theorem dX5_number_63 : decode cX5_number 63 = .ok (.aload_n 0, 1) := by decide +kernel
theorem dX5_number_64 : decode cX5_number 64 = .ok (.getfield 19, 3) := by decide +kernel
theorem dX5_number_67 : decode cX5_number 67 = .ok (.bipush 6, 2) := by decide +kernel
theorem dX5_number_69 : decode cX5_number 69 = .ok (.iload_n 1, 1) := by decide +kernel
theorem dX5_number_70 : decode cX5_number 70 = .ok (.imul, 1) := by decide +kernel
theorem dX5_number_71 : decode cX5_number 71 = .ok (.iload_n 2, 1) := by decide +kernel
theorem dX5_number_72 : decode cX5_number 72 = .ok (.iadd, 1) := by decide +kernel
theorem dX5_number_73 : decode cX5_number 73 = .ok (.laload, 1) := by decide +kernel
theorem dX5_number_74 : decode cX5_number 74 = .ok (.lreturn, 1) := by decide +kernel
theorem dX5_wanted_0 : decode cX5_wanted 0 = .ok (.iload_n 0, 1) := by decide +kernel
theorem dX5_wanted_1 : decode cX5_wanted 1 = .ok (.iconst 3, 1) := by decide +kernel
theorem dX5_wanted_2 : decode cX5_wanted 2 = .ok (.if_icmp .ne 7, 3) := by decide +kernel
theorem dX5_wanted_5 : decode cX5_wanted 5 = .ok (.iconst 0, 1) := by decide +kernel
theorem dX5_wanted_6 : decode cX5_wanted 6 = .ok (.goto 37, 3) := by decide +kernel
theorem dX5_wanted_9 : decode cX5_wanted 9 = .ok (.iload_n 0, 1) := by decide +kernel
theorem dX5_wanted_10 : decode cX5_wanted 10 = .ok (.bipush 9, 2) := by decide +kernel
theorem dX5_wanted_12 : decode cX5_wanted 12 = .ok (.if_icmp .ge 7, 3) := by decide +kernel
theorem dX5_wanted_15 : decode cX5_wanted 15 = .ok (.iconst 4, 1) := by decide +kernel
theorem dX5_wanted_16 : decode cX5_wanted 16 = .ok (.goto 27, 3) := by decide +kernel
theorem dX5_wanted_19 : decode cX5_wanted 19 = .ok (.iload_n 0, 1) := by decide +kernel
theorem dX5_wanted_20 : decode cX5_wanted 20 = .ok (.bipush 9, 2) := by decide +kernel
theorem dX5_wanted_22 : decode cX5_wanted 22 = .ok (.if_icmp .ne 8, 3) := by decide +kernel
theorem dX5_wanted_25 : decode cX5_wanted 25 = .ok (.bipush 13, 2) := by decide +kernel
theorem dX5_wanted_27 : decode cX5_wanted 27 = .ok (.goto 16, 3) := by decide +kernel
theorem dX5_wanted_30 : decode cX5_wanted 30 = .ok (.iload_n 0, 1) := by decide +kernel
theorem dX5_wanted_31 : decode cX5_wanted 31 = .ok (.bipush 12, 2) := by decide +kernel
theorem dX5_wanted_33 : decode cX5_wanted 33 = .ok (.if_icmp .ne 8, 3) := by decide +kernel
theorem dX5_wanted_36 : decode cX5_wanted 36 = .ok (.bipush 9, 2) := by decide +kernel
theorem dX5_wanted_38 : decode cX5_wanted 38 = .ok (.goto 5, 3) := by decide +kernel
theorem dX5_wanted_41 : decode cX5_wanted 41 = .ok (.bipush 7, 2) := by decide +kernel
theorem dX5_wanted_43 : decode cX5_wanted 43 = .ok (.ireturn, 1) := by decide +kernel
theorem dX5_had_0 : decode cX5_had 0 = .ok (.iload_n 0, 1) := by decide +kernel
theorem dX5_had_1 : decode cX5_had 1 = .ok (.bipush 8, 2) := by decide +kernel
theorem dX5_had_3 : decode cX5_had 3 = .ok (.if_icmp .ne 7, 3) := by decide +kernel
theorem dX5_had_6 : decode cX5_had 6 = .ok (.iconst 5, 1) := by decide +kernel
theorem dX5_had_7 : decode cX5_had 7 = .ok (.goto 18, 3) := by decide +kernel
theorem dX5_had_10 : decode cX5_had 10 = .ok (.iload_n 0, 1) := by decide +kernel
theorem dX5_had_11 : decode cX5_had 11 = .ok (.bipush 11, 2) := by decide +kernel
theorem dX5_had_13 : decode cX5_had 13 = .ok (.if_icmp .ne 8, 3) := by decide +kernel
theorem dX5_had_16 : decode cX5_had 16 = .ok (.bipush 8, 2) := by decide +kernel
theorem dX5_had_18 : decode cX5_had 18 = .ok (.goto 7, 3) := by decide +kernel
theorem dX5_had_21 : decode cX5_had 21 = .ok (.iload_n 0, 1) := by decide +kernel
theorem dX5_had_22 : decode cX5_had 22 = .ok (.invokestatic 82, 3) := by decide +kernel
theorem dX5_had_25 : decode cX5_had 25 = .ok (.ireturn, 1) := by decide +kernel
theorem dX5_put_0 : decode cX5_put 0 = .ok (.aload_n 0, 1) := by decide +kernel
theorem dX5_put_1 : decode cX5_put 1 = .ok (.iconst 0, 1) := by decide +kernel
theorem dX5_put_2 : decode cX5_put 2 = .ok (.putfield 52, 3) := by decide +kernel
theorem dX5_put_5 : decode cX5_put 5 = .ok (.aload_n 0, 1) := by decide +kernel
theorem dX5_put_6 : decode cX5_put 6 = .ok (.iload_n 1, 1) := by decide +kernel
theorem dX5_put_7 : decode cX5_put 7 = .ok (.invokevirtual 72, 3) := by decide +kernel
theorem dX5_put_10 : decode cX5_put 10 = .ok (.ifCond .eq 16, 3) := by decide +kernel
theorem dX5_put_13 : decode cX5_put 13 = .ok (.iload_n 3, 1) := by decide +kernel
theorem dX5_put_14 : decode cX5_put 14 = .ok (.iconst (-1), 1) := by decide +kernel
theorem dX5_put_15 : decode cX5_put 15 = .ok (.if_icmp .eq 18, 3) := by decide +kernel
theorem dX5_put_18 : decode cX5_put 18 = .ok (.aload_n 0, 1) := by decide +kernel
theorem dX5_put_19 : decode cX5_put 19 = .ok (.iload_n 3, 1) := by decide +kernel
theorem dX5_put_20 : decode cX5_put 20 = .ok (.invokevirtual 72, 3) := by decide +kernel
theorem dX5_put_23 : decode cX5_put 23 = .ok (.ifCond .ne 10, 3) := by decide +kernel
theorem dX5_put_26 : decode cX5_put 26 = .ok (.aload_n 0, 1) := by decide +kernel
theorem dX5_put_27 : decode cX5_put 27 = .ok (.bipush (-2), 2) := by decide +kernel
theorem dX5_put_29 : decode cX5_put 29 = .ok (.invokevirtual 68, 3) := by decide +kernel
theorem dX5_put_32 : decode cX5_put 32 = .ok (.ireturn, 1) := by decide +kernel
theorem dX5_put_33 : decode cX5_put 33 = .ok (.aload_n 0, 1) := by decide +kernel
theorem dX5_put_34 : decode cX5_put 34 = .ok (.getfield 7, 3) := by decide +kernel
theorem dX5_put_37 : decode cX5_put 37 = .ok (.iload_n 1, 1) := by decide +kernel
theorem dX5_put_38 : decode cX5_put 38 = .ok (.iaload, 1) := by decide +kernel
theorem dX5_put_39 : decode cX5_put 39 = .ok (.istore 4, 2) := by decide +kernel
theorem dX5_put_41 : decode cX5_put 41 = .ok (.iload 4, 2) := by decide +kernel
theorem dX5_put_43 : decode cX5_put 43 = .ok (.invokestatic 85, 3) := by decide +kernel
theorem dX5_put_46 : decode cX5_put 46 = .ok (.ifCond .eq 25, 3) := by decide +kernel
theorem dX5_put_49 : decode cX5_put 49 = .ok (.iload_n 3, 1) := by decide +kernel
theorem dX5_put_50 : decode cX5_put 50 = .ok (.iconst (-1), 1) := by decide +kernel
theorem dX5_put_51 : decode cX5_put 51 = .ok (.if_icmp .eq 27, 3) := by decide +kernel
theorem dX5_put_54 : decode cX5_put 54 = .ok (.aload_n 0, 1) := by decide +kernel
theorem dX5_put_55 : decode cX5_put 55 = .ok (.getfield 7, 3) := by decide +kernel
theorem dX5_put_58 : decode cX5_put 58 = .ok (.iload_n 3, 1) := by decide +kernel
theorem dX5_put_59 : decode cX5_put 59 = .ok (.iaload, 1) := by decide +kernel
theorem dX5_put_60 : decode cX5_put 60 = .ok (.iload 4, 2) := by decide +kernel
theorem dX5_put_62 : decode cX5_put 62 = .ok (.invokestatic 82, 3) := by decide +kernel
theorem dX5_put_65 : decode cX5_put 65 = .ok (.invokestatic 88, 3) := by decide +kernel
theorem dX5_put_68 : decode cX5_put 68 = .ok (.ifCond .ne 10, 3) := by decide +kernel
theorem dX5_put_71 : decode cX5_put 71 = .ok (.aload_n 0, 1) := by decide +kernel
theorem dX5_put_72 : decode cX5_put 72 = .ok (.bipush (-4), 2) := by decide +kernel
theorem dX5_put_74 : decode cX5_put 74 = .ok (.invokevirtual 68, 3) := by decide +kernel
theorem dX5_put_77 : decode cX5_put 77 = .ok (.ireturn, 1) := by decide +kernel
theorem dX5_put_78 : decode cX5_put 78 = .ok (.aload_n 0, 1) := by decide +kernel
theorem dX5_put_79 : decode cX5_put 79 = .ok (.iload_n 1, 1) := by decide +kernel
theorem dX5_put_80 : decode cX5_put 80 = .ok (.iload_n 2, 1) := by decide +kernel
theorem dX5_put_81 : decode cX5_put 81 = .ok (.invokevirtual 78, 3) := by decide +kernel
theorem dX5_put_84 : decode cX5_put 84 = .ok (.ifCond .ne 10, 3) := by decide +kernel
theorem dX5_put_87 : decode cX5_put 87 = .ok (.aload_n 0, 1) := by decide +kernel
theorem dX5_put_88 : decode cX5_put 88 = .ok (.bipush (-5), 2) := by decide +kernel
theorem dX5_put_90 : decode cX5_put 90 = .ok (.invokevirtual 68, 3) := by decide +kernel
theorem dX5_put_93 : decode cX5_put 93 = .ok (.ireturn, 1) := by decide +kernel
theorem dX5_put_94 : decode cX5_put 94 = .ok (.iload_n 3, 1) := by decide +kernel
theorem dX5_put_95 : decode cX5_put 95 = .ok (.iconst (-1), 1) := by decide +kernel
theorem dX5_put_96 : decode cX5_put 96 = .ok (.if_icmp .eq 27, 3) := by decide +kernel
theorem dX5_put_99 : decode cX5_put 99 = .ok (.aload_n 0, 1) := by decide +kernel
theorem dX5_put_100 : decode cX5_put 100 = .ok (.getfield 7, 3) := by decide +kernel
theorem dX5_put_103 : decode cX5_put 103 = .ok (.iload_n 3, 1) := by decide +kernel
theorem dX5_put_104 : decode cX5_put 104 = .ok (.iaload, 1) := by decide +kernel
theorem dX5_put_105 : decode cX5_put 105 = .ok (.iload 4, 2) := by decide +kernel
theorem dX5_put_107 : decode cX5_put 107 = .ok (.invokestatic 91, 3) := by decide +kernel
theorem dX5_put_110 : decode cX5_put 110 = .ok (.invokestatic 88, 3) := by decide +kernel
theorem dX5_put_113 : decode cX5_put 113 = .ok (.ifCond .ne 10, 3) := by decide +kernel
theorem dX5_put_116 : decode cX5_put 116 = .ok (.aload_n 0, 1) := by decide +kernel
theorem dX5_put_117 : decode cX5_put 117 = .ok (.bipush (-6), 2) := by decide +kernel
theorem dX5_put_119 : decode cX5_put 119 = .ok (.invokevirtual 68, 3) := by decide +kernel
theorem dX5_put_122 : decode cX5_put 122 = .ok (.ireturn, 1) := by decide +kernel
theorem dX5_put_123 : decode cX5_put 123 = .ok (.aload_n 0, 1) := by decide +kernel
theorem dX5_put_124 : decode cX5_put 124 = .ok (.getfield 23, 3) := by decide +kernel
theorem dX5_put_127 : decode cX5_put 127 = .ok (.bipush 6, 2) := by decide +kernel
theorem dX5_put_129 : decode cX5_put 129 = .ok (.iload_n 1, 1) := by decide +kernel
theorem dX5_put_130 : decode cX5_put 130 = .ok (.imul, 1) := by decide +kernel
theorem dX5_put_131 : decode cX5_put 131 = .ok (.iload_n 2, 1) := by decide +kernel
theorem dX5_put_132 : decode cX5_put 132 = .ok (.iadd, 1) := by decide +kernel
theorem dX5_put_133 : decode cX5_put 133 = .ok (.iload_n 3, 1) := by decide +kernel
theorem dX5_put_134 : decode cX5_put 134 = .ok (.iastore, 1) := by decide +kernel
theorem dX5_put_135 : decode cX5_put 135 = .ok (.iconst 1, 1) := by decide +kernel
theorem dX5_put_136 : decode cX5_put 136 = .ok (.ireturn, 1) := by decide +kernel
theorem dX5_at_0 : decode cX5_at 0 = .ok (.aload_n 0, 1) := by decide +kernel
theorem dX5_at_1 : decode cX5_at 1 = .ok (.iconst 0, 1) := by decide +kernel
theorem dX5_at_2 : decode cX5_at 2 = .ok (.putfield 52, 3) := by decide +kernel
theorem dX5_at_5 : decode cX5_at 5 = .ok (.aload_n 0, 1) := by decide +kernel
theorem dX5_at_6 : decode cX5_at 6 = .ok (.iload_n 1, 1) := by decide +kernel
theorem dX5_at_7 : decode cX5_at 7 = .ok (.invokevirtual 72, 3) := by decide +kernel
theorem dX5_at_10 : decode cX5_at 10 = .ok (.ifCond .ne 10, 3) := by decide +kernel
theorem dX5_at_13 : decode cX5_at 13 = .ok (.aload_n 0, 1) := by decide +kernel
theorem dX5_at_14 : decode cX5_at 14 = .ok (.bipush (-2), 2) := by decide +kernel
theorem dX5_at_16 : decode cX5_at 16 = .ok (.invokevirtual 68, 3) := by decide +kernel
theorem dX5_at_19 : decode cX5_at 19 = .ok (.ireturn, 1) := by decide +kernel
theorem dX5_at_20 : decode cX5_at 20 = .ok (.aload_n 0, 1) := by decide +kernel
theorem dX5_at_21 : decode cX5_at 21 = .ok (.getfield 7, 3) := by decide +kernel
theorem dX5_at_24 : decode cX5_at 24 = .ok (.iload_n 1, 1) := by decide +kernel
theorem dX5_at_25 : decode cX5_at 25 = .ok (.iaload, 1) := by decide +kernel
theorem dX5_at_26 : decode cX5_at 26 = .ok (.invokestatic 85, 3) := by decide +kernel
theorem dX5_at_29 : decode cX5_at 29 = .ok (.ifCond .ne 10, 3) := by decide +kernel
theorem dX5_at_32 : decode cX5_at 32 = .ok (.aload_n 0, 1) := by decide +kernel
theorem dX5_at_33 : decode cX5_at 33 = .ok (.bipush (-4), 2) := by decide +kernel
theorem dX5_at_35 : decode cX5_at 35 = .ok (.invokevirtual 68, 3) := by decide +kernel
theorem dX5_at_38 : decode cX5_at 38 = .ok (.ireturn, 1) := by decide +kernel
theorem dX5_at_39 : decode cX5_at 39 = .ok (.aload_n 0, 1) := by decide +kernel
theorem dX5_at_40 : decode cX5_at 40 = .ok (.iload_n 1, 1) := by decide +kernel
theorem dX5_at_41 : decode cX5_at 41 = .ok (.iload_n 2, 1) := by decide +kernel
theorem dX5_at_42 : decode cX5_at 42 = .ok (.invokevirtual 78, 3) := by decide +kernel
theorem dX5_at_45 : decode cX5_at 45 = .ok (.ifCond .eq 17, 3) := by decide +kernel
theorem dX5_at_48 : decode cX5_at 48 = .ok (.aload_n 0, 1) := by decide +kernel
theorem dX5_at_49 : decode cX5_at 49 = .ok (.getfield 23, 3) := by decide +kernel
theorem dX5_at_52 : decode cX5_at 52 = .ok (.bipush 6, 2) := by decide +kernel
theorem dX5_at_54 : decode cX5_at 54 = .ok (.iload_n 1, 1) := by decide +kernel
theorem dX5_at_55 : decode cX5_at 55 = .ok (.imul, 1) := by decide +kernel
theorem dX5_at_56 : decode cX5_at 56 = .ok (.iload_n 2, 1) := by decide +kernel
theorem dX5_at_57 : decode cX5_at 57 = .ok (.iadd, 1) := by decide +kernel
theorem dX5_at_58 : decode cX5_at 58 = .ok (.iaload, 1) := by decide +kernel
theorem dX5_at_59 : decode cX5_at 59 = .ok (.goto 9, 3) := by decide +kernel
theorem dX5_at_62 : decode cX5_at 62 = .ok (.aload_n 0, 1) := by decide +kernel
theorem dX5_at_63 : decode cX5_at 63 = .ok (.bipush (-5), 2) := by decide +kernel
theorem dX5_at_65 : decode cX5_at 65 = .ok (.invokevirtual 68, 3) := by decide +kernel
theorem dX5_at_68 : decode cX5_at 68 = .ok (.ireturn, 1) := by decide +kernel
theorem dX5_is_0 : decode cX5_is 0 = .ok (.aload_n 0, 1) := by decide +kernel
theorem dX5_is_1 : decode cX5_is 1 = .ok (.iconst 0, 1) := by decide +kernel
theorem dX5_is_2 : decode cX5_is 2 = .ok (.putfield 52, 3) := by decide +kernel
theorem dX5_is_5 : decode cX5_is 5 = .ok (.aload_n 0, 1) := by decide +kernel
theorem dX5_is_6 : decode cX5_is 6 = .ok (.iload_n 1, 1) := by decide +kernel
theorem dX5_is_7 : decode cX5_is 7 = .ok (.invokevirtual 72, 3) := by decide +kernel
theorem dX5_is_10 : decode cX5_is 10 = .ok (.ifCond .eq 10, 3) := by decide +kernel
theorem dX5_is_13 : decode cX5_is 13 = .ok (.iload_n 2, 1) := by decide +kernel
theorem dX5_is_14 : decode cX5_is 14 = .ok (.invokestatic 94, 3) := by decide +kernel
theorem dX5_is_17 : decode cX5_is 17 = .ok (.ifCond .ne 10, 3) := by decide +kernel
theorem dX5_is_20 : decode cX5_is 20 = .ok (.aload_n 0, 1) := by decide +kernel
theorem dX5_is_21 : decode cX5_is 21 = .ok (.bipush (-2), 2) := by decide +kernel
theorem dX5_is_23 : decode cX5_is 23 = .ok (.invokevirtual 68, 3) := by decide +kernel
theorem dX5_is_26 : decode cX5_is 26 = .ok (.ireturn, 1) := by decide +kernel
theorem dX5_is_27 : decode cX5_is 27 = .ok (.aload_n 0, 1) := by decide +kernel
theorem dX5_is_28 : decode cX5_is 28 = .ok (.getfield 7, 3) := by decide +kernel
theorem dX5_is_31 : decode cX5_is 31 = .ok (.iload_n 1, 1) := by decide +kernel
theorem dX5_is_32 : decode cX5_is 32 = .ok (.iaload, 1) := by decide +kernel
theorem dX5_is_33 : decode cX5_is 33 = .ok (.iload_n 2, 1) := by decide +kernel
theorem dX5_is_34 : decode cX5_is 34 = .ok (.invokestatic 88, 3) := by decide +kernel
theorem dX5_is_37 : decode cX5_is 37 = .ok (.ifCond .eq 7, 3) := by decide +kernel
theorem dX5_is_40 : decode cX5_is 40 = .ok (.iconst 1, 1) := by decide +kernel
theorem dX5_is_41 : decode cX5_is 41 = .ok (.goto 4, 3) := by decide +kernel
theorem dX5_is_44 : decode cX5_is 44 = .ok (.iconst 0, 1) := by decide +kernel
theorem dX5_is_45 : decode cX5_is 45 = .ok (.ireturn, 1) := by decide +kernel
theorem dX5_comes_0 : decode cX5_comes 0 = .ok (.aload_n 0, 1) := by decide +kernel
theorem dX5_comes_1 : decode cX5_comes 1 = .ok (.getfield 7, 3) := by decide +kernel
theorem dX5_comes_4 : decode cX5_comes 4 = .ok (.iload_n 1, 1) := by decide +kernel
theorem dX5_comes_5 : decode cX5_comes 5 = .ok (.iaload, 1) := by decide +kernel
theorem dX5_comes_6 : decode cX5_comes 6 = .ok (.invokestatic 64, 3) := by decide +kernel
theorem dX5_comes_9 : decode cX5_comes 9 = .ok (.ifCond .ne 10, 3) := by decide +kernel
theorem dX5_comes_12 : decode cX5_comes 12 = .ok (.aload_n 0, 1) := by decide +kernel
theorem dX5_comes_13 : decode cX5_comes 13 = .ok (.getfield 13, 3) := by decide +kernel
theorem dX5_comes_16 : decode cX5_comes 16 = .ok (.iload_n 1, 1) := by decide +kernel
theorem dX5_comes_17 : decode cX5_comes 17 = .ok (.iaload, 1) := by decide +kernel
theorem dX5_comes_18 : decode cX5_comes 18 = .ok (.ireturn, 1) := by decide +kernel
theorem dX5_comes_19 : decode cX5_comes 19 = .ok (.iload_n 2, 1) := by decide +kernel
theorem dX5_comes_20 : decode cX5_comes 20 = .ok (.bipush 13, 2) := by decide +kernel
theorem dX5_comes_22 : decode cX5_comes 22 = .ok (.if_icmp .eq 12, 3) := by decide +kernel
theorem dX5_comes_25 : decode cX5_comes 25 = .ok (.aload_n 0, 1) := by decide +kernel
theorem dX5_comes_26 : decode cX5_comes 26 = .ok (.getfield 16, 3) := by decide +kernel
theorem dX5_comes_29 : decode cX5_comes 29 = .ok (.iload_n 1, 1) := by decide +kernel
theorem dX5_comes_30 : decode cX5_comes 30 = .ok (.iaload, 1) := by decide +kernel
theorem dX5_comes_31 : decode cX5_comes 31 = .ok (.goto 34, 3) := by decide +kernel
theorem dX5_comes_34 : decode cX5_comes 34 = .ok (.aload_n 0, 1) := by decide +kernel
theorem dX5_comes_35 : decode cX5_comes 35 = .ok (.getfield 7, 3) := by decide +kernel
theorem dX5_comes_38 : decode cX5_comes 38 = .ok (.iload_n 1, 1) := by decide +kernel
theorem dX5_comes_39 : decode cX5_comes 39 = .ok (.iaload, 1) := by decide +kernel
theorem dX5_comes_40 : decode cX5_comes 40 = .ok (.iconst 5, 1) := by decide +kernel
theorem dX5_comes_41 : decode cX5_comes 41 = .ok (.if_icmp .ne 16, 3) := by decide +kernel
theorem dX5_comes_44 : decode cX5_comes 44 = .ok (.aload_n 0, 1) := by decide +kernel
theorem dX5_comes_45 : decode cX5_comes 45 = .ok (.getfield 16, 3) := by decide +kernel
theorem dX5_comes_48 : decode cX5_comes 48 = .ok (.iload_n 1, 1) := by decide +kernel
theorem dX5_comes_49 : decode cX5_comes 49 = .ok (.iaload, 1) := by decide +kernel
theorem dX5_comes_50 : decode cX5_comes 50 = .ok (.sipush 1000, 3) := by decide +kernel
theorem dX5_comes_53 : decode cX5_comes 53 = .ok (.iadd, 1) := by decide +kernel
theorem dX5_comes_54 : decode cX5_comes 54 = .ok (.goto 11, 3) := by decide +kernel
theorem dX5_comes_57 : decode cX5_comes 57 = .ok (.iconst 2, 1) := by decide +kernel
theorem dX5_comes_58 : decode cX5_comes 58 = .ok (.aload_n 0, 1) := by decide +kernel
theorem dX5_comes_59 : decode cX5_comes 59 = .ok (.getfield 16, 3) := by decide +kernel
theorem dX5_comes_62 : decode cX5_comes 62 = .ok (.iload_n 1, 1) := by decide +kernel
theorem dX5_comes_63 : decode cX5_comes 63 = .ok (.iaload, 1) := by decide +kernel
theorem dX5_comes_64 : decode cX5_comes 64 = .ok (.imul, 1) := by decide +kernel
theorem dX5_comes_65 : decode cX5_comes 65 = .ok (.ireturn, 1) := by decide +kernel
theorem dX5_take_0 : decode cX5_take 0 = .ok (.aload_n 0, 1) := by decide +kernel
theorem dX5_take_1 : decode cX5_take 1 = .ok (.iconst 0, 1) := by decide +kernel
theorem dX5_take_2 : decode cX5_take 2 = .ok (.putfield 52, 3) := by decide +kernel
theorem dX5_take_5 : decode cX5_take 5 = .ok (.aload_n 0, 1) := by decide +kernel
theorem dX5_take_6 : decode cX5_take 6 = .ok (.iload_n 1, 1) := by decide +kernel
theorem dX5_take_7 : decode cX5_take 7 = .ok (.invokevirtual 72, 3) := by decide +kernel
theorem dX5_take_10 : decode cX5_take 10 = .ok (.ifCond .eq 10, 3) := by decide +kernel
theorem dX5_take_13 : decode cX5_take 13 = .ok (.iload_n 2, 1) := by decide +kernel
theorem dX5_take_14 : decode cX5_take 14 = .ok (.invokestatic 94, 3) := by decide +kernel
theorem dX5_take_17 : decode cX5_take 17 = .ok (.ifCond .ne 10, 3) := by decide +kernel
theorem dX5_take_20 : decode cX5_take 20 = .ok (.aload_n 0, 1) := by decide +kernel
theorem dX5_take_21 : decode cX5_take 21 = .ok (.bipush (-2), 2) := by decide +kernel
theorem dX5_take_23 : decode cX5_take 23 = .ok (.invokevirtual 68, 3) := by decide +kernel
theorem dX5_take_26 : decode cX5_take 26 = .ok (.ireturn, 1) := by decide +kernel
theorem dX5_take_27 : decode cX5_take 27 = .ok (.aload_n 0, 1) := by decide +kernel
theorem dX5_take_28 : decode cX5_take 28 = .ok (.getfield 7, 3) := by decide +kernel
theorem dX5_take_31 : decode cX5_take 31 = .ok (.iload_n 1, 1) := by decide +kernel
theorem dX5_take_32 : decode cX5_take 32 = .ok (.iaload, 1) := by decide +kernel
theorem dX5_take_33 : decode cX5_take 33 = .ok (.iload_n 2, 1) := by decide +kernel
theorem dX5_take_34 : decode cX5_take 34 = .ok (.invokestatic 88, 3) := by decide +kernel
theorem dX5_take_37 : decode cX5_take 37 = .ok (.ifCond .eq 12, 3) := by decide +kernel
theorem dX5_take_40 : decode cX5_take 40 = .ok (.aload_n 0, 1) := by decide +kernel
theorem dX5_take_41 : decode cX5_take 41 = .ok (.iload_n 1, 1) := by decide +kernel
theorem dX5_take_42 : decode cX5_take 42 = .ok (.iload_n 2, 1) := by decide +kernel
theorem dX5_take_43 : decode cX5_take 43 = .ok (.invokevirtual 97, 3) := by decide +kernel
theorem dX5_take_46 : decode cX5_take 46 = .ok (.goto 9, 3) := by decide +kernel
theorem dX5_take_49 : decode cX5_take 49 = .ok (.aload_n 0, 1) := by decide +kernel
theorem dX5_take_50 : decode cX5_take 50 = .ok (.bipush (-4), 2) := by decide +kernel
theorem dX5_take_52 : decode cX5_take 52 = .ok (.invokevirtual 68, 3) := by decide +kernel
theorem dX5_take_55 : decode cX5_take 55 = .ok (.ireturn, 1) := by decide +kernel
theorem dX5_sort_0 : decode cX5_sort 0 = .ok (.aload_n 0, 1) := by decide +kernel
theorem dX5_sort_1 : decode cX5_sort 1 = .ok (.iconst 0, 1) := by decide +kernel
theorem dX5_sort_2 : decode cX5_sort 2 = .ok (.putfield 52, 3) := by decide +kernel
theorem dX5_sort_5 : decode cX5_sort 5 = .ok (.aload_n 0, 1) := by decide +kernel
theorem dX5_sort_6 : decode cX5_sort 6 = .ok (.iload_n 1, 1) := by decide +kernel
theorem dX5_sort_7 : decode cX5_sort 7 = .ok (.invokevirtual 72, 3) := by decide +kernel
theorem dX5_sort_10 : decode cX5_sort 10 = .ok (.ifCond .eq 12, 3) := by decide +kernel
theorem dX5_sort_13 : decode cX5_sort 13 = .ok (.aload_n 0, 1) := by decide +kernel
theorem dX5_sort_14 : decode cX5_sort 14 = .ok (.getfield 7, 3) := by decide +kernel
theorem dX5_sort_17 : decode cX5_sort 17 = .ok (.iload_n 1, 1) := by decide +kernel
theorem dX5_sort_18 : decode cX5_sort 18 = .ok (.iaload, 1) := by decide +kernel
theorem dX5_sort_19 : decode cX5_sort 19 = .ok (.goto 9, 3) := by decide +kernel
theorem dX5_sort_22 : decode cX5_sort 22 = .ok (.aload_n 0, 1) := by decide +kernel
theorem dX5_sort_23 : decode cX5_sort 23 = .ok (.bipush (-2), 2) := by decide +kernel
theorem dX5_sort_25 : decode cX5_sort 25 = .ok (.invokevirtual 68, 3) := by decide +kernel
theorem dX5_sort_28 : decode cX5_sort 28 = .ok (.ireturn, 1) := by decide +kernel
theorem dX5_lay_0 : decode cX5_lay 0 = .ok (.aload_n 0, 1) := by decide +kernel
theorem dX5_lay_1 : decode cX5_lay 1 = .ok (.getfield 41, 3) := by decide +kernel
theorem dX5_lay_4 : decode cX5_lay 4 = .ok (.aload_n 0, 1) := by decide +kernel
theorem dX5_lay_5 : decode cX5_lay 5 = .ok (.getfield 101, 3) := by decide +kernel
theorem dX5_lay_8 : decode cX5_lay 8 = .ok (.iload_n 1, 1) := by decide +kernel
theorem dX5_lay_9 : decode cX5_lay 9 = .ok (.iastore, 1) := by decide +kernel
theorem dX5_lay_10 : decode cX5_lay 10 = .ok (.aload_n 0, 1) := by decide +kernel
theorem dX5_lay_11 : decode cX5_lay 11 = .ok (.dup, 1) := by decide +kernel
theorem dX5_lay_12 : decode cX5_lay 12 = .ok (.getfield 101, 3) := by decide +kernel
theorem dX5_lay_15 : decode cX5_lay 15 = .ok (.iconst 1, 1) := by decide +kernel
theorem dX5_lay_16 : decode cX5_lay 16 = .ok (.iadd, 1) := by decide +kernel
theorem dX5_lay_17 : decode cX5_lay 17 = .ok (.putfield 101, 3) := by decide +kernel
theorem dX5_lay_20 : decode cX5_lay 20 = .ok (.return_, 1) := by decide +kernel
theorem dX5_next_0 : decode cX5_next 0 = .ok (.aload_n 0, 1) := by decide +kernel
theorem dX5_next_1 : decode cX5_next 1 = .ok (.dup, 1) := by decide +kernel
theorem dX5_next_2 : decode cX5_next 2 = .ok (.getfield 101, 3) := by decide +kernel
theorem dX5_next_5 : decode cX5_next 5 = .ok (.iconst 1, 1) := by decide +kernel
theorem dX5_next_6 : decode cX5_next 6 = .ok (.isub, 1) := by decide +kernel
theorem dX5_next_7 : decode cX5_next 7 = .ok (.putfield 101, 3) := by decide +kernel
theorem dX5_next_10 : decode cX5_next 10 = .ok (.aload_n 0, 1) := by decide +kernel
theorem dX5_next_11 : decode cX5_next 11 = .ok (.getfield 41, 3) := by decide +kernel
theorem dX5_next_14 : decode cX5_next 14 = .ok (.aload_n 0, 1) := by decide +kernel
theorem dX5_next_15 : decode cX5_next 15 = .ok (.getfield 101, 3) := by decide +kernel
theorem dX5_next_18 : decode cX5_next 18 = .ok (.iaload, 1) := by decide +kernel
theorem dX5_next_19 : decode cX5_next 19 = .ok (.istore_n 1, 1) := by decide +kernel
theorem dX5_next_20 : decode cX5_next 20 = .ok (.iconst 0, 1) := by decide +kernel
theorem dX5_next_21 : decode cX5_next 21 = .ok (.istore_n 2, 1) := by decide +kernel
theorem dX5_next_22 : decode cX5_next 22 = .ok (.iload_n 2, 1) := by decide +kernel
theorem dX5_next_23 : decode cX5_next 23 = .ok (.aload_n 0, 1) := by decide +kernel
theorem dX5_next_24 : decode cX5_next 24 = .ok (.getfield 13, 3) := by decide +kernel
theorem dX5_next_27 : decode cX5_next 27 = .ok (.iload_n 1, 1) := by decide +kernel
theorem dX5_next_28 : decode cX5_next 28 = .ok (.iaload, 1) := by decide +kernel
theorem dX5_next_29 : decode cX5_next 29 = .ok (.if_icmp .ge 51, 3) := by decide +kernel
theorem dX5_next_32 : decode cX5_next 32 = .ok (.aload_n 0, 1) := by decide +kernel
theorem dX5_next_33 : decode cX5_next 33 = .ok (.getfield 7, 3) := by decide +kernel
theorem dX5_next_36 : decode cX5_next 36 = .ok (.iload_n 1, 1) := by decide +kernel
theorem dX5_next_37 : decode cX5_next 37 = .ok (.iaload, 1) := by decide +kernel
theorem dX5_next_38 : decode cX5_next 38 = .ok (.invokestatic 85, 3) := by decide +kernel
theorem dX5_next_41 : decode cX5_next 41 = .ok (.ifCond .eq 39, 3) := by decide +kernel
theorem dX5_next_44 : decode cX5_next 44 = .ok (.aload_n 0, 1) := by decide +kernel
theorem dX5_next_45 : decode cX5_next 45 = .ok (.getfield 23, 3) := by decide +kernel
theorem dX5_next_48 : decode cX5_next 48 = .ok (.bipush 6, 2) := by decide +kernel
theorem dX5_next_50 : decode cX5_next 50 = .ok (.iload_n 1, 1) := by decide +kernel
theorem dX5_next_51 : decode cX5_next 51 = .ok (.imul, 1) := by decide +kernel
theorem dX5_next_52 : decode cX5_next 52 = .ok (.iload_n 2, 1) := by decide +kernel
theorem dX5_next_53 : decode cX5_next 53 = .ok (.iadd, 1) := by decide +kernel
theorem dX5_next_54 : decode cX5_next 54 = .ok (.iaload, 1) := by decide +kernel
theorem dX5_next_55 : decode cX5_next 55 = .ok (.iconst (-1), 1) := by decide +kernel
theorem dX5_next_56 : decode cX5_next 56 = .ok (.if_icmp .eq 18, 3) := by decide +kernel
theorem dX5_next_59 : decode cX5_next 59 = .ok (.aload_n 0, 1) := by decide +kernel
theorem dX5_next_60 : decode cX5_next 60 = .ok (.aload_n 0, 1) := by decide +kernel
theorem dX5_next_61 : decode cX5_next 61 = .ok (.getfield 23, 3) := by decide +kernel
theorem dX5_next_64 : decode cX5_next 64 = .ok (.bipush 6, 2) := by decide +kernel
theorem dX5_next_66 : decode cX5_next 66 = .ok (.iload_n 1, 1) := by decide +kernel
theorem dX5_next_67 : decode cX5_next 67 = .ok (.imul, 1) := by decide +kernel
theorem dX5_next_68 : decode cX5_next 68 = .ok (.iload_n 2, 1) := by decide +kernel
theorem dX5_next_69 : decode cX5_next 69 = .ok (.iadd, 1) := by decide +kernel
theorem dX5_next_70 : decode cX5_next 70 = .ok (.iaload, 1) := by decide +kernel
theorem dX5_next_71 : decode cX5_next 71 = .ok (.invokevirtual 104, 3) := by decide +kernel
theorem dX5_next_74 : decode cX5_next 74 = .ok (.iinc 2 1, 3) := by decide +kernel
theorem dX5_next_77 : decode cX5_next 77 = .ok (.goto (-55), 3) := by decide +kernel
theorem dX5_next_80 : decode cX5_next 80 = .ok (.iload_n 1, 1) := by decide +kernel
theorem dX5_next_81 : decode cX5_next 81 = .ok (.ireturn, 1) := by decide +kernel
theorem dX5_weightOf_0 : decode cX5_weightOf 0 = .ok (.lconst 0, 1) := by decide +kernel
theorem dX5_weightOf_1 : decode cX5_weightOf 1 = .ok (.lstore_n 2, 1) := by decide +kernel
theorem dX5_weightOf_2 : decode cX5_weightOf 2 = .ok (.aload_n 0, 1) := by decide +kernel
theorem dX5_weightOf_3 : decode cX5_weightOf 3 = .ok (.iconst 0, 1) := by decide +kernel
theorem dX5_weightOf_4 : decode cX5_weightOf 4 = .ok (.putfield 101, 3) := by decide +kernel
theorem dX5_weightOf_7 : decode cX5_weightOf 7 = .ok (.aload_n 0, 1) := by decide +kernel
theorem dX5_weightOf_8 : decode cX5_weightOf 8 = .ok (.iload_n 1, 1) := by decide +kernel
theorem dX5_weightOf_9 : decode cX5_weightOf 9 = .ok (.invokevirtual 104, 3) := by decide +kernel
theorem dX5_weightOf_12 : decode cX5_weightOf 12 = .ok (.aload_n 0, 1) := by decide +kernel
theorem dX5_weightOf_13 : decode cX5_weightOf 13 = .ok (.getfield 101, 3) := by decide +kernel
theorem dX5_weightOf_16 : decode cX5_weightOf 16 = .ok (.ifCond .le 60, 3) := by decide +kernel
theorem dX5_weightOf_19 : decode cX5_weightOf 19 = .ok (.aload_n 0, 1) := by decide +kernel
theorem dX5_weightOf_20 : decode cX5_weightOf 20 = .ok (.invokevirtual 108, 3) := by decide +kernel
theorem dX5_weightOf_23 : decode cX5_weightOf 23 = .ok (.istore 4, 2) := by decide +kernel
theorem dX5_weightOf_25 : decode cX5_weightOf 25 = .ok (.lload_n 2, 1) := by decide +kernel
theorem dX5_weightOf_26 : decode cX5_weightOf 26 = .ok (.aload_n 0, 1) := by decide +kernel
theorem dX5_weightOf_27 : decode cX5_weightOf 27 = .ok (.getfield 16, 3) := by decide +kernel
theorem dX5_weightOf_30 : decode cX5_weightOf 30 = .ok (.iload 4, 2) := by decide +kernel
theorem dX5_weightOf_32 : decode cX5_weightOf 32 = .ok (.iaload, 1) := by decide +kernel
theorem dX5_weightOf_33 : decode cX5_weightOf 33 = .ok (.i2l, 1) := by decide +kernel
theorem dX5_weightOf_34 : decode cX5_weightOf 34 = .ok (.ladd, 1) := by decide +kernel
theorem dX5_weightOf_35 : decode cX5_weightOf 35 = .ok (.lstore_n 2, 1) := by decide +kernel
theorem dX5_weightOf_36 : decode cX5_weightOf 36 = .ok (.iconst 0, 1) := by decide +kernel
theorem dX5_weightOf_37 : decode cX5_weightOf 37 = .ok (.istore 5, 2) := by decide +kernel
theorem dX5_weightOf_39 : decode cX5_weightOf 39 = .ok (.iload 5, 2) := by decide +kernel
theorem dX5_weightOf_41 : decode cX5_weightOf 41 = .ok (.aload_n 0, 1) := by decide +kernel
theorem dX5_weightOf_42 : decode cX5_weightOf 42 = .ok (.getfield 13, 3) := by decide +kernel
theorem dX5_weightOf_45 : decode cX5_weightOf 45 = .ok (.iload 4, 2) := by decide +kernel
theorem dX5_weightOf_47 : decode cX5_weightOf 47 = .ok (.iaload, 1) := by decide +kernel
theorem dX5_weightOf_48 : decode cX5_weightOf 48 = .ok (.if_icmp .ge 25, 3) := by decide +kernel
theorem dX5_weightOf_51 : decode cX5_weightOf 51 = .ok (.lload_n 2, 1) := by decide +kernel
theorem dX5_weightOf_52 : decode cX5_weightOf 52 = .ok (.aload_n 0, 1) := by decide +kernel
theorem dX5_weightOf_53 : decode cX5_weightOf 53 = .ok (.getfield 19, 3) := by decide +kernel
theorem dX5_weightOf_56 : decode cX5_weightOf 56 = .ok (.bipush 6, 2) := by decide +kernel
theorem dX5_weightOf_58 : decode cX5_weightOf 58 = .ok (.iload 4, 2) := by decide +kernel
theorem dX5_weightOf_60 : decode cX5_weightOf 60 = .ok (.imul, 1) := by decide +kernel
theorem dX5_weightOf_61 : decode cX5_weightOf 61 = .ok (.iload 5, 2) := by decide +kernel
theorem dX5_weightOf_63 : decode cX5_weightOf 63 = .ok (.iadd, 1) := by decide +kernel
theorem dX5_weightOf_64 : decode cX5_weightOf 64 = .ok (.laload, 1) := by decide +kernel
theorem dX5_weightOf_65 : decode cX5_weightOf 65 = .ok (.ladd, 1) := by decide +kernel
theorem dX5_weightOf_66 : decode cX5_weightOf 66 = .ok (.lstore_n 2, 1) := by decide +kernel
theorem dX5_weightOf_67 : decode cX5_weightOf 67 = .ok (.iinc 5 1, 3) := by decide +kernel
theorem dX5_weightOf_70 : decode cX5_weightOf 70 = .ok (.goto (-31), 3) := by decide +kernel
theorem dX5_weightOf_73 : decode cX5_weightOf 73 = .ok (.goto (-61), 3) := by decide +kernel
theorem dX5_weightOf_76 : decode cX5_weightOf 76 = .ok (.lload_n 2, 1) := by decide +kernel
theorem dX5_weightOf_77 : decode cX5_weightOf 77 = .ok (.lreturn, 1) := by decide +kernel
theorem dX5_weight_0 : decode cX5_weight 0 = .ok (.aload_n 0, 1) := by decide +kernel
theorem dX5_weight_1 : decode cX5_weight 1 = .ok (.iconst 0, 1) := by decide +kernel
theorem dX5_weight_2 : decode cX5_weight 2 = .ok (.putfield 52, 3) := by decide +kernel
theorem dX5_weight_5 : decode cX5_weight 5 = .ok (.aload_n 0, 1) := by decide +kernel
theorem dX5_weight_6 : decode cX5_weight 6 = .ok (.iload_n 1, 1) := by decide +kernel
theorem dX5_weight_7 : decode cX5_weight 7 = .ok (.invokevirtual 72, 3) := by decide +kernel
theorem dX5_weight_10 : decode cX5_weight 10 = .ok (.ifCond .ne 11, 3) := by decide +kernel
theorem dX5_weight_13 : decode cX5_weight 13 = .ok (.aload_n 0, 1) := by decide +kernel
theorem dX5_weight_14 : decode cX5_weight 14 = .ok (.bipush (-2), 2) := by decide +kernel
theorem dX5_weight_16 : decode cX5_weight 16 = .ok (.putfield 52, 3) := by decide +kernel
theorem dX5_weight_19 : decode cX5_weight 19 = .ok (.lconst 0, 1) := by decide +kernel
theorem dX5_weight_20 : decode cX5_weight 20 = .ok (.lreturn, 1) := by decide +kernel
theorem dX5_weight_21 : decode cX5_weight 21 = .ok (.aload_n 0, 1) := by decide +kernel
theorem dX5_weight_22 : decode cX5_weight 22 = .ok (.iload_n 1, 1) := by decide +kernel
theorem dX5_weight_23 : decode cX5_weight 23 = .ok (.invokevirtual 112, 3) := by decide +kernel
theorem dX5_weight_26 : decode cX5_weight 26 = .ok (.lreturn, 1) := by decide +kernel
theorem dX5_inside_0 : decode cX5_inside 0 = .ok (.aload_n 0, 1) := by decide +kernel
theorem dX5_inside_1 : decode cX5_inside 1 = .ok (.iconst 0, 1) := by decide +kernel
theorem dX5_inside_2 : decode cX5_inside 2 = .ok (.putfield 52, 3) := by decide +kernel
theorem dX5_inside_5 : decode cX5_inside 5 = .ok (.aload_n 0, 1) := by decide +kernel
theorem dX5_inside_6 : decode cX5_inside 6 = .ok (.iload_n 1, 1) := by decide +kernel
theorem dX5_inside_7 : decode cX5_inside 7 = .ok (.invokevirtual 72, 3) := by decide +kernel
theorem dX5_inside_10 : decode cX5_inside 10 = .ok (.ifCond .eq 10, 3) := by decide +kernel
theorem dX5_inside_13 : decode cX5_inside 13 = .ok (.iload_n 2, 1) := by decide +kernel
theorem dX5_inside_14 : decode cX5_inside 14 = .ok (.invokestatic 94, 3) := by decide +kernel
theorem dX5_inside_17 : decode cX5_inside 17 = .ok (.ifCond .ne 10, 3) := by decide +kernel
theorem dX5_inside_20 : decode cX5_inside 20 = .ok (.aload_n 0, 1) := by decide +kernel
theorem dX5_inside_21 : decode cX5_inside 21 = .ok (.bipush (-2), 2) := by decide +kernel
theorem dX5_inside_23 : decode cX5_inside 23 = .ok (.invokevirtual 68, 3) := by decide +kernel
theorem dX5_inside_26 : decode cX5_inside 26 = .ok (.ireturn, 1) := by decide +kernel
theorem dX5_inside_27 : decode cX5_inside 27 = .ok (.iconst 0, 1) := by decide +kernel
theorem dX5_inside_28 : decode cX5_inside 28 = .ok (.istore_n 3, 1) := by decide +kernel
theorem dX5_inside_29 : decode cX5_inside 29 = .ok (.aload_n 0, 1) := by decide +kernel
theorem dX5_inside_30 : decode cX5_inside 30 = .ok (.iconst 0, 1) := by decide +kernel
theorem dX5_inside_31 : decode cX5_inside 31 = .ok (.putfield 101, 3) := by decide +kernel
theorem dX5_inside_34 : decode cX5_inside 34 = .ok (.aload_n 0, 1) := by decide +kernel
theorem dX5_inside_35 : decode cX5_inside 35 = .ok (.iload_n 1, 1) := by decide +kernel
theorem dX5_inside_36 : decode cX5_inside 36 = .ok (.invokevirtual 104, 3) := by decide +kernel
theorem dX5_inside_39 : decode cX5_inside 39 = .ok (.aload_n 0, 1) := by decide +kernel
theorem dX5_inside_40 : decode cX5_inside 40 = .ok (.getfield 101, 3) := by decide +kernel
theorem dX5_inside_43 : decode cX5_inside 43 = .ok (.ifCond .le 34, 3) := by decide +kernel
theorem dX5_inside_46 : decode cX5_inside 46 = .ok (.aload_n 0, 1) := by decide +kernel
theorem dX5_inside_47 : decode cX5_inside 47 = .ok (.invokevirtual 108, 3) := by decide +kernel
theorem dX5_inside_50 : decode cX5_inside 50 = .ok (.istore 4, 2) := by decide +kernel
theorem dX5_inside_52 : decode cX5_inside 52 = .ok (.iload_n 3, 1) := by decide +kernel
theorem dX5_inside_53 : decode cX5_inside 53 = .ok (.aload_n 0, 1) := by decide +kernel
theorem dX5_inside_54 : decode cX5_inside 54 = .ok (.getfield 7, 3) := by decide +kernel
theorem dX5_inside_57 : decode cX5_inside 57 = .ok (.iload 4, 2) := by decide +kernel
theorem dX5_inside_59 : decode cX5_inside 59 = .ok (.iaload, 1) := by decide +kernel
theorem dX5_inside_60 : decode cX5_inside 60 = .ok (.iload_n 2, 1) := by decide +kernel
theorem dX5_inside_61 : decode cX5_inside 61 = .ok (.invokestatic 88, 3) := by decide +kernel
theorem dX5_inside_64 : decode cX5_inside 64 = .ok (.ifCond .eq 7, 3) := by decide +kernel
theorem dX5_inside_67 : decode cX5_inside 67 = .ok (.iconst 1, 1) := by decide +kernel
theorem dX5_inside_68 : decode cX5_inside 68 = .ok (.goto 4, 3) := by decide +kernel
theorem dX5_inside_71 : decode cX5_inside 71 = .ok (.iconst 0, 1) := by decide +kernel
theorem dX5_inside_72 : decode cX5_inside 72 = .ok (.iadd, 1) := by decide +kernel
theorem dX5_inside_73 : decode cX5_inside 73 = .ok (.istore_n 3, 1) := by decide +kernel
theorem dX5_inside_74 : decode cX5_inside 74 = .ok (.goto (-35), 3) := by decide +kernel
theorem dX5_inside_77 : decode cX5_inside 77 = .ok (.iload_n 3, 1) := by decide +kernel
theorem dX5_inside_78 : decode cX5_inside 78 = .ok (.ireturn, 1) := by decide +kernel
theorem dX5_hold_0 : decode cX5_hold 0 = .ok (.aload_n 0, 1) := by decide +kernel
theorem dX5_hold_1 : decode cX5_hold 1 = .ok (.iconst 0, 1) := by decide +kernel
theorem dX5_hold_2 : decode cX5_hold 2 = .ok (.putfield 52, 3) := by decide +kernel
theorem dX5_hold_5 : decode cX5_hold 5 = .ok (.iload_n 1, 1) := by decide +kernel
theorem dX5_hold_6 : decode cX5_hold 6 = .ok (.iconst 0, 1) := by decide +kernel
theorem dX5_hold_7 : decode cX5_hold 7 = .ok (.bipush 11, 2) := by decide +kernel
theorem dX5_hold_9 : decode cX5_hold 9 = .ok (.invokestatic 48, 3) := by decide +kernel
theorem dX5_hold_12 : decode cX5_hold 12 = .ok (.ifCond .eq 16, 3) := by decide +kernel
theorem dX5_hold_15 : decode cX5_hold 15 = .ok (.iload_n 2, 1) := by decide +kernel
theorem dX5_hold_16 : decode cX5_hold 16 = .ok (.iconst (-1), 1) := by decide +kernel
theorem dX5_hold_17 : decode cX5_hold 17 = .ok (.if_icmp .eq 18, 3) := by decide +kernel
theorem dX5_hold_20 : decode cX5_hold 20 = .ok (.aload_n 0, 1) := by decide +kernel
theorem dX5_hold_21 : decode cX5_hold 21 = .ok (.iload_n 2, 1) := by decide +kernel
theorem dX5_hold_22 : decode cX5_hold 22 = .ok (.invokevirtual 72, 3) := by decide +kernel
theorem dX5_hold_25 : decode cX5_hold 25 = .ok (.ifCond .ne 10, 3) := by decide +kernel
theorem dX5_hold_28 : decode cX5_hold 28 = .ok (.aload_n 0, 1) := by decide +kernel
theorem dX5_hold_29 : decode cX5_hold 29 = .ok (.bipush (-2), 2) := by decide +kernel
theorem dX5_hold_31 : decode cX5_hold 31 = .ok (.invokevirtual 68, 3) := by decide +kernel
theorem dX5_hold_34 : decode cX5_hold 34 = .ok (.ireturn, 1) := by decide +kernel
theorem dX5_hold_35 : decode cX5_hold 35 = .ok (.aload_n 0, 1) := by decide +kernel
theorem dX5_hold_36 : decode cX5_hold 36 = .ok (.getfield 26, 3) := by decide +kernel
theorem dX5_hold_39 : decode cX5_hold 39 = .ok (.iload_n 1, 1) := by decide +kernel
theorem dX5_hold_40 : decode cX5_hold 40 = .ok (.iaload, 1) := by decide +kernel
theorem dX5_hold_41 : decode cX5_hold 41 = .ok (.istore_n 3, 1) := by decide +kernel
theorem dX5_hold_42 : decode cX5_hold 42 = .ok (.aload_n 0, 1) := by decide +kernel
theorem dX5_hold_43 : decode cX5_hold 43 = .ok (.getfield 26, 3) := by decide +kernel
theorem dX5_hold_46 : decode cX5_hold 46 = .ok (.iload_n 1, 1) := by decide +kernel
theorem dX5_hold_47 : decode cX5_hold 47 = .ok (.iload_n 2, 1) := by decide +kernel
theorem dX5_hold_48 : decode cX5_hold 48 = .ok (.iastore, 1) := by decide +kernel
theorem dX5_hold_49 : decode cX5_hold 49 = .ok (.iload_n 3, 1) := by decide +kernel
theorem dX5_hold_50 : decode cX5_hold 50 = .ok (.ireturn, 1) := by decide +kernel
theorem dX5_bay_0 : decode cX5_bay 0 = .ok (.aload_n 0, 1) := by decide +kernel
theorem dX5_bay_1 : decode cX5_bay 1 = .ok (.iconst 0, 1) := by decide +kernel
theorem dX5_bay_2 : decode cX5_bay 2 = .ok (.putfield 52, 3) := by decide +kernel
theorem dX5_bay_5 : decode cX5_bay 5 = .ok (.iload_n 1, 1) := by decide +kernel
theorem dX5_bay_6 : decode cX5_bay 6 = .ok (.iconst 0, 1) := by decide +kernel
theorem dX5_bay_7 : decode cX5_bay 7 = .ok (.bipush 11, 2) := by decide +kernel
theorem dX5_bay_9 : decode cX5_bay 9 = .ok (.invokestatic 48, 3) := by decide +kernel
theorem dX5_bay_12 : decode cX5_bay 12 = .ok (.ifCond .eq 10, 3) := by decide +kernel
theorem dX5_bay_15 : decode cX5_bay 15 = .ok (.iload_n 2, 1) := by decide +kernel
theorem dX5_bay_16 : decode cX5_bay 16 = .ok (.invokestatic 94, 3) := by decide +kernel
theorem dX5_bay_19 : decode cX5_bay 19 = .ok (.ifCond .ne 10, 3) := by decide +kernel
theorem dX5_bay_22 : decode cX5_bay 22 = .ok (.aload_n 0, 1) := by decide +kernel
theorem dX5_bay_23 : decode cX5_bay 23 = .ok (.bipush (-2), 2) := by decide +kernel
theorem dX5_bay_25 : decode cX5_bay 25 = .ok (.invokevirtual 68, 3) := by decide +kernel
theorem dX5_bay_28 : decode cX5_bay 28 = .ok (.ireturn, 1) := by decide +kernel
theorem dX5_bay_29 : decode cX5_bay 29 = .ok (.aload_n 0, 1) := by decide +kernel
theorem dX5_bay_30 : decode cX5_bay 30 = .ok (.getfield 26, 3) := by decide +kernel
theorem dX5_bay_33 : decode cX5_bay 33 = .ok (.iload_n 1, 1) := by decide +kernel
theorem dX5_bay_34 : decode cX5_bay 34 = .ok (.iaload, 1) := by decide +kernel
theorem dX5_bay_35 : decode cX5_bay 35 = .ok (.istore_n 3, 1) := by decide +kernel
theorem dX5_bay_36 : decode cX5_bay 36 = .ok (.iload_n 3, 1) := by decide +kernel
theorem dX5_bay_37 : decode cX5_bay 37 = .ok (.iconst (-1), 1) := by decide +kernel
theorem dX5_bay_38 : decode cX5_bay 38 = .ok (.if_icmp .ne 5, 3) := by decide +kernel
theorem dX5_bay_41 : decode cX5_bay 41 = .ok (.iconst (-1), 1) := by decide +kernel
theorem dX5_bay_42 : decode cX5_bay 42 = .ok (.ireturn, 1) := by decide +kernel
theorem dX5_bay_43 : decode cX5_bay 43 = .ok (.aload_n 0, 1) := by decide +kernel
theorem dX5_bay_44 : decode cX5_bay 44 = .ok (.getfield 7, 3) := by decide +kernel
theorem dX5_bay_47 : decode cX5_bay 47 = .ok (.iload_n 3, 1) := by decide +kernel
theorem dX5_bay_48 : decode cX5_bay 48 = .ok (.iaload, 1) := by decide +kernel
theorem dX5_bay_49 : decode cX5_bay 49 = .ok (.iload_n 2, 1) := by decide +kernel
theorem dX5_bay_50 : decode cX5_bay 50 = .ok (.invokestatic 88, 3) := by decide +kernel
theorem dX5_bay_53 : decode cX5_bay 53 = .ok (.ifCond .eq 12, 3) := by decide +kernel
theorem dX5_bay_56 : decode cX5_bay 56 = .ok (.aload_n 0, 1) := by decide +kernel
theorem dX5_bay_57 : decode cX5_bay 57 = .ok (.iload_n 3, 1) := by decide +kernel
theorem dX5_bay_58 : decode cX5_bay 58 = .ok (.iload_n 2, 1) := by decide +kernel
theorem dX5_bay_59 : decode cX5_bay 59 = .ok (.invokevirtual 97, 3) := by decide +kernel
theorem dX5_bay_62 : decode cX5_bay 62 = .ok (.goto 9, 3) := by decide +kernel
theorem dX5_bay_65 : decode cX5_bay 65 = .ok (.aload_n 0, 1) := by decide +kernel
theorem dX5_bay_66 : decode cX5_bay 66 = .ok (.bipush (-4), 2) := by decide +kernel
theorem dX5_bay_68 : decode cX5_bay 68 = .ok (.invokevirtual 68, 3) := by decide +kernel
theorem dX5_bay_71 : decode cX5_bay 71 = .ok (.ireturn, 1) := by decide +kernel
theorem dX5_isGate_0 : decode cX5_isGate 0 = .ok (.iload_n 0, 1) := by decide +kernel
theorem dX5_isGate_1 : decode cX5_isGate 1 = .ok (.iconst 0, 1) := by decide +kernel
theorem dX5_isGate_2 : decode cX5_isGate 2 = .ok (.iconst 5, 1) := by decide +kernel
theorem dX5_isGate_3 : decode cX5_isGate 3 = .ok (.invokestatic 48, 3) := by decide +kernel
theorem dX5_isGate_6 : decode cX5_isGate 6 = .ok (.ireturn, 1) := by decide +kernel
theorem dX5_gate_0 : decode cX5_gate 0 = .ok (.aload_n 0, 1) := by decide +kernel
theorem dX5_gate_1 : decode cX5_gate 1 = .ok (.iconst 0, 1) := by decide +kernel
theorem dX5_gate_2 : decode cX5_gate 2 = .ok (.putfield 52, 3) := by decide +kernel
theorem dX5_gate_5 : decode cX5_gate 5 = .ok (.iload_n 1, 1) := by decide +kernel
theorem dX5_gate_6 : decode cX5_gate 6 = .ok (.invokestatic 116, 3) := by decide +kernel
theorem dX5_gate_9 : decode cX5_gate 9 = .ok (.ifCond .eq 15, 3) := by decide +kernel
theorem dX5_gate_12 : decode cX5_gate 12 = .ok (.iload_n 2, 1) := by decide +kernel
theorem dX5_gate_13 : decode cX5_gate 13 = .ok (.iconst (-1), 1) := by decide +kernel
theorem dX5_gate_14 : decode cX5_gate 14 = .ok (.if_icmp .eq 17, 3) := by decide +kernel
theorem dX5_gate_17 : decode cX5_gate 17 = .ok (.iload_n 2, 1) := by decide +kernel
theorem dX5_gate_18 : decode cX5_gate 18 = .ok (.invokestatic 94, 3) := by decide +kernel
theorem dX5_gate_21 : decode cX5_gate 21 = .ok (.ifCond .ne 10, 3) := by decide +kernel
theorem dX5_gate_24 : decode cX5_gate 24 = .ok (.aload_n 0, 1) := by decide +kernel
theorem dX5_gate_25 : decode cX5_gate 25 = .ok (.bipush (-2), 2) := by decide +kernel
theorem dX5_gate_27 : decode cX5_gate 27 = .ok (.invokevirtual 68, 3) := by decide +kernel
theorem dX5_gate_30 : decode cX5_gate 30 = .ok (.ireturn, 1) := by decide +kernel
theorem dX5_gate_31 : decode cX5_gate 31 = .ok (.aload_n 0, 1) := by decide +kernel
theorem dX5_gate_32 : decode cX5_gate 32 = .ok (.getfield 29, 3) := by decide +kernel
theorem dX5_gate_35 : decode cX5_gate 35 = .ok (.iload_n 1, 1) := by decide +kernel
theorem dX5_gate_36 : decode cX5_gate 36 = .ok (.iaload, 1) := by decide +kernel
theorem dX5_gate_37 : decode cX5_gate 37 = .ok (.istore_n 3, 1) := by decide +kernel
theorem dX5_gate_38 : decode cX5_gate 38 = .ok (.aload_n 0, 1) := by decide +kernel
theorem dX5_gate_39 : decode cX5_gate 39 = .ok (.getfield 29, 3) := by decide +kernel
theorem dX5_gate_42 : decode cX5_gate 42 = .ok (.iload_n 1, 1) := by decide +kernel
theorem dX5_gate_43 : decode cX5_gate 43 = .ok (.iload_n 2, 1) := by decide +kernel
theorem dX5_gate_44 : decode cX5_gate 44 = .ok (.iastore, 1) := by decide +kernel
theorem dX5_gate_45 : decode cX5_gate 45 = .ok (.aload_n 0, 1) := by decide +kernel
theorem dX5_gate_46 : decode cX5_gate 46 = .ok (.getfield 32, 3) := by decide +kernel
theorem dX5_gate_49 : decode cX5_gate 49 = .ok (.iload_n 1, 1) := by decide +kernel
theorem dX5_gate_50 : decode cX5_gate 50 = .ok (.lconst 0, 1) := by decide +kernel
theorem dX5_gate_51 : decode cX5_gate 51 = .ok (.lastore, 1) := by decide +kernel
theorem dX5_gate_52 : decode cX5_gate 52 = .ok (.iload_n 3, 1) := by decide +kernel
theorem dX5_gate_53 : decode cX5_gate 53 = .ok (.ireturn, 1) := by decide +kernel
theorem dX5_pass_0 : decode cX5_pass 0 = .ok (.aload_n 0, 1) := by decide +kernel
theorem dX5_pass_1 : decode cX5_pass 1 = .ok (.iconst 0, 1) := by decide +kernel
theorem dX5_pass_2 : decode cX5_pass 2 = .ok (.putfield 52, 3) := by decide +kernel
theorem dX5_pass_5 : decode cX5_pass 5 = .ok (.aload_n 0, 1) := by decide +kernel
theorem dX5_pass_6 : decode cX5_pass 6 = .ok (.iload_n 1, 1) := by decide +kernel
theorem dX5_pass_7 : decode cX5_pass 7 = .ok (.invokevirtual 72, 3) := by decide +kernel
theorem dX5_pass_10 : decode cX5_pass 10 = .ok (.ifCond .eq 20, 3) := by decide +kernel
theorem dX5_pass_13 : decode cX5_pass 13 = .ok (.iload_n 2, 1) := by decide +kernel
theorem dX5_pass_14 : decode cX5_pass 14 = .ok (.invokestatic 116, 3) := by decide +kernel
theorem dX5_pass_17 : decode cX5_pass 17 = .ok (.ifCond .eq 13, 3) := by decide +kernel
theorem dX5_pass_20 : decode cX5_pass 20 = .ok (.aload_n 0, 1) := by decide +kernel
theorem dX5_pass_21 : decode cX5_pass 21 = .ok (.getfield 29, 3) := by decide +kernel
theorem dX5_pass_24 : decode cX5_pass 24 = .ok (.iload_n 2, 1) := by decide +kernel
theorem dX5_pass_25 : decode cX5_pass 25 = .ok (.iaload, 1) := by decide +kernel
theorem dX5_pass_26 : decode cX5_pass 26 = .ok (.iconst (-1), 1) := by decide +kernel
theorem dX5_pass_27 : decode cX5_pass 27 = .ok (.if_icmp .ne 10, 3) := by decide +kernel
theorem dX5_pass_30 : decode cX5_pass 30 = .ok (.aload_n 0, 1) := by decide +kernel
theorem dX5_pass_31 : decode cX5_pass 31 = .ok (.bipush (-2), 2) := by decide +kernel
theorem dX5_pass_33 : decode cX5_pass 33 = .ok (.invokevirtual 68, 3) := by decide +kernel
theorem dX5_pass_36 : decode cX5_pass 36 = .ok (.ireturn, 1) := by decide +kernel
theorem dX5_pass_37 : decode cX5_pass 37 = .ok (.aload_n 0, 1) := by decide +kernel
theorem dX5_pass_38 : decode cX5_pass 38 = .ok (.getfield 7, 3) := by decide +kernel
theorem dX5_pass_41 : decode cX5_pass 41 = .ok (.iload_n 1, 1) := by decide +kernel
theorem dX5_pass_42 : decode cX5_pass 42 = .ok (.iaload, 1) := by decide +kernel
theorem dX5_pass_43 : decode cX5_pass 43 = .ok (.aload_n 0, 1) := by decide +kernel
theorem dX5_pass_44 : decode cX5_pass 44 = .ok (.getfield 29, 3) := by decide +kernel
theorem dX5_pass_47 : decode cX5_pass 47 = .ok (.iload_n 2, 1) := by decide +kernel
theorem dX5_pass_48 : decode cX5_pass 48 = .ok (.iaload, 1) := by decide +kernel
theorem dX5_pass_49 : decode cX5_pass 49 = .ok (.invokestatic 88, 3) := by decide +kernel
theorem dX5_pass_52 : decode cX5_pass 52 = .ok (.ifCond .ne 15, 3) := by decide +kernel
theorem dX5_pass_55 : decode cX5_pass 55 = .ok (.aload_n 0, 1) := by decide +kernel
theorem dX5_pass_56 : decode cX5_pass 56 = .ok (.dup, 1) := by decide +kernel
theorem dX5_pass_57 : decode cX5_pass 57 = .ok (.getfield 119, 3) := by decide +kernel
theorem dX5_pass_60 : decode cX5_pass 60 = .ok (.iconst 1, 1) := by decide +kernel
theorem dX5_pass_61 : decode cX5_pass 61 = .ok (.iadd, 1) := by decide +kernel
theorem dX5_pass_62 : decode cX5_pass 62 = .ok (.putfield 119, 3) := by decide +kernel
theorem dX5_pass_65 : decode cX5_pass 65 = .ok (.iconst 0, 1) := by decide +kernel
theorem dX5_pass_66 : decode cX5_pass 66 = .ok (.ireturn, 1) := by decide +kernel
theorem dX5_pass_67 : decode cX5_pass 67 = .ok (.aload_n 0, 1) := by decide +kernel
theorem dX5_pass_68 : decode cX5_pass 68 = .ok (.getfield 32, 3) := by decide +kernel
theorem dX5_pass_71 : decode cX5_pass 71 = .ok (.iload_n 2, 1) := by decide +kernel
theorem dX5_pass_72 : decode cX5_pass 72 = .ok (.dup2, 1) := by decide +kernel
theorem dX5_pass_73 : decode cX5_pass 73 = .ok (.laload, 1) := by decide +kernel
theorem dX5_pass_74 : decode cX5_pass 74 = .ok (.aload_n 0, 1) := by decide +kernel
theorem dX5_pass_75 : decode cX5_pass 75 = .ok (.iload_n 1, 1) := by decide +kernel
theorem dX5_pass_76 : decode cX5_pass 76 = .ok (.invokevirtual 112, 3) := by decide +kernel
theorem dX5_pass_79 : decode cX5_pass 79 = .ok (.ladd, 1) := by decide +kernel
theorem dX5_pass_80 : decode cX5_pass 80 = .ok (.lastore, 1) := by decide +kernel
theorem dX5_pass_81 : decode cX5_pass 81 = .ok (.iconst 1, 1) := by decide +kernel
theorem dX5_pass_82 : decode cX5_pass 82 = .ok (.ireturn, 1) := by decide +kernel
theorem dX5_passed_0 : decode cX5_passed 0 = .ok (.aload_n 0, 1) := by decide +kernel
theorem dX5_passed_1 : decode cX5_passed 1 = .ok (.iload_n 1, 1) := by decide +kernel
theorem dX5_passed_2 : decode cX5_passed 2 = .ok (.invokestatic 116, 3) := by decide +kernel
theorem dX5_passed_5 : decode cX5_passed 5 = .ok (.ifCond .eq 7, 3) := by decide +kernel
theorem dX5_passed_8 : decode cX5_passed 8 = .ok (.iconst 0, 1) := by decide +kernel
theorem dX5_passed_9 : decode cX5_passed 9 = .ok (.goto 5, 3) := by decide +kernel
theorem dX5_passed_12 : decode cX5_passed 12 = .ok (.bipush (-2), 2) := by decide +kernel
theorem dX5_passed_14 : decode cX5_passed 14 = .ok (.putfield 52, 3) := by decide +kernel
theorem dX5_passed_17 : decode cX5_passed 17 = .ok (.aload_n 0, 1) := by decide +kernel
theorem dX5_passed_18 : decode cX5_passed 18 = .ok (.getfield 52, 3) := by decide +kernel
theorem dX5_passed_21 : decode cX5_passed 21 = .ok (.ifCond .ne 12, 3) := by decide +kernel
theorem dX5_passed_24 : decode cX5_passed 24 = .ok (.aload_n 0, 1) := by decide +kernel
theorem dX5_passed_25 : decode cX5_passed 25 = .ok (.getfield 32, 3) := by decide +kernel
theorem dX5_passed_28 : decode cX5_passed 28 = .ok (.iload_n 1, 1) := by decide +kernel
theorem dX5_passed_29 : decode cX5_passed 29 = .ok (.laload, 1) := by decide +kernel
theorem dX5_passed_30 : decode cX5_passed 30 = .ok (.goto 4, 3) := by decide +kernel
theorem dX5_passed_33 : decode cX5_passed 33 = .ok (.lconst 0, 1) := by decide +kernel
theorem dX5_passed_34 : decode cX5_passed 34 = .ok (.lreturn, 1) := by decide +kernel
theorem dX5_tariff_0 : decode cX5_tariff 0 = .ok (.aload_n 0, 1) := by decide +kernel
theorem dX5_tariff_1 : decode cX5_tariff 1 = .ok (.iconst 0, 1) := by decide +kernel
theorem dX5_tariff_2 : decode cX5_tariff 2 = .ok (.putfield 52, 3) := by decide +kernel
theorem dX5_tariff_5 : decode cX5_tariff 5 = .ok (.iload_n 1, 1) := by decide +kernel
theorem dX5_tariff_6 : decode cX5_tariff 6 = .ok (.invokestatic 94, 3) := by decide +kernel
theorem dX5_tariff_9 : decode cX5_tariff 9 = .ok (.ifCond .eq 14, 3) := by decide +kernel
theorem dX5_tariff_12 : decode cX5_tariff 12 = .ok (.iload_n 2, 1) := by decide +kernel
theorem dX5_tariff_13 : decode cX5_tariff 13 = .ok (.bipush (-100), 2) := by decide +kernel
theorem dX5_tariff_15 : decode cX5_tariff 15 = .ok (.bipush 100, 2) := by decide +kernel
theorem dX5_tariff_17 : decode cX5_tariff 17 = .ok (.invokestatic 48, 3) := by decide +kernel
theorem dX5_tariff_20 : decode cX5_tariff 20 = .ok (.ifCond .ne 10, 3) := by decide +kernel
theorem dX5_tariff_23 : decode cX5_tariff 23 = .ok (.aload_n 0, 1) := by decide +kernel
theorem dX5_tariff_24 : decode cX5_tariff 24 = .ok (.bipush (-2), 2) := by decide +kernel
theorem dX5_tariff_26 : decode cX5_tariff 26 = .ok (.invokevirtual 68, 3) := by decide +kernel
theorem dX5_tariff_29 : decode cX5_tariff 29 = .ok (.ireturn, 1) := by decide +kernel
theorem dX5_tariff_30 : decode cX5_tariff 30 = .ok (.aload_n 0, 1) := by decide +kernel
theorem dX5_tariff_31 : decode cX5_tariff 31 = .ok (.getfield 122, 3) := by decide +kernel
theorem dX5_tariff_34 : decode cX5_tariff 34 = .ok (.bipush 10, 2) := by decide +kernel
theorem dX5_tariff_36 : decode cX5_tariff 36 = .ok (.if_icmp .ne 10, 3) := by decide +kernel
theorem dX5_tariff_39 : decode cX5_tariff 39 = .ok (.aload_n 0, 1) := by decide +kernel
theorem dX5_tariff_40 : decode cX5_tariff 40 = .ok (.bipush (-3), 2) := by decide +kernel
theorem dX5_tariff_42 : decode cX5_tariff 42 = .ok (.invokevirtual 68, 3) := by decide +kernel
theorem dX5_tariff_45 : decode cX5_tariff 45 = .ok (.ireturn, 1) := by decide +kernel
theorem dX5_tariff_46 : decode cX5_tariff 46 = .ok (.aload_n 0, 1) := by decide +kernel
theorem dX5_tariff_47 : decode cX5_tariff 47 = .ok (.getfield 35, 3) := by decide +kernel
theorem dX5_tariff_50 : decode cX5_tariff 50 = .ok (.aload_n 0, 1) := by decide +kernel
theorem dX5_tariff_51 : decode cX5_tariff 51 = .ok (.getfield 122, 3) := by decide +kernel
theorem dX5_tariff_54 : decode cX5_tariff 54 = .ok (.iload_n 1, 1) := by decide +kernel
theorem dX5_tariff_55 : decode cX5_tariff 55 = .ok (.iastore, 1) := by decide +kernel
theorem dX5_tariff_56 : decode cX5_tariff 56 = .ok (.aload_n 0, 1) := by decide +kernel
theorem dX5_tariff_57 : decode cX5_tariff 57 = .ok (.getfield 38, 3) := by decide +kernel
theorem dX5_tariff_60 : decode cX5_tariff 60 = .ok (.aload_n 0, 1) := by decide +kernel
theorem dX5_tariff_61 : decode cX5_tariff 61 = .ok (.getfield 122, 3) := by decide +kernel
theorem dX5_tariff_64 : decode cX5_tariff 64 = .ok (.iload_n 2, 1) := by decide +kernel
theorem dX5_tariff_65 : decode cX5_tariff 65 = .ok (.iastore, 1) := by decide +kernel
theorem dX5_tariff_66 : decode cX5_tariff 66 = .ok (.aload_n 0, 1) := by decide +kernel
theorem dX5_tariff_67 : decode cX5_tariff 67 = .ok (.dup, 1) := by decide +kernel
theorem dX5_tariff_68 : decode cX5_tariff 68 = .ok (.getfield 122, 3) := by decide +kernel
theorem dX5_tariff_71 : decode cX5_tariff 71 = .ok (.iconst 1, 1) := by decide +kernel
theorem dX5_tariff_72 : decode cX5_tariff 72 = .ok (.iadd, 1) := by decide +kernel
theorem dX5_tariff_73 : decode cX5_tariff 73 = .ok (.putfield 122, 3) := by decide +kernel
theorem dX5_tariff_76 : decode cX5_tariff 76 = .ok (.aload_n 0, 1) := by decide +kernel
theorem dX5_tariff_77 : decode cX5_tariff 77 = .ok (.getfield 122, 3) := by decide +kernel
theorem dX5_tariff_80 : decode cX5_tariff 80 = .ok (.ireturn, 1) := by decide +kernel
theorem dX5_lineOf_0 : decode cX5_lineOf 0 = .ok (.iconst 0, 1) := by decide +kernel
theorem dX5_lineOf_1 : decode cX5_lineOf 1 = .ok (.istore_n 2, 1) := by decide +kernel
theorem dX5_lineOf_2 : decode cX5_lineOf 2 = .ok (.iload_n 2, 1) := by decide +kernel
theorem dX5_lineOf_3 : decode cX5_lineOf 3 = .ok (.aload_n 0, 1) := by decide +kernel
theorem dX5_lineOf_4 : decode cX5_lineOf 4 = .ok (.getfield 122, 3) := by decide +kernel
theorem dX5_lineOf_7 : decode cX5_lineOf 7 = .ok (.if_icmp .ge 27, 3) := by decide +kernel
theorem dX5_lineOf_10 : decode cX5_lineOf 10 = .ok (.aload_n 0, 1) := by decide +kernel
theorem dX5_lineOf_11 : decode cX5_lineOf 11 = .ok (.getfield 7, 3) := by decide +kernel
theorem dX5_lineOf_14 : decode cX5_lineOf 14 = .ok (.iload_n 1, 1) := by decide +kernel
theorem dX5_lineOf_15 : decode cX5_lineOf 15 = .ok (.iaload, 1) := by decide +kernel
theorem dX5_lineOf_16 : decode cX5_lineOf 16 = .ok (.aload_n 0, 1) := by decide +kernel
theorem dX5_lineOf_17 : decode cX5_lineOf 17 = .ok (.getfield 35, 3) := by decide +kernel
theorem dX5_lineOf_20 : decode cX5_lineOf 20 = .ok (.iload_n 2, 1) := by decide +kernel
theorem dX5_lineOf_21 : decode cX5_lineOf 21 = .ok (.iaload, 1) := by decide +kernel
theorem dX5_lineOf_22 : decode cX5_lineOf 22 = .ok (.invokestatic 88, 3) := by decide +kernel
theorem dX5_lineOf_25 : decode cX5_lineOf 25 = .ok (.ifCond .ne 9, 3) := by decide +kernel
theorem dX5_lineOf_28 : decode cX5_lineOf 28 = .ok (.iinc 2 1, 3) := by decide +kernel
theorem dX5_lineOf_31 : decode cX5_lineOf 31 = .ok (.goto (-29), 3) := by decide +kernel
theorem dX5_lineOf_34 : decode cX5_lineOf 34 = .ok (.iload_n 2, 1) := by decide +kernel
theorem dX5_lineOf_35 : decode cX5_lineOf 35 = .ok (.aload_n 0, 1) := by decide +kernel
theorem dX5_lineOf_36 : decode cX5_lineOf 36 = .ok (.getfield 122, 3) := by decide +kernel
theorem dX5_lineOf_39 : decode cX5_lineOf 39 = .ok (.if_icmp .ge 7, 3) := by decide +kernel
theorem dX5_lineOf_42 : decode cX5_lineOf 42 = .ok (.iload_n 2, 1) := by decide +kernel
theorem dX5_lineOf_43 : decode cX5_lineOf 43 = .ok (.goto 4, 3) := by decide +kernel
theorem dX5_lineOf_46 : decode cX5_lineOf 46 = .ok (.iconst (-1), 1) := by decide +kernel
theorem dX5_lineOf_47 : decode cX5_lineOf 47 = .ok (.ireturn, 1) := by decide +kernel
theorem dX5_duty_0 : decode cX5_duty 0 = .ok (.aload_n 0, 1) := by decide +kernel
theorem dX5_duty_1 : decode cX5_duty 1 = .ok (.aload_n 0, 1) := by decide +kernel
theorem dX5_duty_2 : decode cX5_duty 2 = .ok (.iload_n 1, 1) := by decide +kernel
theorem dX5_duty_3 : decode cX5_duty 3 = .ok (.invokevirtual 72, 3) := by decide +kernel
theorem dX5_duty_6 : decode cX5_duty 6 = .ok (.ifCond .eq 7, 3) := by decide +kernel
theorem dX5_duty_9 : decode cX5_duty 9 = .ok (.iconst 0, 1) := by decide +kernel
theorem dX5_duty_10 : decode cX5_duty 10 = .ok (.goto 5, 3) := by decide +kernel
theorem dX5_duty_13 : decode cX5_duty 13 = .ok (.bipush (-2), 2) := by decide +kernel
theorem dX5_duty_15 : decode cX5_duty 15 = .ok (.putfield 52, 3) := by decide +kernel
theorem dX5_duty_18 : decode cX5_duty 18 = .ok (.aload_n 0, 1) := by decide +kernel
theorem dX5_duty_19 : decode cX5_duty 19 = .ok (.getfield 52, 3) := by decide +kernel
theorem dX5_duty_22 : decode cX5_duty 22 = .ok (.ifCond .ne 11, 3) := by decide +kernel
theorem dX5_duty_25 : decode cX5_duty 25 = .ok (.aload_n 0, 1) := by decide +kernel
theorem dX5_duty_26 : decode cX5_duty 26 = .ok (.iload_n 1, 1) := by decide +kernel
theorem dX5_duty_27 : decode cX5_duty 27 = .ok (.invokevirtual 125, 3) := by decide +kernel
theorem dX5_duty_30 : decode cX5_duty 30 = .ok (.goto 4, 3) := by decide +kernel
theorem dX5_duty_33 : decode cX5_duty 33 = .ok (.iconst (-1), 1) := by decide +kernel
theorem dX5_duty_34 : decode cX5_duty 34 = .ok (.istore_n 2, 1) := by decide +kernel
theorem dX5_duty_35 : decode cX5_duty 35 = .ok (.iload_n 2, 1) := by decide +kernel
theorem dX5_duty_36 : decode cX5_duty 36 = .ok (.iconst (-1), 1) := by decide +kernel
theorem dX5_duty_37 : decode cX5_duty 37 = .ok (.if_icmp .ne 7, 3) := by decide +kernel
theorem dX5_duty_40 : decode cX5_duty 40 = .ok (.iconst 0, 1) := by decide +kernel
theorem dX5_duty_41 : decode cX5_duty 41 = .ok (.goto 21, 3) := by decide +kernel
theorem dX5_duty_44 : decode cX5_duty 44 = .ok (.aload_n 0, 1) := by decide +kernel
theorem dX5_duty_45 : decode cX5_duty 45 = .ok (.getfield 38, 3) := by decide +kernel
theorem dX5_duty_48 : decode cX5_duty 48 = .ok (.iload_n 2, 1) := by decide +kernel
theorem dX5_duty_49 : decode cX5_duty 49 = .ok (.iaload, 1) := by decide +kernel
theorem dX5_duty_50 : decode cX5_duty 50 = .ok (.aload_n 0, 1) := by decide +kernel
theorem dX5_duty_51 : decode cX5_duty 51 = .ok (.iload_n 1, 1) := by decide +kernel
theorem dX5_duty_52 : decode cX5_duty 52 = .ok (.aload_n 0, 1) := by decide +kernel
theorem dX5_duty_53 : decode cX5_duty 53 = .ok (.getfield 35, 3) := by decide +kernel
theorem dX5_duty_56 : decode cX5_duty 56 = .ok (.iload_n 2, 1) := by decide +kernel
theorem dX5_duty_57 : decode cX5_duty 57 = .ok (.iaload, 1) := by decide +kernel
theorem dX5_duty_58 : decode cX5_duty 58 = .ok (.invokevirtual 97, 3) := by decide +kernel
theorem dX5_duty_61 : decode cX5_duty 61 = .ok (.imul, 1) := by decide +kernel
theorem dX5_duty_62 : decode cX5_duty 62 = .ok (.ireturn, 1) := by decide +kernel
theorem dX5_line_0 : decode cX5_line 0 = .ok (.aload_n 0, 1) := by decide +kernel
theorem dX5_line_1 : decode cX5_line 1 = .ok (.iconst 0, 1) := by decide +kernel
theorem dX5_line_2 : decode cX5_line 2 = .ok (.putfield 52, 3) := by decide +kernel
theorem dX5_line_5 : decode cX5_line 5 = .ok (.aload_n 0, 1) := by decide +kernel
theorem dX5_line_6 : decode cX5_line 6 = .ok (.iload_n 1, 1) := by decide +kernel
theorem dX5_line_7 : decode cX5_line 7 = .ok (.invokevirtual 72, 3) := by decide +kernel
theorem dX5_line_10 : decode cX5_line 10 = .ok (.ifCond .eq 11, 3) := by decide +kernel
theorem dX5_line_13 : decode cX5_line 13 = .ok (.aload_n 0, 1) := by decide +kernel
theorem dX5_line_14 : decode cX5_line 14 = .ok (.iload_n 1, 1) := by decide +kernel
theorem dX5_line_15 : decode cX5_line 15 = .ok (.invokevirtual 125, 3) := by decide +kernel
theorem dX5_line_18 : decode cX5_line 18 = .ok (.goto 9, 3) := by decide +kernel
theorem dX5_line_21 : decode cX5_line 21 = .ok (.aload_n 0, 1) := by decide +kernel
theorem dX5_line_22 : decode cX5_line 22 = .ok (.bipush (-2), 2) := by decide +kernel
theorem dX5_line_24 : decode cX5_line 24 = .ok (.invokevirtual 68, 3) := by decide +kernel
theorem dX5_line_27 : decode cX5_line 27 = .ok (.ireturn, 1) := by decide +kernel
theorem dX5_refused_0 : decode cX5_refused 0 = .ok (.aload_n 0, 1) := by decide +kernel
theorem dX5_refused_1 : decode cX5_refused 1 = .ok (.getfield 52, 3) := by decide +kernel
theorem dX5_refused_4 : decode cX5_refused 4 = .ok (.ireturn, 1) := by decide +kernel
theorem dX5_count_0 : decode cX5_count 0 = .ok (.iload_n 1, 1) := by decide +kernel
theorem dX5_count_1 : decode cX5_count 1 = .ok (.tableswitch 69 0 5 #[39, 44, 49, 54, 59, 64], 39) := by decide +kernel
theorem dX5_count_40 : decode cX5_count 40 = .ok (.aload_n 0, 1) := by decide +kernel
theorem dX5_count_41 : decode cX5_count 41 = .ok (.getfield 44, 3) := by decide +kernel
theorem dX5_count_44 : decode cX5_count 44 = .ok (.ireturn, 1) := by decide +kernel
theorem dX5_count_45 : decode cX5_count 45 = .ok (.aload_n 0, 1) := by decide +kernel
theorem dX5_count_46 : decode cX5_count 46 = .ok (.getfield 55, 3) := by decide +kernel
theorem dX5_count_49 : decode cX5_count 49 = .ok (.ireturn, 1) := by decide +kernel
theorem dX5_count_50 : decode cX5_count 50 = .ok (.aload_n 0, 1) := by decide +kernel
theorem dX5_count_51 : decode cX5_count 51 = .ok (.getfield 58, 3) := by decide +kernel
theorem dX5_count_54 : decode cX5_count 54 = .ok (.ireturn, 1) := by decide +kernel
theorem dX5_count_55 : decode cX5_count 55 = .ok (.aload_n 0, 1) := by decide +kernel
theorem dX5_count_56 : decode cX5_count 56 = .ok (.getfield 61, 3) := by decide +kernel
theorem dX5_count_59 : decode cX5_count 59 = .ok (.ireturn, 1) := by decide +kernel
theorem dX5_count_60 : decode cX5_count 60 = .ok (.aload_n 0, 1) := by decide +kernel
theorem dX5_count_61 : decode cX5_count 61 = .ok (.getfield 119, 3) := by decide +kernel
theorem dX5_count_64 : decode cX5_count 64 = .ok (.ireturn, 1) := by decide +kernel
theorem dX5_count_65 : decode cX5_count 65 = .ok (.aload_n 0, 1) := by decide +kernel
theorem dX5_count_66 : decode cX5_count 66 = .ok (.getfield 122, 3) := by decide +kernel
theorem dX5_count_69 : decode cX5_count 69 = .ok (.ireturn, 1) := by decide +kernel
theorem dX5_count_70 : decode cX5_count 70 = .ok (.bipush (-2), 2) := by decide +kernel
theorem dX5_count_72 : decode cX5_count 72 = .ok (.ireturn, 1) := by decide +kernel
theorem dJ7_fill_53178_0 : decode cJ7_fill_53178 0 = .ok (.iconst 0, 1) := by decide +kernel
theorem dJ7_fill_53178_1 : decode cJ7_fill_53178 1 = .ok (.istore_n 2, 1) := by decide +kernel
theorem dJ7_fill_53178_2 : decode cJ7_fill_53178 2 = .ok (.aload_n 0, 1) := by decide +kernel
theorem dJ7_fill_53178_3 : decode cJ7_fill_53178 3 = .ok (.arraylength, 1) := by decide +kernel
theorem dJ7_fill_53178_4 : decode cJ7_fill_53178 4 = .ok (.istore_n 3, 1) := by decide +kernel
theorem dJ7_fill_53178_5 : decode cJ7_fill_53178 5 = .ok (.iload_n 2, 1) := by decide +kernel
theorem dJ7_fill_53178_6 : decode cJ7_fill_53178 6 = .ok (.iload_n 3, 1) := by decide +kernel
theorem dJ7_fill_53178_7 : decode cJ7_fill_53178 7 = .ok (.if_icmp .ge 13, 3) := by decide +kernel
theorem dJ7_fill_53178_10 : decode cJ7_fill_53178 10 = .ok (.aload_n 0, 1) := by decide +kernel
theorem dJ7_fill_53178_11 : decode cJ7_fill_53178 11 = .ok (.iload_n 2, 1) := by decide +kernel
theorem dJ7_fill_53178_12 : decode cJ7_fill_53178 12 = .ok (.iload_n 1, 1) := by decide +kernel
theorem dJ7_fill_53178_13 : decode cJ7_fill_53178 13 = .ok (.iastore, 1) := by decide +kernel
theorem dJ7_fill_53178_14 : decode cJ7_fill_53178 14 = .ok (.iinc 2 1, 3) := by decide +kernel
theorem dJ7_fill_53178_17 : decode cJ7_fill_53178 17 = .ok (.goto (-12), 3) := by decide +kernel
theorem dJ7_fill_53178_20 : decode cJ7_fill_53178 20 = .ok (.return_, 1) := by decide +kernel

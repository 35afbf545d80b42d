theorem dX0_init_0 : decode cX0_init 0 = .ok (.aload_n 0, 1) := by decide +kernel
theorem dX0_init_1 : decode cX0_init 1 = .ok (.invokespecial 3, 3) := by decide +kernel
theorem dX0_init_4 : decode cX0_init 4 = .ok (.aload_n 0, 1) := by decide +kernel
theorem dX0_init_5 : decode cX0_init 5 = .ok (.iload_n 1, 1) := by decide +kernel
theorem dX0_init_6 : decode cX0_init 6 = .ok (.putfield 9, 3) := by decide +kernel
theorem dX0_init_9 : decode cX0_init 9 = .ok (.aload_n 0, 1) := by decide +kernel
theorem dX0_init_10 : decode cX0_init 10 = .ok (.iload_n 2, 1) := by decide +kernel
theorem dX0_init_11 : decode cX0_init 11 = .ok (.putfield 15, 3) := by decide +kernel
theorem dX0_init_14 : decode cX0_init 14 = .ok (.return_, 1) := by decide +kernel
theorem dX0_goesAs_0 : decode cX0_goesAs 0 = .ok (.aload_n 0, 1) := by decide +kernel
theorem dX0_goesAs_1 : decode cX0_goesAs 1 = .ok (.getfield 15, 3) := by decide +kernel
theorem dX0_goesAs_4 : decode cX0_goesAs 4 = .ok (.tableswitch 132 5 11 #[44, 66, 132, 84, 132, 132, 108], 44) := by decide +kernel
theorem dX0_goesAs_48 : decode cX0_goesAs 48 = .ok (.iload_n 1, 1) := by decide +kernel
theorem dX0_goesAs_49 : decode cX0_goesAs 49 = .ok (.iconst 5, 1) := by decide +kernel
theorem dX0_goesAs_50 : decode cX0_goesAs 50 = .ok (.if_icmp .eq 14, 3) := by decide +kernel
theorem dX0_goesAs_53 : decode cX0_goesAs 53 = .ok (.iload_n 1, 1) := by decide +kernel
theorem dX0_goesAs_54 : decode cX0_goesAs 54 = .ok (.iconst 4, 1) := by decide +kernel
theorem dX0_goesAs_55 : decode cX0_goesAs 55 = .ok (.if_icmp .eq 9, 3) := by decide +kernel
theorem dX0_goesAs_58 : decode cX0_goesAs 58 = .ok (.iload_n 1, 1) := by decide +kernel
theorem dX0_goesAs_59 : decode cX0_goesAs 59 = .ok (.bipush 13, 2) := by decide +kernel
theorem dX0_goesAs_61 : decode cX0_goesAs 61 = .ok (.if_icmp .ne 7, 3) := by decide +kernel
theorem dX0_goesAs_64 : decode cX0_goesAs 64 = .ok (.iconst 1, 1) := by decide +kernel
theorem dX0_goesAs_65 : decode cX0_goesAs 65 = .ok (.goto 4, 3) := by decide +kernel
theorem dX0_goesAs_68 : decode cX0_goesAs 68 = .ok (.iconst 0, 1) := by decide +kernel
theorem dX0_goesAs_69 : decode cX0_goesAs 69 = .ok (.ireturn, 1) := by decide +kernel
theorem dX0_goesAs_70 : decode cX0_goesAs 70 = .ok (.iload_n 1, 1) := by decide +kernel
theorem dX0_goesAs_71 : decode cX0_goesAs 71 = .ok (.bipush 6, 2) := by decide +kernel
theorem dX0_goesAs_73 : decode cX0_goesAs 73 = .ok (.if_icmp .eq 9, 3) := by decide +kernel
theorem dX0_goesAs_76 : decode cX0_goesAs 76 = .ok (.iload_n 1, 1) := by decide +kernel
theorem dX0_goesAs_77 : decode cX0_goesAs 77 = .ok (.bipush 13, 2) := by decide +kernel
theorem dX0_goesAs_79 : decode cX0_goesAs 79 = .ok (.if_icmp .ne 7, 3) := by decide +kernel
theorem dX0_goesAs_82 : decode cX0_goesAs 82 = .ok (.iconst 1, 1) := by decide +kernel
theorem dX0_goesAs_83 : decode cX0_goesAs 83 = .ok (.goto 4, 3) := by decide +kernel
theorem dX0_goesAs_86 : decode cX0_goesAs 86 = .ok (.iconst 0, 1) := by decide +kernel
theorem dX0_goesAs_87 : decode cX0_goesAs 87 = .ok (.ireturn, 1) := by decide +kernel
theorem dX0_goesAs_88 : decode cX0_goesAs 88 = .ok (.iload_n 1, 1) := by decide +kernel
theorem dX0_goesAs_89 : decode cX0_goesAs 89 = .ok (.bipush 8, 2) := by decide +kernel
theorem dX0_goesAs_91 : decode cX0_goesAs 91 = .ok (.if_icmp .eq 15, 3) := by decide +kernel
theorem dX0_goesAs_94 : decode cX0_goesAs 94 = .ok (.iload_n 1, 1) := by decide +kernel
theorem dX0_goesAs_95 : decode cX0_goesAs 95 = .ok (.bipush 7, 2) := by decide +kernel
theorem dX0_goesAs_97 : decode cX0_goesAs 97 = .ok (.if_icmp .eq 9, 3) := by decide +kernel
theorem dX0_goesAs_100 : decode cX0_goesAs 100 = .ok (.iload_n 1, 1) := by decide +kernel
theorem dX0_goesAs_101 : decode cX0_goesAs 101 = .ok (.bipush 9, 2) := by decide +kernel
theorem dX0_goesAs_103 : decode cX0_goesAs 103 = .ok (.if_icmp .ne 7, 3) := by decide +kernel
theorem dX0_goesAs_106 : decode cX0_goesAs 106 = .ok (.iconst 1, 1) := by decide +kernel
theorem dX0_goesAs_107 : decode cX0_goesAs 107 = .ok (.goto 4, 3) := by decide +kernel
theorem dX0_goesAs_110 : decode cX0_goesAs 110 = .ok (.iconst 0, 1) := by decide +kernel
theorem dX0_goesAs_111 : decode cX0_goesAs 111 = .ok (.ireturn, 1) := by decide +kernel
theorem dX0_goesAs_112 : decode cX0_goesAs 112 = .ok (.iload_n 1, 1) := by decide +kernel
theorem dX0_goesAs_113 : decode cX0_goesAs 113 = .ok (.bipush 11, 2) := by decide +kernel
theorem dX0_goesAs_115 : decode cX0_goesAs 115 = .ok (.if_icmp .eq 15, 3) := by decide +kernel
theorem dX0_goesAs_118 : decode cX0_goesAs 118 = .ok (.iload_n 1, 1) := by decide +kernel
theorem dX0_goesAs_119 : decode cX0_goesAs 119 = .ok (.bipush 10, 2) := by decide +kernel
theorem dX0_goesAs_121 : decode cX0_goesAs 121 = .ok (.if_icmp .eq 9, 3) := by decide +kernel
theorem dX0_goesAs_124 : decode cX0_goesAs 124 = .ok (.iload_n 1, 1) := by decide +kernel
theorem dX0_goesAs_125 : decode cX0_goesAs 125 = .ok (.bipush 12, 2) := by decide +kernel
theorem dX0_goesAs_127 : decode cX0_goesAs 127 = .ok (.if_icmp .ne 7, 3) := by decide +kernel
theorem dX0_goesAs_130 : decode cX0_goesAs 130 = .ok (.iconst 1, 1) := by decide +kernel
theorem dX0_goesAs_131 : decode cX0_goesAs 131 = .ok (.goto 4, 3) := by decide +kernel
theorem dX0_goesAs_134 : decode cX0_goesAs 134 = .ok (.iconst 0, 1) := by decide +kernel
theorem dX0_goesAs_135 : decode cX0_goesAs 135 = .ok (.ireturn, 1) := by decide +kernel
theorem dX0_goesAs_136 : decode cX0_goesAs 136 = .ok (.iload_n 1, 1) := by decide +kernel
theorem dX0_goesAs_137 : decode cX0_goesAs 137 = .ok (.aload_n 0, 1) := by decide +kernel
theorem dX0_goesAs_138 : decode cX0_goesAs 138 = .ok (.getfield 15, 3) := by decide +kernel
theorem dX0_goesAs_141 : decode cX0_goesAs 141 = .ok (.if_icmp .ne 7, 3) := by decide +kernel
theorem dX0_goesAs_144 : decode cX0_goesAs 144 = .ok (.iconst 1, 1) := by decide +kernel
theorem dX0_goesAs_145 : decode cX0_goesAs 145 = .ok (.goto 4, 3) := by decide +kernel
theorem dX0_goesAs_148 : decode cX0_goesAs 148 = .ok (.iconst 0, 1) := by decide +kernel
theorem dX0_goesAs_149 : decode cX0_goesAs 149 = .ok (.ireturn, 1) := by decide +kernel
theorem dX0_tally_0 : decode cX0_tally 0 = .ok (.aload_n 0, 1) := by decide +kernel
theorem dX0_tally_1 : decode cX0_tally 1 = .ok (.iload_n 1, 1) := by decide +kernel
theorem dX0_tally_2 : decode cX0_tally 2 = .ok (.invokevirtual 18, 3) := by decide +kernel
theorem dX0_tally_5 : decode cX0_tally 5 = .ok (.ifCond .eq 7, 3) := by decide +kernel
theorem dX0_tally_8 : decode cX0_tally 8 = .ok (.iconst 1, 1) := by decide +kernel
theorem dX0_tally_9 : decode cX0_tally 9 = .ok (.goto 4, 3) := by decide +kernel
theorem dX0_tally_12 : decode cX0_tally 12 = .ok (.iconst 0, 1) := by decide +kernel
theorem dX0_tally_13 : decode cX0_tally 13 = .ok (.ireturn, 1) := by decide +kernel
theorem dX1_init_0 : decode cX1_init 0 = .ok (.aload_n 0, 1) := by decide +kernel
theorem dX1_init_1 : decode cX1_init 1 = .ok (.iload_n 1, 1) := by decide +kernel
theorem dX1_init_2 : decode cX1_init 2 = .ok (.iload_n 2, 1) := by decide +kernel
theorem dX1_init_3 : decode cX1_init 3 = .ok (.invokespecial 1, 3) := by decide +kernel
theorem dX1_init_6 : decode cX1_init 6 = .ok (.aload_n 0, 1) := by decide +kernel
theorem dX1_init_7 : decode cX1_init 7 = .ok (.aload_n 3, 1) := by decide +kernel
theorem dX1_init_8 : decode cX1_init 8 = .ok (.putfield 7, 3) := by decide +kernel
theorem dX1_init_11 : decode cX1_init 11 = .ok (.return_, 1) := by decide +kernel
theorem dX1_hasPlace_0 : decode cX1_hasPlace 0 = .ok (.iload_n 1, 1) := by decide +kernel
theorem dX1_hasPlace_1 : decode cX1_hasPlace 1 = .ok (.ifCond .lt 16, 3) := by decide +kernel
theorem dX1_hasPlace_4 : decode cX1_hasPlace 4 = .ok (.iload_n 1, 1) := by decide +kernel
theorem dX1_hasPlace_5 : decode cX1_hasPlace 5 = .ok (.aload_n 0, 1) := by decide +kernel
theorem dX1_hasPlace_6 : decode cX1_hasPlace 6 = .ok (.getfield 7, 3) := by decide +kernel
theorem dX1_hasPlace_9 : decode cX1_hasPlace 9 = .ok (.arraylength, 1) := by decide +kernel
theorem dX1_hasPlace_10 : decode cX1_hasPlace 10 = .ok (.if_icmp .ge 7, 3) := by decide +kernel
theorem dX1_hasPlace_13 : decode cX1_hasPlace 13 = .ok (.iconst 1, 1) := by decide +kernel
theorem dX1_hasPlace_14 : decode cX1_hasPlace 14 = .ok (.goto 4, 3) := by decide +kernel
theorem dX1_hasPlace_17 : decode cX1_hasPlace 17 = .ok (.iconst 0, 1) := by decide +kernel
theorem dX1_hasPlace_18 : decode cX1_hasPlace 18 = .ok (.ireturn, 1) := by decide +kernel
theorem dX1_comesAs_0 : decode cX1_comesAs 0 = .ok (.aload_n 0, 1) := by decide +kernel
theorem dX1_comesAs_1 : decode cX1_comesAs 1 = .ok (.getfield 7, 3) := by decide +kernel
theorem dX1_comesAs_4 : decode cX1_comesAs 4 = .ok (.arraylength, 1) := by decide +kernel
theorem dX1_comesAs_5 : decode cX1_comesAs 5 = .ok (.ireturn, 1) := by decide +kernel
theorem dX1_weigh_0 : decode cX1_weigh 0 = .ok (.lconst 0, 1) := by decide +kernel
theorem dX1_weigh_1 : decode cX1_weigh 1 = .ok (.lstore_n 2, 1) := by decide +kernel
theorem dX1_weigh_2 : decode cX1_weigh 2 = .ok (.aload_n 0, 1) := by decide +kernel
theorem dX1_weigh_3 : decode cX1_weigh 3 = .ok (.getfield 7, 3) := by decide +kernel
theorem dX1_weigh_6 : decode cX1_weigh 6 = .ok (.astore 4, 2) := by decide +kernel
theorem dX1_weigh_8 : decode cX1_weigh 8 = .ok (.aload 4, 2) := by decide +kernel
theorem dX1_weigh_10 : decode cX1_weigh 10 = .ok (.arraylength, 1) := by decide +kernel
theorem dX1_weigh_11 : decode cX1_weigh 11 = .ok (.istore 5, 2) := by decide +kernel
theorem dX1_weigh_13 : decode cX1_weigh 13 = .ok (.iconst 0, 1) := by decide +kernel
theorem dX1_weigh_14 : decode cX1_weigh 14 = .ok (.istore 6, 2) := by decide +kernel
theorem dX1_weigh_16 : decode cX1_weigh 16 = .ok (.iload 6, 2) := by decide +kernel
theorem dX1_weigh_18 : decode cX1_weigh 18 = .ok (.iload 5, 2) := by decide +kernel
theorem dX1_weigh_20 : decode cX1_weigh 20 = .ok (.if_icmp .ge 21, 3) := by decide +kernel
theorem dX1_weigh_23 : decode cX1_weigh 23 = .ok (.aload 4, 2) := by decide +kernel
theorem dX1_weigh_25 : decode cX1_weigh 25 = .ok (.iload 6, 2) := by decide +kernel
theorem dX1_weigh_27 : decode cX1_weigh 27 = .ok (.laload, 1) := by decide +kernel
theorem dX1_weigh_28 : decode cX1_weigh 28 = .ok (.lstore 7, 2) := by decide +kernel
theorem dX1_weigh_30 : decode cX1_weigh 30 = .ok (.lload_n 2, 1) := by decide +kernel
theorem dX1_weigh_31 : decode cX1_weigh 31 = .ok (.lload 7, 2) := by decide +kernel
theorem dX1_weigh_33 : decode cX1_weigh 33 = .ok (.ladd, 1) := by decide +kernel
theorem dX1_weigh_34 : decode cX1_weigh 34 = .ok (.lstore_n 2, 1) := by decide +kernel
theorem dX1_weigh_35 : decode cX1_weigh 35 = .ok (.iinc 6 1, 3) := by decide +kernel
theorem dX1_weigh_38 : decode cX1_weigh 38 = .ok (.goto (-22), 3) := by decide +kernel
theorem dX1_weigh_41 : decode cX1_weigh 41 = .ok (.lload_n 2, 1) := by decide +kernel
theorem dX1_weigh_42 : decode cX1_weigh 42 = .ok (.lreturn, 1) := by decide +kernel
theorem dX2_init_0 : decode cX2_init 0 = .ok (.aload_n 0, 1) := by decide +kernel
theorem dX2_init_1 : decode cX2_init 1 = .ok (.iload_n 1, 1) := by decide +kernel
theorem dX2_init_2 : decode cX2_init 2 = .ok (.iload_n 2, 1) := by decide +kernel
theorem dX2_init_3 : decode cX2_init 3 = .ok (.invokespecial 3, 3) := by decide +kernel
theorem dX2_init_6 : decode cX2_init 6 = .ok (.aload_n 0, 1) := by decide +kernel
theorem dX2_init_7 : decode cX2_init 7 = .ok (.iload_n 3, 1) := by decide +kernel
theorem dX2_init_8 : decode cX2_init 8 = .ok (.putfield 9, 3) := by decide +kernel
theorem dX2_init_11 : decode cX2_init 11 = .ok (.return_, 1) := by decide +kernel
theorem dX2_comesAs_0 : decode cX2_comesAs 0 = .ok (.iload_n 1, 1) := by decide +kernel
theorem dX2_comesAs_1 : decode cX2_comesAs 1 = .ok (.bipush 13, 2) := by decide +kernel
theorem dX2_comesAs_3 : decode cX2_comesAs 3 = .ok (.if_icmp .ne 10, 3) := by decide +kernel
theorem dX2_comesAs_6 : decode cX2_comesAs 6 = .ok (.aload_n 0, 1) := by decide +kernel
theorem dX2_comesAs_7 : decode cX2_comesAs 7 = .ok (.invokevirtual 15, 3) := by decide +kernel
theorem dX2_comesAs_10 : decode cX2_comesAs 10 = .ok (.goto 7, 3) := by decide +kernel
theorem dX2_comesAs_13 : decode cX2_comesAs 13 = .ok (.aload_n 0, 1) := by decide +kernel
theorem dX2_comesAs_14 : decode cX2_comesAs 14 = .ok (.getfield 9, 3) := by decide +kernel
theorem dX2_comesAs_17 : decode cX2_comesAs 17 = .ok (.ireturn, 1) := by decide +kernel
theorem dX2_declaration_0 : decode cX2_declaration 0 = .ok (.aload_n 0, 1) := by decide +kernel
theorem dX2_declaration_1 : decode cX2_declaration 1 = .ok (.getfield 19, 3) := by decide +kernel
theorem dX2_declaration_4 : decode cX2_declaration 4 = .ok (.iconst 5, 1) := by decide +kernel
theorem dX2_declaration_5 : decode cX2_declaration 5 = .ok (.if_icmp .ne 14, 3) := by decide +kernel
theorem dX2_declaration_8 : decode cX2_declaration 8 = .ok (.aload_n 0, 1) := by decide +kernel
theorem dX2_declaration_9 : decode cX2_declaration 9 = .ok (.getfield 9, 3) := by decide +kernel
theorem dX2_declaration_12 : decode cX2_declaration 12 = .ok (.sipush 1000, 3) := by decide +kernel
theorem dX2_declaration_15 : decode cX2_declaration 15 = .ok (.iadd, 1) := by decide +kernel
theorem dX2_declaration_16 : decode cX2_declaration 16 = .ok (.goto 9, 3) := by decide +kernel
theorem dX2_declaration_19 : decode cX2_declaration 19 = .ok (.iconst 2, 1) := by decide +kernel
theorem dX2_declaration_20 : decode cX2_declaration 20 = .ok (.aload_n 0, 1) := by decide +kernel
theorem dX2_declaration_21 : decode cX2_declaration 21 = .ok (.getfield 9, 3) := by decide +kernel
theorem dX2_declaration_24 : decode cX2_declaration 24 = .ok (.imul, 1) := by decide +kernel
theorem dX2_declaration_25 : decode cX2_declaration 25 = .ok (.ireturn, 1) := by decide +kernel
theorem dX2_weigh_0 : decode cX2_weigh 0 = .ok (.aload_n 0, 1) := by decide +kernel
theorem dX2_weigh_1 : decode cX2_weigh 1 = .ok (.getfield 9, 3) := by decide +kernel
theorem dX2_weigh_4 : decode cX2_weigh 4 = .ok (.i2l, 1) := by decide +kernel
theorem dX2_weigh_5 : decode cX2_weigh 5 = .ok (.lreturn, 1) := by decide +kernel
theorem dX3_init_0 : decode cX3_init 0 = .ok (.aload_n 0, 1) := by decide +kernel
theorem dX3_init_1 : decode cX3_init 1 = .ok (.iload_n 1, 1) := by decide +kernel
theorem dX3_init_2 : decode cX3_init 2 = .ok (.iload_n 2, 1) := by decide +kernel
theorem dX3_init_3 : decode cX3_init 3 = .ok (.invokespecial 3, 3) := by decide +kernel
theorem dX3_init_6 : decode cX3_init 6 = .ok (.aload_n 0, 1) := by decide +kernel
theorem dX3_init_7 : decode cX3_init 7 = .ok (.aload_n 3, 1) := by decide +kernel
theorem dX3_init_8 : decode cX3_init 8 = .ok (.putfield 9, 3) := by decide +kernel
theorem dX3_init_11 : decode cX3_init 11 = .ok (.return_, 1) := by decide +kernel
theorem dX3_hasPlace_0 : decode cX3_hasPlace 0 = .ok (.iload_n 1, 1) := by decide +kernel
theorem dX3_hasPlace_1 : decode cX3_hasPlace 1 = .ok (.ifCond .lt 16, 3) := by decide +kernel
theorem dX3_hasPlace_4 : decode cX3_hasPlace 4 = .ok (.iload_n 1, 1) := by decide +kernel
theorem dX3_hasPlace_5 : decode cX3_hasPlace 5 = .ok (.aload_n 0, 1) := by decide +kernel
theorem dX3_hasPlace_6 : decode cX3_hasPlace 6 = .ok (.getfield 9, 3) := by decide +kernel
theorem dX3_hasPlace_9 : decode cX3_hasPlace 9 = .ok (.arraylength, 1) := by decide +kernel
theorem dX3_hasPlace_10 : decode cX3_hasPlace 10 = .ok (.if_icmp .ge 7, 3) := by decide +kernel
theorem dX3_hasPlace_13 : decode cX3_hasPlace 13 = .ok (.iconst 1, 1) := by decide +kernel
theorem dX3_hasPlace_14 : decode cX3_hasPlace 14 = .ok (.goto 4, 3) := by decide +kernel
theorem dX3_hasPlace_17 : decode cX3_hasPlace 17 = .ok (.iconst 0, 1) := by decide +kernel
theorem dX3_hasPlace_18 : decode cX3_hasPlace 18 = .ok (.ireturn, 1) := by decide +kernel
theorem dX3_viewAsked_0 : decode cX3_viewAsked 0 = .ok (.aload_n 0, 1) := by decide +kernel
theorem dX3_viewAsked_1 : decode cX3_viewAsked 1 = .ok (.getfield 15, 3) := by decide +kernel
theorem dX3_viewAsked_4 : decode cX3_viewAsked 4 = .ok (.tableswitch 62 3 11 #[52, 62, 62, 62, 54, 54, 56, 59, 59], 52) := by decide +kernel
theorem dX3_viewAsked_56 : decode cX3_viewAsked 56 = .ok (.iconst 0, 1) := by decide +kernel
theorem dX3_viewAsked_57 : decode cX3_viewAsked 57 = .ok (.ireturn, 1) := by decide +kernel
theorem dX3_viewAsked_58 : decode cX3_viewAsked 58 = .ok (.iconst 4, 1) := by decide +kernel
theorem dX3_viewAsked_59 : decode cX3_viewAsked 59 = .ok (.ireturn, 1) := by decide +kernel
theorem dX3_viewAsked_60 : decode cX3_viewAsked 60 = .ok (.bipush 13, 2) := by decide +kernel
theorem dX3_viewAsked_62 : decode cX3_viewAsked 62 = .ok (.ireturn, 1) := by decide +kernel
theorem dX3_viewAsked_63 : decode cX3_viewAsked 63 = .ok (.bipush 7, 2) := by decide +kernel
theorem dX3_viewAsked_65 : decode cX3_viewAsked 65 = .ok (.ireturn, 1) := by decide +kernel
theorem dX3_viewAsked_66 : decode cX3_viewAsked 66 = .ok (.bipush 9, 2) := by decide +kernel
theorem dX3_viewAsked_68 : decode cX3_viewAsked 68 = .ok (.ireturn, 1) := by decide +kernel
theorem dX3_viewKept_0 : decode cX3_viewKept 0 = .ok (.aload_n 0, 1) := by decide +kernel
theorem dX3_viewKept_1 : decode cX3_viewKept 1 = .ok (.getfield 15, 3) := by decide +kernel
theorem dX3_viewKept_4 : decode cX3_viewKept 4 = .ok (.lookupswitch 33 #[(8, 28), (11, 30)], 28) := by decide +kernel
theorem dX3_viewKept_32 : decode cX3_viewKept 32 = .ok (.iconst 5, 1) := by decide +kernel
theorem dX3_viewKept_33 : decode cX3_viewKept 33 = .ok (.ireturn, 1) := by decide +kernel
theorem dX3_viewKept_34 : decode cX3_viewKept 34 = .ok (.bipush 8, 2) := by decide +kernel
theorem dX3_viewKept_36 : decode cX3_viewKept 36 = .ok (.ireturn, 1) := by decide +kernel
theorem dX3_viewKept_37 : decode cX3_viewKept 37 = .ok (.aload_n 0, 1) := by decide +kernel
theorem dX3_viewKept_38 : decode cX3_viewKept 38 = .ok (.invokevirtual 19, 3) := by decide +kernel
theorem dX3_viewKept_41 : decode cX3_viewKept 41 = .ok (.ireturn, 1) := by decide +kernel
theorem dX3_comesAs_0 : decode cX3_comesAs 0 = .ok (.aload_n 0, 1) := by decide +kernel
theorem dX3_comesAs_1 : decode cX3_comesAs 1 = .ok (.getfield 9, 3) := by decide +kernel
theorem dX3_comesAs_4 : decode cX3_comesAs 4 = .ok (.arraylength, 1) := by decide +kernel
theorem dX3_comesAs_5 : decode cX3_comesAs 5 = .ok (.ireturn, 1) := by decide +kernel
theorem dX3_weigh_0 : decode cX3_weigh 0 = .ok (.lconst 0, 1) := by decide +kernel
theorem dX3_weigh_1 : decode cX3_weigh 1 = .ok (.lstore_n 2, 1) := by decide +kernel
theorem dX3_weigh_2 : decode cX3_weigh 2 = .ok (.iload_n 1, 1) := by decide +kernel
theorem dX3_weigh_3 : decode cX3_weigh 3 = .ok (.iconst 1, 1) := by decide +kernel
theorem dX3_weigh_4 : decode cX3_weigh 4 = .ok (.if_icmp .gt 5, 3) := by decide +kernel
theorem dX3_weigh_7 : decode cX3_weigh 7 = .ok (.lload_n 2, 1) := by decide +kernel
theorem dX3_weigh_8 : decode cX3_weigh 8 = .ok (.lreturn, 1) := by decide +kernel
theorem dX3_weigh_9 : decode cX3_weigh 9 = .ok (.aload_n 0, 1) := by decide +kernel
theorem dX3_weigh_10 : decode cX3_weigh 10 = .ok (.getfield 9, 3) := by decide +kernel
theorem dX3_weigh_13 : decode cX3_weigh 13 = .ok (.astore 4, 2) := by decide +kernel
theorem dX3_weigh_15 : decode cX3_weigh 15 = .ok (.aload 4, 2) := by decide +kernel
theorem dX3_weigh_17 : decode cX3_weigh 17 = .ok (.arraylength, 1) := by decide +kernel
theorem dX3_weigh_18 : decode cX3_weigh 18 = .ok (.istore 5, 2) := by decide +kernel
theorem dX3_weigh_20 : decode cX3_weigh 20 = .ok (.iconst 0, 1) := by decide +kernel
theorem dX3_weigh_21 : decode cX3_weigh 21 = .ok (.istore 6, 2) := by decide +kernel
theorem dX3_weigh_23 : decode cX3_weigh 23 = .ok (.iload 6, 2) := by decide +kernel
theorem dX3_weigh_25 : decode cX3_weigh 25 = .ok (.iload 5, 2) := by decide +kernel
theorem dX3_weigh_27 : decode cX3_weigh 27 = .ok (.if_icmp .ge 32, 3) := by decide +kernel
theorem dX3_weigh_30 : decode cX3_weigh 30 = .ok (.aload 4, 2) := by decide +kernel
theorem dX3_weigh_32 : decode cX3_weigh 32 = .ok (.iload 6, 2) := by decide +kernel
theorem dX3_weigh_34 : decode cX3_weigh 34 = .ok (.aaload, 1) := by decide +kernel
theorem dX3_weigh_35 : decode cX3_weigh 35 = .ok (.astore 7, 2) := by decide +kernel
theorem dX3_weigh_37 : decode cX3_weigh 37 = .ok (.aload 7, 2) := by decide +kernel
theorem dX3_weigh_39 : decode cX3_weigh 39 = .ok (.ifnull 14, 3) := by decide +kernel
theorem dX3_weigh_42 : decode cX3_weigh 42 = .ok (.lload_n 2, 1) := by decide +kernel
theorem dX3_weigh_43 : decode cX3_weigh 43 = .ok (.aload 7, 2) := by decide +kernel
theorem dX3_weigh_45 : decode cX3_weigh 45 = .ok (.iload_n 1, 1) := by decide +kernel
theorem dX3_weigh_46 : decode cX3_weigh 46 = .ok (.iconst 1, 1) := by decide +kernel
theorem dX3_weigh_47 : decode cX3_weigh 47 = .ok (.isub, 1) := by decide +kernel
theorem dX3_weigh_48 : decode cX3_weigh 48 = .ok (.invokevirtual 23, 3) := by decide +kernel
theorem dX3_weigh_51 : decode cX3_weigh 51 = .ok (.ladd, 1) := by decide +kernel
theorem dX3_weigh_52 : decode cX3_weigh 52 = .ok (.lstore_n 2, 1) := by decide +kernel
theorem dX3_weigh_53 : decode cX3_weigh 53 = .ok (.iinc 6 1, 3) := by decide +kernel
theorem dX3_weigh_56 : decode cX3_weigh 56 = .ok (.goto (-33), 3) := by decide +kernel
theorem dX3_weigh_59 : decode cX3_weigh 59 = .ok (.lload_n 2, 1) := by decide +kernel
theorem dX3_weigh_60 : decode cX3_weigh 60 = .ok (.lreturn, 1) := by decide +kernel
theorem dX3_tally_0 : decode cX3_tally 0 = .ok (.aload_n 0, 1) := by decide +kernel
theorem dX3_tally_1 : decode cX3_tally 1 = .ok (.iload_n 1, 1) := by decide +kernel
theorem dX3_tally_2 : decode cX3_tally 2 = .ok (.invokevirtual 27, 3) := by decide +kernel
theorem dX3_tally_5 : decode cX3_tally 5 = .ok (.ifCond .eq 7, 3) := by decide +kernel
theorem dX3_tally_8 : decode cX3_tally 8 = .ok (.iconst 1, 1) := by decide +kernel
theorem dX3_tally_9 : decode cX3_tally 9 = .ok (.goto 4, 3) := by decide +kernel
theorem dX3_tally_12 : decode cX3_tally 12 = .ok (.iconst 0, 1) := by decide +kernel
theorem dX3_tally_13 : decode cX3_tally 13 = .ok (.istore_n 3, 1) := by decide +kernel
theorem dX3_tally_14 : decode cX3_tally 14 = .ok (.iload_n 2, 1) := by decide +kernel
theorem dX3_tally_15 : decode cX3_tally 15 = .ok (.iconst 1, 1) := by decide +kernel
theorem dX3_tally_16 : decode cX3_tally 16 = .ok (.if_icmp .gt 5, 3) := by decide +kernel
theorem dX3_tally_19 : decode cX3_tally 19 = .ok (.iload_n 3, 1) := by decide +kernel
theorem dX3_tally_20 : decode cX3_tally 20 = .ok (.ireturn, 1) := by decide +kernel
theorem dX3_tally_21 : decode cX3_tally 21 = .ok (.aload_n 0, 1) := by decide +kernel
theorem dX3_tally_22 : decode cX3_tally 22 = .ok (.getfield 9, 3) := by decide +kernel
theorem dX3_tally_25 : decode cX3_tally 25 = .ok (.astore 4, 2) := by decide +kernel
theorem dX3_tally_27 : decode cX3_tally 27 = .ok (.aload 4, 2) := by decide +kernel
theorem dX3_tally_29 : decode cX3_tally 29 = .ok (.arraylength, 1) := by decide +kernel
theorem dX3_tally_30 : decode cX3_tally 30 = .ok (.istore 5, 2) := by decide +kernel
theorem dX3_tally_32 : decode cX3_tally 32 = .ok (.iconst 0, 1) := by decide +kernel
theorem dX3_tally_33 : decode cX3_tally 33 = .ok (.istore 6, 2) := by decide +kernel
theorem dX3_tally_35 : decode cX3_tally 35 = .ok (.iload 6, 2) := by decide +kernel
theorem dX3_tally_37 : decode cX3_tally 37 = .ok (.iload 5, 2) := by decide +kernel
theorem dX3_tally_39 : decode cX3_tally 39 = .ok (.if_icmp .ge 33, 3) := by decide +kernel
theorem dX3_tally_42 : decode cX3_tally 42 = .ok (.aload 4, 2) := by decide +kernel
theorem dX3_tally_44 : decode cX3_tally 44 = .ok (.iload 6, 2) := by decide +kernel
theorem dX3_tally_46 : decode cX3_tally 46 = .ok (.aaload, 1) := by decide +kernel
theorem dX3_tally_47 : decode cX3_tally 47 = .ok (.astore 7, 2) := by decide +kernel
theorem dX3_tally_49 : decode cX3_tally 49 = .ok (.aload 7, 2) := by decide +kernel
theorem dX3_tally_51 : decode cX3_tally 51 = .ok (.ifnull 15, 3) := by decide +kernel
theorem dX3_tally_54 : decode cX3_tally 54 = .ok (.iload_n 3, 1) := by decide +kernel
theorem dX3_tally_55 : decode cX3_tally 55 = .ok (.aload 7, 2) := by decide +kernel
theorem dX3_tally_57 : decode cX3_tally 57 = .ok (.iload_n 1, 1) := by decide +kernel
theorem dX3_tally_58 : decode cX3_tally 58 = .ok (.iload_n 2, 1) := by decide +kernel
theorem dX3_tally_59 : decode cX3_tally 59 = .ok (.iconst 1, 1) := by decide +kernel
theorem dX3_tally_60 : decode cX3_tally 60 = .ok (.isub, 1) := by decide +kernel
theorem dX3_tally_61 : decode cX3_tally 61 = .ok (.invokevirtual 31, 3) := by decide +kernel
theorem dX3_tally_64 : decode cX3_tally 64 = .ok (.iadd, 1) := by decide +kernel
theorem dX3_tally_65 : decode cX3_tally 65 = .ok (.istore_n 3, 1) := by decide +kernel
theorem dX3_tally_66 : decode cX3_tally 66 = .ok (.iinc 6 1, 3) := by decide +kernel
theorem dX3_tally_69 : decode cX3_tally 69 = .ok (.goto (-34), 3) := by decide +kernel
theorem dX3_tally_72 : decode cX3_tally 72 = .ok (.iload_n 3, 1) := by decide +kernel
theorem dX3_tally_73 : decode cX3_tally 73 = .ok (.ireturn, 1) := by decide +kernel
theorem dX4_init_0 : decode cX4_init 0 = .ok (.aload_n 0, 1) := by decide +kernel
theorem dX4_init_1 : decode cX4_init 1 = .ok (.invokespecial 1, 3) := by decide +kernel
theorem dX4_init_4 : decode cX4_init 4 = .ok (.aload_n 0, 1) := by decide +kernel
theorem dX4_init_5 : decode cX4_init 5 = .ok (.bipush 80, 2) := by decide +kernel
theorem dX4_init_7 : decode cX4_init 7 = .ok (.anewarray 9, 3) := by decide +kernel
theorem dX4_init_10 : decode cX4_init 10 = .ok (.putfield 11, 3) := by decide +kernel
theorem dX4_init_13 : decode cX4_init 13 = .ok (.aload_n 0, 1) := by decide +kernel
theorem dX4_init_14 : decode cX4_init 14 = .ok (.bipush 12, 2) := by decide +kernel
theorem dX4_init_16 : decode cX4_init 16 = .ok (.anewarray 9, 3) := by decide +kernel
theorem dX4_init_19 : decode cX4_init 19 = .ok (.putfield 15, 3) := by decide +kernel
theorem dX4_init_22 : decode cX4_init 22 = .ok (.aload_n 0, 1) := by decide +kernel
theorem dX4_init_23 : decode cX4_init 23 = .ok (.bipush 6, 2) := by decide +kernel
theorem dX4_init_25 : decode cX4_init 25 = .ok (.newarray .int, 2) := by decide +kernel
theorem dX4_init_27 : decode cX4_init 27 = .ok (.putfield 18, 3) := by decide +kernel
theorem dX4_init_30 : decode cX4_init 30 = .ok (.aload_n 0, 1) := by decide +kernel
theorem dX4_init_31 : decode cX4_init 31 = .ok (.bipush 6, 2) := by decide +kernel
theorem dX4_init_33 : decode cX4_init 33 = .ok (.newarray .long, 2) := by decide +kernel
theorem dX4_init_35 : decode cX4_init 35 = .ok (.putfield 22, 3) := by decide +kernel
theorem dX4_init_38 : decode cX4_init 38 = .ok (.aload_n 0, 1) := by decide +kernel
theorem dX4_init_39 : decode cX4_init 39 = .ok (.bipush 10, 2) := by decide +kernel
theorem dX4_init_41 : decode cX4_init 41 = .ok (.newarray .int, 2) := by decide +kernel
theorem dX4_init_43 : decode cX4_init 43 = .ok (.putfield 26, 3) := by decide +kernel
theorem dX4_init_46 : decode cX4_init 46 = .ok (.aload_n 0, 1) := by decide +kernel
theorem dX4_init_47 : decode cX4_init 47 = .ok (.bipush 10, 2) := by decide +kernel
theorem dX4_init_49 : decode cX4_init 49 = .ok (.newarray .int, 2) := by decide +kernel
theorem dX4_init_51 : decode cX4_init 51 = .ok (.putfield 29, 3) := by decide +kernel
theorem dX4_init_54 : decode cX4_init 54 = .ok (.aload_n 0, 1) := by decide +kernel
theorem dX4_init_55 : decode cX4_init 55 = .ok (.getfield 18, 3) := by decide +kernel
theorem dX4_init_58 : decode cX4_init 58 = .ok (.iconst (-1), 1) := by decide +kernel
theorem dX4_init_59 : decode cX4_init 59 = .ok (.invokestatic 32, 3) := by decide +kernel
theorem dX4_init_62 : decode cX4_init 62 = .ok (.return_, 1) := by decide +kernel
theorem dX4_load_0 : decode cX4_load 0 = .ok (.aload_n 0, 1) := by decide +kernel
theorem dX4_load_1 : decode cX4_load 1 = .ok (.iconst 0, 1) := by decide +kernel
theorem dX4_load_2 : decode cX4_load 2 = .ok (.putfield 38, 3) := by decide +kernel
theorem dX4_load_5 : decode cX4_load 5 = .ok (.iload_n 1, 1) := by decide +kernel
theorem dX4_load_6 : decode cX4_load 6 = .ok (.ifCond .lt 21, 3) := by decide +kernel
theorem dX4_load_9 : decode cX4_load 9 = .ok (.iload_n 1, 1) := by decide +kernel
theorem dX4_load_10 : decode cX4_load 10 = .ok (.bipush 12, 2) := by decide +kernel
theorem dX4_load_12 : decode cX4_load 12 = .ok (.if_icmp .gt 15, 3) := by decide +kernel
theorem dX4_load_15 : decode cX4_load 15 = .ok (.iload_n 2, 1) := by decide +kernel
theorem dX4_load_16 : decode cX4_load 16 = .ok (.ifCond .lt 11, 3) := by decide +kernel
theorem dX4_load_19 : decode cX4_load 19 = .ok (.iload_n 2, 1) := by decide +kernel
theorem dX4_load_20 : decode cX4_load 20 = .ok (.iload_n 1, 1) := by decide +kernel
theorem dX4_load_21 : decode cX4_load 21 = .ok (.invokestatic 42, 3) := by decide +kernel
theorem dX4_load_24 : decode cX4_load 24 = .ok (.if_icmp .le 10, 3) := by decide +kernel
theorem dX4_load_27 : decode cX4_load 27 = .ok (.aload_n 0, 1) := by decide +kernel
theorem dX4_load_28 : decode cX4_load 28 = .ok (.bipush (-2), 2) := by decide +kernel
theorem dX4_load_30 : decode cX4_load 30 = .ok (.invokevirtual 46, 3) := by decide +kernel
theorem dX4_load_33 : decode cX4_load 33 = .ok (.ireturn, 1) := by decide +kernel
theorem dX4_load_34 : decode cX4_load 34 = .ok (.aload_n 0, 1) := by decide +kernel
theorem dX4_load_35 : decode cX4_load 35 = .ok (.getfield 49, 3) := by decide +kernel
theorem dX4_load_38 : decode cX4_load 38 = .ok (.bipush 80, 2) := by decide +kernel
theorem dX4_load_40 : decode cX4_load 40 = .ok (.if_icmp .lt 10, 3) := by decide +kernel
theorem dX4_load_43 : decode cX4_load 43 = .ok (.aload_n 0, 1) := by decide +kernel
theorem dX4_load_44 : decode cX4_load 44 = .ok (.bipush (-3), 2) := by decide +kernel
theorem dX4_load_46 : decode cX4_load 46 = .ok (.invokevirtual 46, 3) := by decide +kernel
theorem dX4_load_49 : decode cX4_load 49 = .ok (.ireturn, 1) := by decide +kernel
theorem dX4_load_50 : decode cX4_load 50 = .ok (.aload_n 0, 1) := by decide +kernel
theorem dX4_load_51 : decode cX4_load 51 = .ok (.getfield 49, 3) := by decide +kernel
theorem dX4_load_54 : decode cX4_load 54 = .ok (.istore_n 3, 1) := by decide +kernel
theorem dX4_load_55 : decode cX4_load 55 = .ok (.aload_n 0, 1) := by decide +kernel
theorem dX4_load_56 : decode cX4_load 56 = .ok (.getfield 11, 3) := by decide +kernel
theorem dX4_load_59 : decode cX4_load 59 = .ok (.iload_n 3, 1) := by decide +kernel
theorem dX4_load_60 : decode cX4_load 60 = .ok (.iload_n 3, 1) := by decide +kernel
theorem dX4_load_61 : decode cX4_load 61 = .ok (.iload_n 1, 1) := by decide +kernel
theorem dX4_load_62 : decode cX4_load 62 = .ok (.iload_n 2, 1) := by decide +kernel
theorem dX4_load_63 : decode cX4_load 63 = .ok (.invokestatic 52, 3) := by decide +kernel
theorem dX4_load_66 : decode cX4_load 66 = .ok (.aastore, 1) := by decide +kernel
theorem dX4_load_67 : decode cX4_load 67 = .ok (.aload_n 0, 1) := by decide +kernel
theorem dX4_load_68 : decode cX4_load 68 = .ok (.dup, 1) := by decide +kernel
theorem dX4_load_69 : decode cX4_load 69 = .ok (.getfield 49, 3) := by decide +kernel
theorem dX4_load_72 : decode cX4_load 72 = .ok (.iconst 1, 1) := by decide +kernel
theorem dX4_load_73 : decode cX4_load 73 = .ok (.iadd, 1) := by decide +kernel
theorem dX4_load_74 : decode cX4_load 74 = .ok (.putfield 49, 3) := by decide +kernel
theorem dX4_load_77 : decode cX4_load 77 = .ok (.iload_n 3, 1) := by decide +kernel
theorem dX4_load_78 : decode cX4_load 78 = .ok (.ireturn, 1) := by decide +kernel
theorem dX4_set_0 : decode cX4_set 0 = .ok (.aload_n 0, 1) := by decide +kernel
theorem dX4_set_1 : decode cX4_set 1 = .ok (.iconst 0, 1) := by decide +kernel
theorem dX4_set_2 : decode cX4_set 2 = .ok (.putfield 38, 3) := by decide +kernel
theorem dX4_set_5 : decode cX4_set 5 = .ok (.aload_n 0, 1) := by decide +kernel
theorem dX4_set_6 : decode cX4_set 6 = .ok (.iload_n 1, 1) := by decide +kernel
theorem dX4_set_7 : decode cX4_set 7 = .ok (.iload_n 2, 1) := by decide +kernel
theorem dX4_set_8 : decode cX4_set 8 = .ok (.invokevirtual 56, 3) := by decide +kernel
theorem dX4_set_11 : decode cX4_set 11 = .ok (.astore 4, 2) := by decide +kernel
theorem dX4_set_13 : decode cX4_set 13 = .ok (.aload 4, 2) := by decide +kernel
theorem dX4_set_15 : decode cX4_set 15 = .ok (.ifnonnull 8, 3) := by decide +kernel
theorem dX4_set_18 : decode cX4_set 18 = .ok (.aload_n 0, 1) := by decide +kernel
theorem dX4_set_19 : decode cX4_set 19 = .ok (.getfield 38, 3) := by decide +kernel
theorem dX4_set_22 : decode cX4_set 22 = .ok (.ireturn, 1) := by decide +kernel
theorem dX4_set_23 : decode cX4_set 23 = .ok (.aload 4, 2) := by decide +kernel
theorem dX4_set_25 : decode cX4_set 25 = .ok (.getfield 60, 3) := by decide +kernel
theorem dX4_set_28 : decode cX4_set 28 = .ok (.iload_n 2, 1) := by decide +kernel
theorem dX4_set_29 : decode cX4_set 29 = .ok (.aload 4, 2) := by decide +kernel
theorem dX4_set_31 : decode cX4_set 31 = .ok (.getfield 65, 3) := by decide +kernel
theorem dX4_set_34 : decode cX4_set 34 = .ok (.iconst 1, 1) := by decide +kernel
theorem dX4_set_35 : decode cX4_set 35 = .ok (.if_icmp .ne 9, 3) := by decide +kernel
theorem dX4_set_38 : decode cX4_set 38 = .ok (.iload_n 3, 1) := by decide +kernel
theorem dX4_set_39 : decode cX4_set 39 = .ok (.i2b, 1) := by decide +kernel
theorem dX4_set_40 : decode cX4_set 40 = .ok (.i2l, 1) := by decide +kernel
theorem dX4_set_41 : decode cX4_set 41 = .ok (.goto 5, 3) := by decide +kernel
theorem dX4_set_44 : decode cX4_set 44 = .ok (.iload_n 3, 1) := by decide +kernel
theorem dX4_set_45 : decode cX4_set 45 = .ok (.i2l, 1) := by decide +kernel
theorem dX4_set_46 : decode cX4_set 46 = .ok (.lastore, 1) := by decide +kernel
theorem dX4_set_47 : decode cX4_set 47 = .ok (.iconst 1, 1) := by decide +kernel
theorem dX4_set_48 : decode cX4_set 48 = .ok (.ireturn, 1) := by decide +kernel
theorem dX4_number_0 : decode cX4_number 0 = .ok (.aload_n 0, 1) := by decide +kernel
theorem dX4_number_1 : decode cX4_number 1 = .ok (.iconst 0, 1) := by decide +kernel
theorem dX4_number_2 : decode cX4_number 2 = .ok (.putfield 38, 3) := by decide +kernel
theorem dX4_number_5 : decode cX4_number 5 = .ok (.aload_n 0, 1) := by decide +kernel
theorem dX4_number_6 : decode cX4_number 6 = .ok (.iload_n 1, 1) := by decide +kernel
theorem dX4_number_7 : decode cX4_number 7 = .ok (.iload_n 2, 1) := by decide +kernel
theorem dX4_number_8 : decode cX4_number 8 = .ok (.invokevirtual 56, 3) := by decide +kernel
theorem dX4_number_11 : decode cX4_number 11 = .ok (.astore_n 3, 1) := by decide +kernel
theorem dX4_number_12 : decode cX4_number 12 = .ok (.aload_n 3, 1) := by decide +kernel
theorem dX4_number_13 : decode cX4_number 13 = .ok (.ifnonnull 7, 3) := by decide +kernel
theorem dX4_number_16 : decode cX4_number 16 = .ok (.lconst 0, 1) := by decide +kernel
theorem dX4_number_17 : decode cX4_number 17 = .ok (.goto 9, 3) := by decide +kernel
theorem dX4_number_20 : decode cX4_number 20 = .ok (.aload_n 3, 1) := by decide +kernel
theorem dX4_number_21 : decode cX4_number 21 = .ok (.getfield 60, 3) := by decide +kernel
theorem dX4_number_24 : decode cX4_number 24 = .ok (.iload_n 2, 1) := by decide +kernel
theorem dX4_number_25 : decode cX4_number 25 = .ok (.laload, 1) := by decide +kernel
theorem dX4_number_26 : decode cX4_number 26 = .ok (.lreturn, 1) := by decide +kernel
theorem dX4_put_0 : decode cX4_put 0 = .ok (.aload_n 0, 1) := by decide +kernel
theorem dX4_put_1 : decode cX4_put 1 = .ok (.iconst 0, 1) := by decide +kernel
theorem dX4_put_2 : decode cX4_put 2 = .ok (.putfield 38, 3) := by decide +kernel
theorem dX4_put_5 : decode cX4_put 5 = .ok (.aload_n 0, 1) := by decide +kernel
theorem dX4_put_6 : decode cX4_put 6 = .ok (.iload_n 1, 1) := by decide +kernel
theorem dX4_put_7 : decode cX4_put 7 = .ok (.invokevirtual 68, 3) := by decide +kernel
theorem dX4_put_10 : decode cX4_put 10 = .ok (.astore 4, 2) := by decide +kernel
theorem dX4_put_12 : decode cX4_put 12 = .ok (.aload_n 0, 1) := by decide +kernel
theorem dX4_put_13 : decode cX4_put 13 = .ok (.iload_n 3, 1) := by decide +kernel
theorem dX4_put_14 : decode cX4_put 14 = .ok (.invokevirtual 68, 3) := by decide +kernel
theorem dX4_put_17 : decode cX4_put 17 = .ok (.astore 5, 2) := by decide +kernel
theorem dX4_put_19 : decode cX4_put 19 = .ok (.aload 4, 2) := by decide +kernel
theorem dX4_put_21 : decode cX4_put 21 = .ok (.ifnull 13, 3) := by decide +kernel
theorem dX4_put_24 : decode cX4_put 24 = .ok (.aload 5, 2) := by decide +kernel
theorem dX4_put_26 : decode cX4_put 26 = .ok (.ifnonnull 15, 3) := by decide +kernel
theorem dX4_put_29 : decode cX4_put 29 = .ok (.iload_n 3, 1) := by decide +kernel
theorem dX4_put_30 : decode cX4_put 30 = .ok (.iconst (-1), 1) := by decide +kernel
theorem dX4_put_31 : decode cX4_put 31 = .ok (.if_icmp .eq 10, 3) := by decide +kernel
theorem dX4_put_34 : decode cX4_put 34 = .ok (.aload_n 0, 1) := by decide +kernel
theorem dX4_put_35 : decode cX4_put 35 = .ok (.bipush (-2), 2) := by decide +kernel
theorem dX4_put_37 : decode cX4_put 37 = .ok (.invokevirtual 46, 3) := by decide +kernel
theorem dX4_put_40 : decode cX4_put 40 = .ok (.ireturn, 1) := by decide +kernel
theorem dX4_put_41 : decode cX4_put 41 = .ok (.aload 4, 2) := by decide +kernel
theorem dX4_put_43 : decode cX4_put 43 = .ok (.instanceof 72, 3) := by decide +kernel
theorem dX4_put_46 : decode cX4_put 46 = .ok (.ifCond .eq 13, 3) := by decide +kernel
theorem dX4_put_49 : decode cX4_put 49 = .ok (.aload 4, 2) := by decide +kernel
theorem dX4_put_51 : decode cX4_put 51 = .ok (.checkcast 72, 3) := by decide +kernel
theorem dX4_put_54 : decode cX4_put 54 = .ok (.astore 6, 2) := by decide +kernel
theorem dX4_put_56 : decode cX4_put 56 = .ok (.goto 10, 3) := by decide +kernel
theorem dX4_put_59 : decode cX4_put 59 = .ok (.aload_n 0, 1) := by decide +kernel
theorem dX4_put_60 : decode cX4_put 60 = .ok (.bipush (-4), 2) := by decide +kernel
theorem dX4_put_62 : decode cX4_put 62 = .ok (.invokevirtual 46, 3) := by decide +kernel
theorem dX4_put_65 : decode cX4_put 65 = .ok (.ireturn, 1) := by decide +kernel
theorem dX4_put_66 : decode cX4_put 66 = .ok (.aload 5, 2) := by decide +kernel
theorem dX4_put_68 : decode cX4_put 68 = .ok (.ifnull 23, 3) := by decide +kernel
theorem dX4_put_71 : decode cX4_put 71 = .ok (.aload 5, 2) := by decide +kernel
theorem dX4_put_73 : decode cX4_put 73 = .ok (.aload 6, 2) := by decide +kernel
theorem dX4_put_75 : decode cX4_put 75 = .ok (.invokevirtual 74, 3) := by decide +kernel
theorem dX4_put_78 : decode cX4_put 78 = .ok (.invokevirtual 78, 3) := by decide +kernel
theorem dX4_put_81 : decode cX4_put 81 = .ok (.ifCond .ne 10, 3) := by decide +kernel
theorem dX4_put_84 : decode cX4_put 84 = .ok (.aload_n 0, 1) := by decide +kernel
theorem dX4_put_85 : decode cX4_put 85 = .ok (.bipush (-4), 2) := by decide +kernel
theorem dX4_put_87 : decode cX4_put 87 = .ok (.invokevirtual 46, 3) := by decide +kernel
theorem dX4_put_90 : decode cX4_put 90 = .ok (.ireturn, 1) := by decide +kernel
theorem dX4_put_91 : decode cX4_put 91 = .ok (.aload 6, 2) := by decide +kernel
theorem dX4_put_93 : decode cX4_put 93 = .ok (.iload_n 2, 1) := by decide +kernel
theorem dX4_put_94 : decode cX4_put 94 = .ok (.invokevirtual 82, 3) := by decide +kernel
theorem dX4_put_97 : decode cX4_put 97 = .ok (.ifCond .ne 10, 3) := by decide +kernel
theorem dX4_put_100 : decode cX4_put 100 = .ok (.aload_n 0, 1) := by decide +kernel
theorem dX4_put_101 : decode cX4_put 101 = .ok (.bipush (-5), 2) := by decide +kernel
theorem dX4_put_103 : decode cX4_put 103 = .ok (.invokevirtual 46, 3) := by decide +kernel
theorem dX4_put_106 : decode cX4_put 106 = .ok (.ireturn, 1) := by decide +kernel
theorem dX4_put_107 : decode cX4_put 107 = .ok (.aload 5, 2) := by decide +kernel
theorem dX4_put_109 : decode cX4_put 109 = .ok (.ifnull 23, 3) := by decide +kernel
theorem dX4_put_112 : decode cX4_put 112 = .ok (.aload 5, 2) := by decide +kernel
theorem dX4_put_114 : decode cX4_put 114 = .ok (.aload 6, 2) := by decide +kernel
theorem dX4_put_116 : decode cX4_put 116 = .ok (.invokevirtual 85, 3) := by decide +kernel
theorem dX4_put_119 : decode cX4_put 119 = .ok (.invokevirtual 78, 3) := by decide +kernel
theorem dX4_put_122 : decode cX4_put 122 = .ok (.ifCond .ne 10, 3) := by decide +kernel
theorem dX4_put_125 : decode cX4_put 125 = .ok (.aload_n 0, 1) := by decide +kernel
theorem dX4_put_126 : decode cX4_put 126 = .ok (.bipush (-6), 2) := by decide +kernel
theorem dX4_put_128 : decode cX4_put 128 = .ok (.invokevirtual 46, 3) := by decide +kernel
theorem dX4_put_131 : decode cX4_put 131 = .ok (.ireturn, 1) := by decide +kernel
theorem dX4_put_132 : decode cX4_put 132 = .ok (.aload 6, 2) := by decide +kernel
theorem dX4_put_134 : decode cX4_put 134 = .ok (.getfield 88, 3) := by decide +kernel
theorem dX4_put_137 : decode cX4_put 137 = .ok (.iload_n 2, 1) := by decide +kernel
theorem dX4_put_138 : decode cX4_put 138 = .ok (.aload 5, 2) := by decide +kernel
theorem dX4_put_140 : decode cX4_put 140 = .ok (.aastore, 1) := by decide +kernel
theorem dX4_put_141 : decode cX4_put 141 = .ok (.iconst 1, 1) := by decide +kernel
theorem dX4_put_142 : decode cX4_put 142 = .ok (.ireturn, 1) := by decide +kernel
theorem dX4_at_0 : decode cX4_at 0 = .ok (.aload_n 0, 1) := by decide +kernel
theorem dX4_at_1 : decode cX4_at 1 = .ok (.iconst 0, 1) := by decide +kernel
theorem dX4_at_2 : decode cX4_at 2 = .ok (.putfield 38, 3) := by decide +kernel
theorem dX4_at_5 : decode cX4_at 5 = .ok (.aload_n 0, 1) := by decide +kernel
theorem dX4_at_6 : decode cX4_at 6 = .ok (.iload_n 1, 1) := by decide +kernel
theorem dX4_at_7 : decode cX4_at 7 = .ok (.invokevirtual 68, 3) := by decide +kernel
theorem dX4_at_10 : decode cX4_at 10 = .ok (.astore_n 3, 1) := by decide +kernel
theorem dX4_at_11 : decode cX4_at 11 = .ok (.aload_n 3, 1) := by decide +kernel
theorem dX4_at_12 : decode cX4_at 12 = .ok (.ifnonnull 10, 3) := by decide +kernel
theorem dX4_at_15 : decode cX4_at 15 = .ok (.aload_n 0, 1) := by decide +kernel
theorem dX4_at_16 : decode cX4_at 16 = .ok (.bipush (-2), 2) := by decide +kernel
theorem dX4_at_18 : decode cX4_at 18 = .ok (.invokevirtual 46, 3) := by decide +kernel
theorem dX4_at_21 : decode cX4_at 21 = .ok (.ireturn, 1) := by decide +kernel
theorem dX4_at_22 : decode cX4_at 22 = .ok (.aload_n 3, 1) := by decide +kernel
theorem dX4_at_23 : decode cX4_at 23 = .ok (.instanceof 72, 3) := by decide +kernel
theorem dX4_at_26 : decode cX4_at 26 = .ok (.ifCond .eq 12, 3) := by decide +kernel
theorem dX4_at_29 : decode cX4_at 29 = .ok (.aload_n 3, 1) := by decide +kernel
theorem dX4_at_30 : decode cX4_at 30 = .ok (.checkcast 72, 3) := by decide +kernel
theorem dX4_at_33 : decode cX4_at 33 = .ok (.astore 4, 2) := by decide +kernel
theorem dX4_at_35 : decode cX4_at 35 = .ok (.goto 10, 3) := by decide +kernel
theorem dX4_at_38 : decode cX4_at 38 = .ok (.aload_n 0, 1) := by decide +kernel
theorem dX4_at_39 : decode cX4_at 39 = .ok (.bipush (-4), 2) := by decide +kernel
theorem dX4_at_41 : decode cX4_at 41 = .ok (.invokevirtual 46, 3) := by decide +kernel
theorem dX4_at_44 : decode cX4_at 44 = .ok (.ireturn, 1) := by decide +kernel
theorem dX4_at_45 : decode cX4_at 45 = .ok (.aload 4, 2) := by decide +kernel
theorem dX4_at_47 : decode cX4_at 47 = .ok (.iload_n 2, 1) := by decide +kernel
theorem dX4_at_48 : decode cX4_at 48 = .ok (.invokevirtual 82, 3) := by decide +kernel
theorem dX4_at_51 : decode cX4_at 51 = .ok (.ifCond .ne 10, 3) := by decide +kernel
theorem dX4_at_54 : decode cX4_at 54 = .ok (.aload_n 0, 1) := by decide +kernel
theorem dX4_at_55 : decode cX4_at 55 = .ok (.bipush (-5), 2) := by decide +kernel
theorem dX4_at_57 : decode cX4_at 57 = .ok (.invokevirtual 46, 3) := by decide +kernel
theorem dX4_at_60 : decode cX4_at 60 = .ok (.ireturn, 1) := by decide +kernel
theorem dX4_at_61 : decode cX4_at 61 = .ok (.aload 4, 2) := by decide +kernel
theorem dX4_at_63 : decode cX4_at 63 = .ok (.getfield 88, 3) := by decide +kernel
theorem dX4_at_66 : decode cX4_at 66 = .ok (.iload_n 2, 1) := by decide +kernel
theorem dX4_at_67 : decode cX4_at 67 = .ok (.aaload, 1) := by decide +kernel
theorem dX4_at_68 : decode cX4_at 68 = .ok (.invokestatic 90, 3) := by decide +kernel
theorem dX4_at_71 : decode cX4_at 71 = .ok (.ireturn, 1) := by decide +kernel
theorem dX4_is_0 : decode cX4_is 0 = .ok (.aload_n 0, 1) := by decide +kernel
theorem dX4_is_1 : decode cX4_is 1 = .ok (.iconst 0, 1) := by decide +kernel
theorem dX4_is_2 : decode cX4_is 2 = .ok (.putfield 38, 3) := by decide +kernel
theorem dX4_is_5 : decode cX4_is 5 = .ok (.aload_n 0, 1) := by decide +kernel
theorem dX4_is_6 : decode cX4_is 6 = .ok (.iload_n 1, 1) := by decide +kernel
theorem dX4_is_7 : decode cX4_is 7 = .ok (.invokevirtual 68, 3) := by decide +kernel
theorem dX4_is_10 : decode cX4_is 10 = .ok (.astore_n 3, 1) := by decide +kernel
theorem dX4_is_11 : decode cX4_is 11 = .ok (.aload_n 3, 1) := by decide +kernel
theorem dX4_is_12 : decode cX4_is 12 = .ok (.ifnull 10, 3) := by decide +kernel
theorem dX4_is_15 : decode cX4_is 15 = .ok (.iload_n 2, 1) := by decide +kernel
theorem dX4_is_16 : decode cX4_is 16 = .ok (.invokestatic 94, 3) := by decide +kernel
theorem dX4_is_19 : decode cX4_is 19 = .ok (.ifCond .ne 10, 3) := by decide +kernel
theorem dX4_is_22 : decode cX4_is 22 = .ok (.aload_n 0, 1) := by decide +kernel
theorem dX4_is_23 : decode cX4_is 23 = .ok (.bipush (-2), 2) := by decide +kernel
theorem dX4_is_25 : decode cX4_is 25 = .ok (.invokevirtual 46, 3) := by decide +kernel
theorem dX4_is_28 : decode cX4_is 28 = .ok (.ireturn, 1) := by decide +kernel
theorem dX4_is_29 : decode cX4_is 29 = .ok (.aload_n 3, 1) := by decide +kernel
theorem dX4_is_30 : decode cX4_is 30 = .ok (.iload_n 2, 1) := by decide +kernel
theorem dX4_is_31 : decode cX4_is 31 = .ok (.invokevirtual 78, 3) := by decide +kernel
theorem dX4_is_34 : decode cX4_is 34 = .ok (.ifCond .eq 7, 3) := by decide +kernel
theorem dX4_is_37 : decode cX4_is 37 = .ok (.iconst 1, 1) := by decide +kernel
theorem dX4_is_38 : decode cX4_is 38 = .ok (.goto 4, 3) := by decide +kernel
theorem dX4_is_41 : decode cX4_is 41 = .ok (.iconst 0, 1) := by decide +kernel
theorem dX4_is_42 : decode cX4_is 42 = .ok (.ireturn, 1) := by decide +kernel
theorem dX4_take_0 : decode cX4_take 0 = .ok (.aload_n 0, 1) := by decide +kernel
theorem dX4_take_1 : decode cX4_take 1 = .ok (.iconst 0, 1) := by decide +kernel
theorem dX4_take_2 : decode cX4_take 2 = .ok (.putfield 38, 3) := by decide +kernel
theorem dX4_take_5 : decode cX4_take 5 = .ok (.aload_n 0, 1) := by decide +kernel
theorem dX4_take_6 : decode cX4_take 6 = .ok (.iload_n 1, 1) := by decide +kernel
theorem dX4_take_7 : decode cX4_take 7 = .ok (.invokevirtual 68, 3) := by decide +kernel
theorem dX4_take_10 : decode cX4_take 10 = .ok (.astore_n 3, 1) := by decide +kernel
theorem dX4_take_11 : decode cX4_take 11 = .ok (.aload_n 3, 1) := by decide +kernel
theorem dX4_take_12 : decode cX4_take 12 = .ok (.ifnull 10, 3) := by decide +kernel
theorem dX4_take_15 : decode cX4_take 15 = .ok (.iload_n 2, 1) := by decide +kernel
theorem dX4_take_16 : decode cX4_take 16 = .ok (.invokestatic 94, 3) := by decide +kernel
theorem dX4_take_19 : decode cX4_take 19 = .ok (.ifCond .ne 10, 3) := by decide +kernel
theorem dX4_take_22 : decode cX4_take 22 = .ok (.aload_n 0, 1) := by decide +kernel
theorem dX4_take_23 : decode cX4_take 23 = .ok (.bipush (-2), 2) := by decide +kernel
theorem dX4_take_25 : decode cX4_take 25 = .ok (.invokevirtual 46, 3) := by decide +kernel
theorem dX4_take_28 : decode cX4_take 28 = .ok (.ireturn, 1) := by decide +kernel
theorem dX4_take_29 : decode cX4_take 29 = .ok (.aload_n 0, 1) := by decide +kernel
theorem dX4_take_30 : decode cX4_take 30 = .ok (.aload_n 3, 1) := by decide +kernel
theorem dX4_take_31 : decode cX4_take 31 = .ok (.iload_n 2, 1) := by decide +kernel
theorem dX4_take_32 : decode cX4_take 32 = .ok (.invokevirtual 97, 3) := by decide +kernel
theorem dX4_take_35 : decode cX4_take 35 = .ok (.ireturn, 1) := by decide +kernel
theorem dX4_sort_0 : decode cX4_sort 0 = .ok (.aload_n 0, 1) := by decide +kernel
theorem dX4_sort_1 : decode cX4_sort 1 = .ok (.iconst 0, 1) := by decide +kernel
theorem dX4_sort_2 : decode cX4_sort 2 = .ok (.putfield 38, 3) := by decide +kernel
theorem dX4_sort_5 : decode cX4_sort 5 = .ok (.aload_n 0, 1) := by decide +kernel
theorem dX4_sort_6 : decode cX4_sort 6 = .ok (.iload_n 1, 1) := by decide +kernel
theorem dX4_sort_7 : decode cX4_sort 7 = .ok (.invokevirtual 68, 3) := by decide +kernel
theorem dX4_sort_10 : decode cX4_sort 10 = .ok (.astore_n 2, 1) := by decide +kernel
theorem dX4_sort_11 : decode cX4_sort 11 = .ok (.aload_n 2, 1) := by decide +kernel
theorem dX4_sort_12 : decode cX4_sort 12 = .ok (.ifnonnull 10, 3) := by decide +kernel
theorem dX4_sort_15 : decode cX4_sort 15 = .ok (.aload_n 0, 1) := by decide +kernel
theorem dX4_sort_16 : decode cX4_sort 16 = .ok (.bipush (-2), 2) := by decide +kernel
theorem dX4_sort_18 : decode cX4_sort 18 = .ok (.invokevirtual 46, 3) := by decide +kernel
theorem dX4_sort_21 : decode cX4_sort 21 = .ok (.ireturn, 1) := by decide +kernel
theorem dX4_sort_22 : decode cX4_sort 22 = .ok (.aload_n 2, 1) := by decide +kernel
theorem dX4_sort_23 : decode cX4_sort 23 = .ok (.getfield 101, 3) := by decide +kernel
theorem dX4_sort_26 : decode cX4_sort 26 = .ok (.ireturn, 1) := by decide +kernel
theorem dX4_weight_0 : decode cX4_weight 0 = .ok (.aload_n 0, 1) := by decide +kernel
theorem dX4_weight_1 : decode cX4_weight 1 = .ok (.iconst 0, 1) := by decide +kernel
theorem dX4_weight_2 : decode cX4_weight 2 = .ok (.putfield 38, 3) := by decide +kernel
theorem dX4_weight_5 : decode cX4_weight 5 = .ok (.aload_n 0, 1) := by decide +kernel
theorem dX4_weight_6 : decode cX4_weight 6 = .ok (.iload_n 1, 1) := by decide +kernel
theorem dX4_weight_7 : decode cX4_weight 7 = .ok (.invokevirtual 68, 3) := by decide +kernel
theorem dX4_weight_10 : decode cX4_weight 10 = .ok (.astore_n 2, 1) := by decide +kernel
theorem dX4_weight_11 : decode cX4_weight 11 = .ok (.aload_n 2, 1) := by decide +kernel
theorem dX4_weight_12 : decode cX4_weight 12 = .ok (.ifnonnull 12, 3) := by decide +kernel
theorem dX4_weight_15 : decode cX4_weight 15 = .ok (.aload_n 0, 1) := by decide +kernel
theorem dX4_weight_16 : decode cX4_weight 16 = .ok (.bipush (-2), 2) := by decide +kernel
theorem dX4_weight_18 : decode cX4_weight 18 = .ok (.invokevirtual 46, 3) := by decide +kernel
theorem dX4_weight_21 : decode cX4_weight 21 = .ok (.pop, 1) := by decide +kernel
theorem dX4_weight_22 : decode cX4_weight 22 = .ok (.lconst 0, 1) := by decide +kernel
theorem dX4_weight_23 : decode cX4_weight 23 = .ok (.lreturn, 1) := by decide +kernel
theorem dX4_weight_24 : decode cX4_weight 24 = .ok (.aload_n 2, 1) := by decide +kernel
theorem dX4_weight_25 : decode cX4_weight 25 = .ok (.iconst 3, 1) := by decide +kernel
theorem dX4_weight_26 : decode cX4_weight 26 = .ok (.invokevirtual 102, 3) := by decide +kernel
theorem dX4_weight_29 : decode cX4_weight 29 = .ok (.lreturn, 1) := by decide +kernel
theorem dX4_inside_0 : decode cX4_inside 0 = .ok (.aload_n 0, 1) := by decide +kernel
theorem dX4_inside_1 : decode cX4_inside 1 = .ok (.iconst 0, 1) := by decide +kernel
theorem dX4_inside_2 : decode cX4_inside 2 = .ok (.putfield 38, 3) := by decide +kernel
theorem dX4_inside_5 : decode cX4_inside 5 = .ok (.aload_n 0, 1) := by decide +kernel
theorem dX4_inside_6 : decode cX4_inside 6 = .ok (.iload_n 1, 1) := by decide +kernel
theorem dX4_inside_7 : decode cX4_inside 7 = .ok (.invokevirtual 68, 3) := by decide +kernel
theorem dX4_inside_10 : decode cX4_inside 10 = .ok (.astore_n 3, 1) := by decide +kernel
theorem dX4_inside_11 : decode cX4_inside 11 = .ok (.aload_n 3, 1) := by decide +kernel
theorem dX4_inside_12 : decode cX4_inside 12 = .ok (.ifnull 10, 3) := by decide +kernel
theorem dX4_inside_15 : decode cX4_inside 15 = .ok (.iload_n 2, 1) := by decide +kernel
theorem dX4_inside_16 : decode cX4_inside 16 = .ok (.invokestatic 94, 3) := by decide +kernel
theorem dX4_inside_19 : decode cX4_inside 19 = .ok (.ifCond .ne 10, 3) := by decide +kernel
theorem dX4_inside_22 : decode cX4_inside 22 = .ok (.aload_n 0, 1) := by decide +kernel
theorem dX4_inside_23 : decode cX4_inside 23 = .ok (.bipush (-2), 2) := by decide +kernel
theorem dX4_inside_25 : decode cX4_inside 25 = .ok (.invokevirtual 46, 3) := by decide +kernel
theorem dX4_inside_28 : decode cX4_inside 28 = .ok (.ireturn, 1) := by decide +kernel
theorem dX4_inside_29 : decode cX4_inside 29 = .ok (.aload_n 3, 1) := by decide +kernel
theorem dX4_inside_30 : decode cX4_inside 30 = .ok (.iload_n 2, 1) := by decide +kernel
theorem dX4_inside_31 : decode cX4_inside 31 = .ok (.iconst 3, 1) := by decide +kernel
theorem dX4_inside_32 : decode cX4_inside 32 = .ok (.invokevirtual 106, 3) := by decide +kernel
theorem dX4_inside_35 : decode cX4_inside 35 = .ok (.ireturn, 1) := by decide +kernel
theorem dX4_hold_0 : decode cX4_hold 0 = .ok (.aload_n 0, 1) := by decide +kernel
theorem dX4_hold_1 : decode cX4_hold 1 = .ok (.iconst 0, 1) := by decide +kernel
theorem dX4_hold_2 : decode cX4_hold 2 = .ok (.putfield 38, 3) := by decide +kernel
theorem dX4_hold_5 : decode cX4_hold 5 = .ok (.aload_n 0, 1) := by decide +kernel
theorem dX4_hold_6 : decode cX4_hold 6 = .ok (.iload_n 2, 1) := by decide +kernel
theorem dX4_hold_7 : decode cX4_hold 7 = .ok (.invokevirtual 68, 3) := by decide +kernel
theorem dX4_hold_10 : decode cX4_hold 10 = .ok (.astore_n 3, 1) := by decide +kernel
theorem dX4_hold_11 : decode cX4_hold 11 = .ok (.iload_n 1, 1) := by decide +kernel
theorem dX4_hold_12 : decode cX4_hold 12 = .ok (.invokestatic 110, 3) := by decide +kernel
theorem dX4_hold_15 : decode cX4_hold 15 = .ok (.ifCond .eq 12, 3) := by decide +kernel
theorem dX4_hold_18 : decode cX4_hold 18 = .ok (.aload_n 3, 1) := by decide +kernel
theorem dX4_hold_19 : decode cX4_hold 19 = .ok (.ifnonnull 15, 3) := by decide +kernel
theorem dX4_hold_22 : decode cX4_hold 22 = .ok (.iload_n 2, 1) := by decide +kernel
theorem dX4_hold_23 : decode cX4_hold 23 = .ok (.iconst (-1), 1) := by decide +kernel
theorem dX4_hold_24 : decode cX4_hold 24 = .ok (.if_icmp .eq 10, 3) := by decide +kernel
theorem dX4_hold_27 : decode cX4_hold 27 = .ok (.aload_n 0, 1) := by decide +kernel
theorem dX4_hold_28 : decode cX4_hold 28 = .ok (.bipush (-2), 2) := by decide +kernel
theorem dX4_hold_30 : decode cX4_hold 30 = .ok (.invokevirtual 46, 3) := by decide +kernel
theorem dX4_hold_33 : decode cX4_hold 33 = .ok (.ireturn, 1) := by decide +kernel
theorem dX4_hold_34 : decode cX4_hold 34 = .ok (.aload_n 0, 1) := by decide +kernel
theorem dX4_hold_35 : decode cX4_hold 35 = .ok (.getfield 15, 3) := by decide +kernel
theorem dX4_hold_38 : decode cX4_hold 38 = .ok (.iload_n 1, 1) := by decide +kernel
theorem dX4_hold_39 : decode cX4_hold 39 = .ok (.aaload, 1) := by decide +kernel
theorem dX4_hold_40 : decode cX4_hold 40 = .ok (.invokestatic 90, 3) := by decide +kernel
theorem dX4_hold_43 : decode cX4_hold 43 = .ok (.istore 4, 2) := by decide +kernel
theorem dX4_hold_45 : decode cX4_hold 45 = .ok (.aload_n 0, 1) := by decide +kernel
theorem dX4_hold_46 : decode cX4_hold 46 = .ok (.getfield 15, 3) := by decide +kernel
theorem dX4_hold_49 : decode cX4_hold 49 = .ok (.iload_n 1, 1) := by decide +kernel
theorem dX4_hold_50 : decode cX4_hold 50 = .ok (.aload_n 3, 1) := by decide +kernel
theorem dX4_hold_51 : decode cX4_hold 51 = .ok (.aastore, 1) := by decide +kernel
theorem dX4_hold_52 : decode cX4_hold 52 = .ok (.iload 4, 2) := by decide +kernel
theorem dX4_hold_54 : decode cX4_hold 54 = .ok (.ireturn, 1) := by decide +kernel
theorem dX4_bay_0 : decode cX4_bay 0 = .ok (.aload_n 0, 1) := by decide +kernel
theorem dX4_bay_1 : decode cX4_bay 1 = .ok (.iconst 0, 1) := by decide +kernel
theorem dX4_bay_2 : decode cX4_bay 2 = .ok (.putfield 38, 3) := by decide +kernel
theorem dX4_bay_5 : decode cX4_bay 5 = .ok (.iload_n 1, 1) := by decide +kernel
theorem dX4_bay_6 : decode cX4_bay 6 = .ok (.invokestatic 110, 3) := by decide +kernel
theorem dX4_bay_9 : decode cX4_bay 9 = .ok (.ifCond .eq 10, 3) := by decide +kernel
theorem dX4_bay_12 : decode cX4_bay 12 = .ok (.iload_n 2, 1) := by decide +kernel
theorem dX4_bay_13 : decode cX4_bay 13 = .ok (.invokestatic 94, 3) := by decide +kernel
theorem dX4_bay_16 : decode cX4_bay 16 = .ok (.ifCond .ne 10, 3) := by decide +kernel
theorem dX4_bay_19 : decode cX4_bay 19 = .ok (.aload_n 0, 1) := by decide +kernel
theorem dX4_bay_20 : decode cX4_bay 20 = .ok (.bipush (-2), 2) := by decide +kernel
theorem dX4_bay_22 : decode cX4_bay 22 = .ok (.invokevirtual 46, 3) := by decide +kernel
theorem dX4_bay_25 : decode cX4_bay 25 = .ok (.ireturn, 1) := by decide +kernel
theorem dX4_bay_26 : decode cX4_bay 26 = .ok (.aload_n 0, 1) := by decide +kernel
theorem dX4_bay_27 : decode cX4_bay 27 = .ok (.getfield 15, 3) := by decide +kernel
theorem dX4_bay_30 : decode cX4_bay 30 = .ok (.iload_n 1, 1) := by decide +kernel
theorem dX4_bay_31 : decode cX4_bay 31 = .ok (.aaload, 1) := by decide +kernel
theorem dX4_bay_32 : decode cX4_bay 32 = .ok (.astore_n 3, 1) := by decide +kernel
theorem dX4_bay_33 : decode cX4_bay 33 = .ok (.aload_n 3, 1) := by decide +kernel
theorem dX4_bay_34 : decode cX4_bay 34 = .ok (.ifnonnull 5, 3) := by decide +kernel
theorem dX4_bay_37 : decode cX4_bay 37 = .ok (.iconst (-1), 1) := by decide +kernel
theorem dX4_bay_38 : decode cX4_bay 38 = .ok (.ireturn, 1) := by decide +kernel
theorem dX4_bay_39 : decode cX4_bay 39 = .ok (.aload_n 0, 1) := by decide +kernel
theorem dX4_bay_40 : decode cX4_bay 40 = .ok (.aload_n 3, 1) := by decide +kernel
theorem dX4_bay_41 : decode cX4_bay 41 = .ok (.iload_n 2, 1) := by decide +kernel
theorem dX4_bay_42 : decode cX4_bay 42 = .ok (.invokevirtual 97, 3) := by decide +kernel
theorem dX4_bay_45 : decode cX4_bay 45 = .ok (.ireturn, 1) := by decide +kernel
theorem dX4_gate_0 : decode cX4_gate 0 = .ok (.aload_n 0, 1) := by decide +kernel
theorem dX4_gate_1 : decode cX4_gate 1 = .ok (.iconst 0, 1) := by decide +kernel
theorem dX4_gate_2 : decode cX4_gate 2 = .ok (.putfield 38, 3) := by decide +kernel
theorem dX4_gate_5 : decode cX4_gate 5 = .ok (.iload_n 1, 1) := by decide +kernel
theorem dX4_gate_6 : decode cX4_gate 6 = .ok (.invokestatic 113, 3) := by decide +kernel
theorem dX4_gate_9 : decode cX4_gate 9 = .ok (.ifCond .eq 15, 3) := by decide +kernel
theorem dX4_gate_12 : decode cX4_gate 12 = .ok (.iload_n 2, 1) := by decide +kernel
theorem dX4_gate_13 : decode cX4_gate 13 = .ok (.invokestatic 94, 3) := by decide +kernel
theorem dX4_gate_16 : decode cX4_gate 16 = .ok (.ifCond .ne 15, 3) := by decide +kernel
theorem dX4_gate_19 : decode cX4_gate 19 = .ok (.iload_n 2, 1) := by decide +kernel
theorem dX4_gate_20 : decode cX4_gate 20 = .ok (.iconst (-1), 1) := by decide +kernel
theorem dX4_gate_21 : decode cX4_gate 21 = .ok (.if_icmp .eq 10, 3) := by decide +kernel
theorem dX4_gate_24 : decode cX4_gate 24 = .ok (.aload_n 0, 1) := by decide +kernel
theorem dX4_gate_25 : decode cX4_gate 25 = .ok (.bipush (-2), 2) := by decide +kernel
theorem dX4_gate_27 : decode cX4_gate 27 = .ok (.invokevirtual 46, 3) := by decide +kernel
theorem dX4_gate_30 : decode cX4_gate 30 = .ok (.ireturn, 1) := by decide +kernel
theorem dX4_gate_31 : decode cX4_gate 31 = .ok (.aload_n 0, 1) := by decide +kernel
theorem dX4_gate_32 : decode cX4_gate 32 = .ok (.getfield 18, 3) := by decide +kernel
theorem dX4_gate_35 : decode cX4_gate 35 = .ok (.iload_n 1, 1) := by decide +kernel
theorem dX4_gate_36 : decode cX4_gate 36 = .ok (.iaload, 1) := by decide +kernel
theorem dX4_gate_37 : decode cX4_gate 37 = .ok (.istore_n 3, 1) := by decide +kernel
theorem dX4_gate_38 : decode cX4_gate 38 = .ok (.aload_n 0, 1) := by decide +kernel
theorem dX4_gate_39 : decode cX4_gate 39 = .ok (.getfield 18, 3) := by decide +kernel
theorem dX4_gate_42 : decode cX4_gate 42 = .ok (.iload_n 1, 1) := by decide +kernel
theorem dX4_gate_43 : decode cX4_gate 43 = .ok (.iload_n 2, 1) := by decide +kernel
theorem dX4_gate_44 : decode cX4_gate 44 = .ok (.iastore, 1) := by decide +kernel
theorem dX4_gate_45 : decode cX4_gate 45 = .ok (.aload_n 0, 1) := by decide +kernel
theorem dX4_gate_46 : decode cX4_gate 46 = .ok (.getfield 22, 3) := by decide +kernel
theorem dX4_gate_49 : decode cX4_gate 49 = .ok (.iload_n 1, 1) := by decide +kernel
theorem dX4_gate_50 : decode cX4_gate 50 = .ok (.lconst 0, 1) := by decide +kernel
theorem dX4_gate_51 : decode cX4_gate 51 = .ok (.lastore, 1) := by decide +kernel
theorem dX4_gate_52 : decode cX4_gate 52 = .ok (.iload_n 3, 1) := by decide +kernel
theorem dX4_gate_53 : decode cX4_gate 53 = .ok (.ireturn, 1) := by decide +kernel
theorem dX4_pass_0 : decode cX4_pass 0 = .ok (.aload_n 0, 1) := by decide +kernel
theorem dX4_pass_1 : decode cX4_pass 1 = .ok (.iconst 0, 1) := by decide +kernel
theorem dX4_pass_2 : decode cX4_pass 2 = .ok (.putfield 38, 3) := by decide +kernel
theorem dX4_pass_5 : decode cX4_pass 5 = .ok (.aload_n 0, 1) := by decide +kernel
theorem dX4_pass_6 : decode cX4_pass 6 = .ok (.iload_n 1, 1) := by decide +kernel
theorem dX4_pass_7 : decode cX4_pass 7 = .ok (.invokevirtual 68, 3) := by decide +kernel
theorem dX4_pass_10 : decode cX4_pass 10 = .ok (.astore_n 3, 1) := by decide +kernel
theorem dX4_pass_11 : decode cX4_pass 11 = .ok (.aload_n 3, 1) := by decide +kernel
theorem dX4_pass_12 : decode cX4_pass 12 = .ok (.ifnull 20, 3) := by decide +kernel
theorem dX4_pass_15 : decode cX4_pass 15 = .ok (.iload_n 2, 1) := by decide +kernel
theorem dX4_pass_16 : decode cX4_pass 16 = .ok (.invokestatic 113, 3) := by decide +kernel
theorem dX4_pass_19 : decode cX4_pass 19 = .ok (.ifCond .eq 13, 3) := by decide +kernel
theorem dX4_pass_22 : decode cX4_pass 22 = .ok (.aload_n 0, 1) := by decide +kernel
theorem dX4_pass_23 : decode cX4_pass 23 = .ok (.getfield 18, 3) := by decide +kernel
theorem dX4_pass_26 : decode cX4_pass 26 = .ok (.iload_n 2, 1) := by decide +kernel
theorem dX4_pass_27 : decode cX4_pass 27 = .ok (.iaload, 1) := by decide +kernel
theorem dX4_pass_28 : decode cX4_pass 28 = .ok (.iconst (-1), 1) := by decide +kernel
theorem dX4_pass_29 : decode cX4_pass 29 = .ok (.if_icmp .ne 10, 3) := by decide +kernel
theorem dX4_pass_32 : decode cX4_pass 32 = .ok (.aload_n 0, 1) := by decide +kernel
theorem dX4_pass_33 : decode cX4_pass 33 = .ok (.bipush (-2), 2) := by decide +kernel
theorem dX4_pass_35 : decode cX4_pass 35 = .ok (.invokevirtual 46, 3) := by decide +kernel
theorem dX4_pass_38 : decode cX4_pass 38 = .ok (.ireturn, 1) := by decide +kernel
theorem dX4_pass_39 : decode cX4_pass 39 = .ok (.aload_n 3, 1) := by decide +kernel
theorem dX4_pass_40 : decode cX4_pass 40 = .ok (.aload_n 0, 1) := by decide +kernel
theorem dX4_pass_41 : decode cX4_pass 41 = .ok (.getfield 18, 3) := by decide +kernel
theorem dX4_pass_44 : decode cX4_pass 44 = .ok (.iload_n 2, 1) := by decide +kernel
theorem dX4_pass_45 : decode cX4_pass 45 = .ok (.iaload, 1) := by decide +kernel
theorem dX4_pass_46 : decode cX4_pass 46 = .ok (.invokevirtual 78, 3) := by decide +kernel
theorem dX4_pass_49 : decode cX4_pass 49 = .ok (.ifCond .ne 15, 3) := by decide +kernel
theorem dX4_pass_52 : decode cX4_pass 52 = .ok (.aload_n 0, 1) := by decide +kernel
theorem dX4_pass_53 : decode cX4_pass 53 = .ok (.dup, 1) := by decide +kernel
theorem dX4_pass_54 : decode cX4_pass 54 = .ok (.getfield 116, 3) := by decide +kernel
theorem dX4_pass_57 : decode cX4_pass 57 = .ok (.iconst 1, 1) := by decide +kernel
theorem dX4_pass_58 : decode cX4_pass 58 = .ok (.iadd, 1) := by decide +kernel
theorem dX4_pass_59 : decode cX4_pass 59 = .ok (.putfield 116, 3) := by decide +kernel
theorem dX4_pass_62 : decode cX4_pass 62 = .ok (.iconst 0, 1) := by decide +kernel
theorem dX4_pass_63 : decode cX4_pass 63 = .ok (.ireturn, 1) := by decide +kernel
theorem dX4_pass_64 : decode cX4_pass 64 = .ok (.aload_n 0, 1) := by decide +kernel
theorem dX4_pass_65 : decode cX4_pass 65 = .ok (.getfield 22, 3) := by decide +kernel
theorem dX4_pass_68 : decode cX4_pass 68 = .ok (.iload_n 2, 1) := by decide +kernel
theorem dX4_pass_69 : decode cX4_pass 69 = .ok (.dup2, 1) := by decide +kernel
theorem dX4_pass_70 : decode cX4_pass 70 = .ok (.laload, 1) := by decide +kernel
theorem dX4_pass_71 : decode cX4_pass 71 = .ok (.aload_n 3, 1) := by decide +kernel
theorem dX4_pass_72 : decode cX4_pass 72 = .ok (.iconst 3, 1) := by decide +kernel
theorem dX4_pass_73 : decode cX4_pass 73 = .ok (.invokevirtual 102, 3) := by decide +kernel
theorem dX4_pass_76 : decode cX4_pass 76 = .ok (.ladd, 1) := by decide +kernel
theorem dX4_pass_77 : decode cX4_pass 77 = .ok (.lastore, 1) := by decide +kernel
theorem dX4_pass_78 : decode cX4_pass 78 = .ok (.iconst 1, 1) := by decide +kernel
theorem dX4_pass_79 : decode cX4_pass 79 = .ok (.ireturn, 1) := by decide +kernel
theorem dX4_passed_0 : decode cX4_passed 0 = .ok (.aload_n 0, 1) := by decide +kernel
theorem dX4_passed_1 : decode cX4_passed 1 = .ok (.iconst 0, 1) := by decide +kernel
theorem dX4_passed_2 : decode cX4_passed 2 = .ok (.putfield 38, 3) := by decide +kernel
theorem dX4_passed_5 : decode cX4_passed 5 = .ok (.iload_n 1, 1) := by decide +kernel
theorem dX4_passed_6 : decode cX4_passed 6 = .ok (.invokestatic 113, 3) := by decide +kernel
theorem dX4_passed_9 : decode cX4_passed 9 = .ok (.ifCond .ne 12, 3) := by decide +kernel
theorem dX4_passed_12 : decode cX4_passed 12 = .ok (.aload_n 0, 1) := by decide +kernel
theorem dX4_passed_13 : decode cX4_passed 13 = .ok (.bipush (-2), 2) := by decide +kernel
theorem dX4_passed_15 : decode cX4_passed 15 = .ok (.invokevirtual 46, 3) := by decide +kernel
theorem dX4_passed_18 : decode cX4_passed 18 = .ok (.pop, 1) := by decide +kernel
theorem dX4_passed_19 : decode cX4_passed 19 = .ok (.lconst 0, 1) := by decide +kernel
theorem dX4_passed_20 : decode cX4_passed 20 = .ok (.lreturn, 1) := by decide +kernel
theorem dX4_passed_21 : decode cX4_passed 21 = .ok (.aload_n 0, 1) := by decide +kernel
theorem dX4_passed_22 : decode cX4_passed 22 = .ok (.getfield 22, 3) := by decide +kernel
theorem dX4_passed_25 : decode cX4_passed 25 = .ok (.iload_n 1, 1) := by decide +kernel
theorem dX4_passed_26 : decode cX4_passed 26 = .ok (.laload, 1) := by decide +kernel
theorem dX4_passed_27 : decode cX4_passed 27 = .ok (.lreturn, 1) := by decide +kernel
theorem dX4_tariff_0 : decode cX4_tariff 0 = .ok (.aload_n 0, 1) := by decide +kernel
theorem dX4_tariff_1 : decode cX4_tariff 1 = .ok (.iconst 0, 1) := by decide +kernel
theorem dX4_tariff_2 : decode cX4_tariff 2 = .ok (.putfield 38, 3) := by decide +kernel
theorem dX4_tariff_5 : decode cX4_tariff 5 = .ok (.iload_n 1, 1) := by decide +kernel
theorem dX4_tariff_6 : decode cX4_tariff 6 = .ok (.invokestatic 94, 3) := by decide +kernel
theorem dX4_tariff_9 : decode cX4_tariff 9 = .ok (.ifCond .eq 15, 3) := by decide +kernel
theorem dX4_tariff_12 : decode cX4_tariff 12 = .ok (.iload_n 2, 1) := by decide +kernel
theorem dX4_tariff_13 : decode cX4_tariff 13 = .ok (.bipush (-100), 2) := by decide +kernel
theorem dX4_tariff_15 : decode cX4_tariff 15 = .ok (.if_icmp .lt 9, 3) := by decide +kernel
theorem dX4_tariff_18 : decode cX4_tariff 18 = .ok (.iload_n 2, 1) := by decide +kernel
theorem dX4_tariff_19 : decode cX4_tariff 19 = .ok (.bipush 100, 2) := by decide +kernel
theorem dX4_tariff_21 : decode cX4_tariff 21 = .ok (.if_icmp .le 10, 3) := by decide +kernel
theorem dX4_tariff_24 : decode cX4_tariff 24 = .ok (.aload_n 0, 1) := by decide +kernel
theorem dX4_tariff_25 : decode cX4_tariff 25 = .ok (.bipush (-2), 2) := by decide +kernel
theorem dX4_tariff_27 : decode cX4_tariff 27 = .ok (.invokevirtual 46, 3) := by decide +kernel
theorem dX4_tariff_30 : decode cX4_tariff 30 = .ok (.ireturn, 1) := by decide +kernel
theorem dX4_tariff_31 : decode cX4_tariff 31 = .ok (.aload_n 0, 1) := by decide +kernel
theorem dX4_tariff_32 : decode cX4_tariff 32 = .ok (.getfield 119, 3) := by decide +kernel
theorem dX4_tariff_35 : decode cX4_tariff 35 = .ok (.bipush 10, 2) := by decide +kernel
theorem dX4_tariff_37 : decode cX4_tariff 37 = .ok (.if_icmp .lt 10, 3) := by decide +kernel
theorem dX4_tariff_40 : decode cX4_tariff 40 = .ok (.aload_n 0, 1) := by decide +kernel
theorem dX4_tariff_41 : decode cX4_tariff 41 = .ok (.bipush (-3), 2) := by decide +kernel
theorem dX4_tariff_43 : decode cX4_tariff 43 = .ok (.invokevirtual 46, 3) := by decide +kernel
theorem dX4_tariff_46 : decode cX4_tariff 46 = .ok (.ireturn, 1) := by decide +kernel
theorem dX4_tariff_47 : decode cX4_tariff 47 = .ok (.aload_n 0, 1) := by decide +kernel
theorem dX4_tariff_48 : decode cX4_tariff 48 = .ok (.getfield 26, 3) := by decide +kernel
theorem dX4_tariff_51 : decode cX4_tariff 51 = .ok (.aload_n 0, 1) := by decide +kernel
theorem dX4_tariff_52 : decode cX4_tariff 52 = .ok (.getfield 119, 3) := by decide +kernel
theorem dX4_tariff_55 : decode cX4_tariff 55 = .ok (.iload_n 1, 1) := by decide +kernel
theorem dX4_tariff_56 : decode cX4_tariff 56 = .ok (.iastore, 1) := by decide +kernel
theorem dX4_tariff_57 : decode cX4_tariff 57 = .ok (.aload_n 0, 1) := by decide +kernel
theorem dX4_tariff_58 : decode cX4_tariff 58 = .ok (.getfield 29, 3) := by decide +kernel
theorem dX4_tariff_61 : decode cX4_tariff 61 = .ok (.aload_n 0, 1) := by decide +kernel
theorem dX4_tariff_62 : decode cX4_tariff 62 = .ok (.getfield 119, 3) := by decide +kernel
theorem dX4_tariff_65 : decode cX4_tariff 65 = .ok (.iload_n 2, 1) := by decide +kernel
theorem dX4_tariff_66 : decode cX4_tariff 66 = .ok (.iastore, 1) := by decide +kernel
theorem dX4_tariff_67 : decode cX4_tariff 67 = .ok (.aload_n 0, 1) := by decide +kernel
theorem dX4_tariff_68 : decode cX4_tariff 68 = .ok (.dup, 1) := by decide +kernel
theorem dX4_tariff_69 : decode cX4_tariff 69 = .ok (.getfield 119, 3) := by decide +kernel
theorem dX4_tariff_72 : decode cX4_tariff 72 = .ok (.iconst 1, 1) := by decide +kernel
theorem dX4_tariff_73 : decode cX4_tariff 73 = .ok (.iadd, 1) := by decide +kernel
theorem dX4_tariff_74 : decode cX4_tariff 74 = .ok (.putfield 119, 3) := by decide +kernel
theorem dX4_tariff_77 : decode cX4_tariff 77 = .ok (.aload_n 0, 1) := by decide +kernel
theorem dX4_tariff_78 : decode cX4_tariff 78 = .ok (.getfield 119, 3) := by decide +kernel
theorem dX4_tariff_81 : decode cX4_tariff 81 = .ok (.ireturn, 1) := by decide +kernel
theorem dX4_duty_0 : decode cX4_duty 0 = .ok (.aload_n 0, 1) := by decide +kernel
theorem dX4_duty_1 : decode cX4_duty 1 = .ok (.iconst 0, 1) := by decide +kernel
theorem dX4_duty_2 : decode cX4_duty 2 = .ok (.putfield 38, 3) := by decide +kernel
theorem dX4_duty_5 : decode cX4_duty 5 = .ok (.aload_n 0, 1) := by decide +kernel
theorem dX4_duty_6 : decode cX4_duty 6 = .ok (.iload_n 1, 1) := by decide +kernel
theorem dX4_duty_7 : decode cX4_duty 7 = .ok (.invokevirtual 68, 3) := by decide +kernel
theorem dX4_duty_10 : decode cX4_duty 10 = .ok (.astore_n 2, 1) := by decide +kernel
theorem dX4_duty_11 : decode cX4_duty 11 = .ok (.aload_n 2, 1) := by decide +kernel
theorem dX4_duty_12 : decode cX4_duty 12 = .ok (.ifnonnull 12, 3) := by decide +kernel
theorem dX4_duty_15 : decode cX4_duty 15 = .ok (.aload_n 0, 1) := by decide +kernel
theorem dX4_duty_16 : decode cX4_duty 16 = .ok (.bipush (-2), 2) := by decide +kernel
theorem dX4_duty_18 : decode cX4_duty 18 = .ok (.invokevirtual 46, 3) := by decide +kernel
theorem dX4_duty_21 : decode cX4_duty 21 = .ok (.pop, 1) := by decide +kernel
theorem dX4_duty_22 : decode cX4_duty 22 = .ok (.iconst 0, 1) := by decide +kernel
theorem dX4_duty_23 : decode cX4_duty 23 = .ok (.ireturn, 1) := by decide +kernel
theorem dX4_duty_24 : decode cX4_duty 24 = .ok (.aload_n 0, 1) := by decide +kernel
theorem dX4_duty_25 : decode cX4_duty 25 = .ok (.aload_n 2, 1) := by decide +kernel
theorem dX4_duty_26 : decode cX4_duty 26 = .ok (.invokevirtual 122, 3) := by decide +kernel
theorem dX4_duty_29 : decode cX4_duty 29 = .ok (.istore_n 3, 1) := by decide +kernel
theorem dX4_duty_30 : decode cX4_duty 30 = .ok (.iload_n 3, 1) := by decide +kernel
theorem dX4_duty_31 : decode cX4_duty 31 = .ok (.iconst (-1), 1) := by decide +kernel
theorem dX4_duty_32 : decode cX4_duty 32 = .ok (.if_icmp .ne 5, 3) := by decide +kernel
theorem dX4_duty_35 : decode cX4_duty 35 = .ok (.iconst 0, 1) := by decide +kernel
theorem dX4_duty_36 : decode cX4_duty 36 = .ok (.ireturn, 1) := by decide +kernel
theorem dX4_duty_37 : decode cX4_duty 37 = .ok (.aload_n 0, 1) := by decide +kernel
theorem dX4_duty_38 : decode cX4_duty 38 = .ok (.getfield 29, 3) := by decide +kernel
theorem dX4_duty_41 : decode cX4_duty 41 = .ok (.iload_n 3, 1) := by decide +kernel
theorem dX4_duty_42 : decode cX4_duty 42 = .ok (.iaload, 1) := by decide +kernel
theorem dX4_duty_43 : decode cX4_duty 43 = .ok (.aload_n 2, 1) := by decide +kernel
theorem dX4_duty_44 : decode cX4_duty 44 = .ok (.aload_n 0, 1) := by decide +kernel
theorem dX4_duty_45 : decode cX4_duty 45 = .ok (.getfield 26, 3) := by decide +kernel
theorem dX4_duty_48 : decode cX4_duty 48 = .ok (.iload_n 3, 1) := by decide +kernel
theorem dX4_duty_49 : decode cX4_duty 49 = .ok (.iaload, 1) := by decide +kernel
theorem dX4_duty_50 : decode cX4_duty 50 = .ok (.invokevirtual 125, 3) := by decide +kernel
theorem dX4_duty_53 : decode cX4_duty 53 = .ok (.imul, 1) := by decide +kernel
theorem dX4_duty_54 : decode cX4_duty 54 = .ok (.ireturn, 1) := by decide +kernel
theorem dX4_line_0 : decode cX4_line 0 = .ok (.aload_n 0, 1) := by decide +kernel
theorem dX4_line_1 : decode cX4_line 1 = .ok (.iconst 0, 1) := by decide +kernel
theorem dX4_line_2 : decode cX4_line 2 = .ok (.putfield 38, 3) := by decide +kernel
theorem dX4_line_5 : decode cX4_line 5 = .ok (.aload_n 0, 1) := by decide +kernel
theorem dX4_line_6 : decode cX4_line 6 = .ok (.iload_n 1, 1) := by decide +kernel
theorem dX4_line_7 : decode cX4_line 7 = .ok (.invokevirtual 68, 3) := by decide +kernel
theorem dX4_line_10 : decode cX4_line 10 = .ok (.astore_n 2, 1) := by decide +kernel
theorem dX4_line_11 : decode cX4_line 11 = .ok (.aload_n 2, 1) := by decide +kernel
theorem dX4_line_12 : decode cX4_line 12 = .ok (.ifnonnull 10, 3) := by decide +kernel
theorem dX4_line_15 : decode cX4_line 15 = .ok (.aload_n 0, 1) := by decide +kernel
theorem dX4_line_16 : decode cX4_line 16 = .ok (.bipush (-2), 2) := by decide +kernel
theorem dX4_line_18 : decode cX4_line 18 = .ok (.invokevirtual 46, 3) := by decide +kernel
theorem dX4_line_21 : decode cX4_line 21 = .ok (.ireturn, 1) := by decide +kernel
theorem dX4_line_22 : decode cX4_line 22 = .ok (.aload_n 0, 1) := by decide +kernel
theorem dX4_line_23 : decode cX4_line 23 = .ok (.aload_n 2, 1) := by decide +kernel
theorem dX4_line_24 : decode cX4_line 24 = .ok (.invokevirtual 122, 3) := by decide +kernel
theorem dX4_line_27 : decode cX4_line 27 = .ok (.ireturn, 1) := by decide +kernel
theorem dX4_refused_0 : decode cX4_refused 0 = .ok (.aload_n 0, 1) := by decide +kernel
theorem dX4_refused_1 : decode cX4_refused 1 = .ok (.getfield 38, 3) := by decide +kernel
theorem dX4_refused_4 : decode cX4_refused 4 = .ok (.ireturn, 1) := by decide +kernel
theorem dX4_count_0 : decode cX4_count 0 = .ok (.iload_n 1, 1) := by decide +kernel
theorem dX4_count_1 : decode cX4_count 1 = .ok (.tableswitch 69 0 5 #[39, 44, 49, 54, 59, 64], 39) := by decide +kernel
theorem dX4_count_40 : decode cX4_count 40 = .ok (.aload_n 0, 1) := by decide +kernel
theorem dX4_count_41 : decode cX4_count 41 = .ok (.getfield 49, 3) := by decide +kernel
theorem dX4_count_44 : decode cX4_count 44 = .ok (.ireturn, 1) := by decide +kernel
theorem dX4_count_45 : decode cX4_count 45 = .ok (.aload_n 0, 1) := by decide +kernel
theorem dX4_count_46 : decode cX4_count 46 = .ok (.getfield 128, 3) := by decide +kernel
theorem dX4_count_49 : decode cX4_count 49 = .ok (.ireturn, 1) := by decide +kernel
theorem dX4_count_50 : decode cX4_count 50 = .ok (.aload_n 0, 1) := by decide +kernel
theorem dX4_count_51 : decode cX4_count 51 = .ok (.getfield 131, 3) := by decide +kernel
theorem dX4_count_54 : decode cX4_count 54 = .ok (.ireturn, 1) := by decide +kernel
theorem dX4_count_55 : decode cX4_count 55 = .ok (.aload_n 0, 1) := by decide +kernel
theorem dX4_count_56 : decode cX4_count 56 = .ok (.getfield 134, 3) := by decide +kernel
theorem dX4_count_59 : decode cX4_count 59 = .ok (.ireturn, 1) := by decide +kernel
theorem dX4_count_60 : decode cX4_count 60 = .ok (.aload_n 0, 1) := by decide +kernel
theorem dX4_count_61 : decode cX4_count 61 = .ok (.getfield 116, 3) := by decide +kernel
theorem dX4_count_64 : decode cX4_count 64 = .ok (.ireturn, 1) := by decide +kernel
theorem dX4_count_65 : decode cX4_count 65 = .ok (.aload_n 0, 1) := by decide +kernel
theorem dX4_count_66 : decode cX4_count 66 = .ok (.getfield 119, 3) := by decide +kernel
theorem dX4_count_69 : decode cX4_count 69 = .ok (.ireturn, 1) := by decide +kernel
theorem dX4_count_70 : decode cX4_count 70 = .ok (.bipush (-2), 2) := by decide +kernel
theorem dX4_count_72 : decode cX4_count 72 = .ok (.ireturn, 1) := by decide +kernel
theorem dX4_refuse_0 : decode cX4_refuse 0 = .ok (.aload_n 0, 1) := by decide +kernel
theorem dX4_refuse_1 : decode cX4_refuse 1 = .ok (.iload_n 1, 1) := by decide +kernel
theorem dX4_refuse_2 : decode cX4_refuse 2 = .ok (.putfield 38, 3) := by decide +kernel
theorem dX4_refuse_5 : decode cX4_refuse 5 = .ok (.iload_n 1, 1) := by decide +kernel
theorem dX4_refuse_6 : decode cX4_refuse 6 = .ok (.bipush (-4), 2) := by decide +kernel
theorem dX4_refuse_8 : decode cX4_refuse 8 = .ok (.if_icmp .ne 16, 3) := by decide +kernel
theorem dX4_refuse_11 : decode cX4_refuse 11 = .ok (.aload_n 0, 1) := by decide +kernel
theorem dX4_refuse_12 : decode cX4_refuse 12 = .ok (.dup, 1) := by decide +kernel
theorem dX4_refuse_13 : decode cX4_refuse 13 = .ok (.getfield 128, 3) := by decide +kernel
theorem dX4_refuse_16 : decode cX4_refuse 16 = .ok (.iconst 1, 1) := by decide +kernel
theorem dX4_refuse_17 : decode cX4_refuse 17 = .ok (.iadd, 1) := by decide +kernel
theorem dX4_refuse_18 : decode cX4_refuse 18 = .ok (.putfield 128, 3) := by decide +kernel
theorem dX4_refuse_21 : decode cX4_refuse 21 = .ok (.goto 38, 3) := by decide +kernel
theorem dX4_refuse_24 : decode cX4_refuse 24 = .ok (.iload_n 1, 1) := by decide +kernel
theorem dX4_refuse_25 : decode cX4_refuse 25 = .ok (.bipush (-5), 2) := by decide +kernel
theorem dX4_refuse_27 : decode cX4_refuse 27 = .ok (.if_icmp .ne 16, 3) := by decide +kernel
theorem dX4_refuse_30 : decode cX4_refuse 30 = .ok (.aload_n 0, 1) := by decide +kernel
theorem dX4_refuse_31 : decode cX4_refuse 31 = .ok (.dup, 1) := by decide +kernel
theorem dX4_refuse_32 : decode cX4_refuse 32 = .ok (.getfield 131, 3) := by decide +kernel
theorem dX4_refuse_35 : decode cX4_refuse 35 = .ok (.iconst 1, 1) := by decide +kernel
theorem dX4_refuse_36 : decode cX4_refuse 36 = .ok (.iadd, 1) := by decide +kernel
theorem dX4_refuse_37 : decode cX4_refuse 37 = .ok (.putfield 131, 3) := by decide +kernel
theorem dX4_refuse_40 : decode cX4_refuse 40 = .ok (.goto 19, 3) := by decide +kernel
theorem dX4_refuse_43 : decode cX4_refuse 43 = .ok (.iload_n 1, 1) := by decide +kernel
theorem dX4_refuse_44 : decode cX4_refuse 44 = .ok (.bipush (-6), 2) := by decide +kernel
theorem dX4_refuse_46 : decode cX4_refuse 46 = .ok (.if_icmp .ne 13, 3) := by decide +kernel
theorem dX4_refuse_49 : decode cX4_refuse 49 = .ok (.aload_n 0, 1) := by decide +kernel
theorem dX4_refuse_50 : decode cX4_refuse 50 = .ok (.dup, 1) := by decide +kernel
theorem dX4_refuse_51 : decode cX4_refuse 51 = .ok (.getfield 134, 3) := by decide +kernel
theorem dX4_refuse_54 : decode cX4_refuse 54 = .ok (.iconst 1, 1) := by decide +kernel
theorem dX4_refuse_55 : decode cX4_refuse 55 = .ok (.iadd, 1) := by decide +kernel
theorem dX4_refuse_56 : decode cX4_refuse 56 = .ok (.putfield 134, 3) := by decide +kernel
theorem dX4_refuse_59 : decode cX4_refuse 59 = .ok (.iload_n 1, 1) := by decide +kernel
theorem dX4_refuse_60 : decode cX4_refuse 60 = .ok (.ireturn, 1) := by decide +kernel
theorem dX4_find_0 : decode cX4_find 0 = .ok (.iload_n 1, 1) := by decide +kernel
theorem dX4_find_1 : decode cX4_find 1 = .ok (.ifCond .lt 21, 3) := by decide +kernel
theorem dX4_find_4 : decode cX4_find 4 = .ok (.iload_n 1, 1) := by decide +kernel
theorem dX4_find_5 : decode cX4_find 5 = .ok (.aload_n 0, 1) := by decide +kernel
theorem dX4_find_6 : decode cX4_find 6 = .ok (.getfield 11, 3) := by decide +kernel
theorem dX4_find_9 : decode cX4_find 9 = .ok (.arraylength, 1) := by decide +kernel
theorem dX4_find_10 : decode cX4_find 10 = .ok (.if_icmp .ge 12, 3) := by decide +kernel
theorem dX4_find_13 : decode cX4_find 13 = .ok (.aload_n 0, 1) := by decide +kernel
theorem dX4_find_14 : decode cX4_find 14 = .ok (.getfield 11, 3) := by decide +kernel
theorem dX4_find_17 : decode cX4_find 17 = .ok (.iload_n 1, 1) := by decide +kernel
theorem dX4_find_18 : decode cX4_find 18 = .ok (.aaload, 1) := by decide +kernel
theorem dX4_find_19 : decode cX4_find 19 = .ok (.goto 4, 3) := by decide +kernel
theorem dX4_find_22 : decode cX4_find 22 = .ok (.aconst_null, 1) := by decide +kernel
theorem dX4_find_23 : decode cX4_find 23 = .ok (.areturn, 1) := by decide +kernel
theorem dX4_numbersWith_0 : decode cX4_numbersWith 0 = .ok (.aload_n 0, 1) := by decide +kernel
theorem dX4_numbersWith_1 : decode cX4_numbersWith 1 = .ok (.iload_n 1, 1) := by decide +kernel
theorem dX4_numbersWith_2 : decode cX4_numbersWith 2 = .ok (.invokevirtual 68, 3) := by decide +kernel
theorem dX4_numbersWith_5 : decode cX4_numbersWith 5 = .ok (.astore_n 3, 1) := by decide +kernel
theorem dX4_numbersWith_6 : decode cX4_numbersWith 6 = .ok (.aload_n 3, 1) := by decide +kernel
theorem dX4_numbersWith_7 : decode cX4_numbersWith 7 = .ok (.ifnonnull 12, 3) := by decide +kernel
theorem dX4_numbersWith_10 : decode cX4_numbersWith 10 = .ok (.aload_n 0, 1) := by decide +kernel
theorem dX4_numbersWith_11 : decode cX4_numbersWith 11 = .ok (.bipush (-2), 2) := by decide +kernel
theorem dX4_numbersWith_13 : decode cX4_numbersWith 13 = .ok (.invokevirtual 46, 3) := by decide +kernel
theorem dX4_numbersWith_16 : decode cX4_numbersWith 16 = .ok (.pop, 1) := by decide +kernel
theorem dX4_numbersWith_17 : decode cX4_numbersWith 17 = .ok (.aconst_null, 1) := by decide +kernel
theorem dX4_numbersWith_18 : decode cX4_numbersWith 18 = .ok (.areturn, 1) := by decide +kernel
theorem dX4_numbersWith_19 : decode cX4_numbersWith 19 = .ok (.aload_n 3, 1) := by decide +kernel
theorem dX4_numbersWith_20 : decode cX4_numbersWith 20 = .ok (.instanceof 61, 3) := by decide +kernel
theorem dX4_numbersWith_23 : decode cX4_numbersWith 23 = .ok (.ifCond .eq 12, 3) := by decide +kernel
theorem dX4_numbersWith_26 : decode cX4_numbersWith 26 = .ok (.aload_n 3, 1) := by decide +kernel
theorem dX4_numbersWith_27 : decode cX4_numbersWith 27 = .ok (.checkcast 61, 3) := by decide +kernel
theorem dX4_numbersWith_30 : decode cX4_numbersWith 30 = .ok (.astore 4, 2) := by decide +kernel
theorem dX4_numbersWith_32 : decode cX4_numbersWith 32 = .ok (.goto 12, 3) := by decide +kernel
theorem dX4_numbersWith_35 : decode cX4_numbersWith 35 = .ok (.aload_n 0, 1) := by decide +kernel
theorem dX4_numbersWith_36 : decode cX4_numbersWith 36 = .ok (.bipush (-4), 2) := by decide +kernel
theorem dX4_numbersWith_38 : decode cX4_numbersWith 38 = .ok (.invokevirtual 46, 3) := by decide +kernel
theorem dX4_numbersWith_41 : decode cX4_numbersWith 41 = .ok (.pop, 1) := by decide +kernel
theorem dX4_numbersWith_42 : decode cX4_numbersWith 42 = .ok (.aconst_null, 1) := by decide +kernel
theorem dX4_numbersWith_43 : decode cX4_numbersWith 43 = .ok (.areturn, 1) := by decide +kernel
theorem dX4_numbersWith_44 : decode cX4_numbersWith 44 = .ok (.aload 4, 2) := by decide +kernel
theorem dX4_numbersWith_46 : decode cX4_numbersWith 46 = .ok (.iload_n 2, 1) := by decide +kernel
theorem dX4_numbersWith_47 : decode cX4_numbersWith 47 = .ok (.invokevirtual 137, 3) := by decide +kernel
theorem dX4_numbersWith_50 : decode cX4_numbersWith 50 = .ok (.ifCond .ne 12, 3) := by decide +kernel
theorem dX4_numbersWith_53 : decode cX4_numbersWith 53 = .ok (.aload_n 0, 1) := by decide +kernel
theorem dX4_numbersWith_54 : decode cX4_numbersWith 54 = .ok (.bipush (-5), 2) := by decide +kernel
theorem dX4_numbersWith_56 : decode cX4_numbersWith 56 = .ok (.invokevirtual 46, 3) := by decide +kernel
theorem dX4_numbersWith_59 : decode cX4_numbersWith 59 = .ok (.pop, 1) := by decide +kernel
theorem dX4_numbersWith_60 : decode cX4_numbersWith 60 = .ok (.aconst_null, 1) := by decide +kernel
theorem dX4_numbersWith_61 : decode cX4_numbersWith 61 = .ok (.areturn, 1) := by decide +kernel
theorem dX4_numbersWith_62 : decode cX4_numbersWith 62 = .ok (.aload 4, 2) := by decide +kernel
theorem dX4_numbersWith_64 : decode cX4_numbersWith 64 = .ok (.areturn, 1) := by decide +kernel
theorem dX4_takeAs_0 : decode cX4_takeAs 0 = .ok (.aload_n 1, 1) := by decide +kernel
theorem dX4_takeAs_1 : decode cX4_takeAs 1 = .ok (.iload_n 2, 1) := by decide +kernel
theorem dX4_takeAs_2 : decode cX4_takeAs 2 = .ok (.invokevirtual 78, 3) := by decide +kernel
theorem dX4_takeAs_5 : decode cX4_takeAs 5 = .ok (.ifCond .eq 11, 3) := by decide +kernel
theorem dX4_takeAs_8 : decode cX4_takeAs 8 = .ok (.aload_n 1, 1) := by decide +kernel
theorem dX4_takeAs_9 : decode cX4_takeAs 9 = .ok (.iload_n 2, 1) := by decide +kernel
theorem dX4_takeAs_10 : decode cX4_takeAs 10 = .ok (.invokevirtual 125, 3) := by decide +kernel
theorem dX4_takeAs_13 : decode cX4_takeAs 13 = .ok (.goto 9, 3) := by decide +kernel
theorem dX4_takeAs_16 : decode cX4_takeAs 16 = .ok (.aload_n 0, 1) := by decide +kernel
theorem dX4_takeAs_17 : decode cX4_takeAs 17 = .ok (.bipush (-4), 2) := by decide +kernel
theorem dX4_takeAs_19 : decode cX4_takeAs 19 = .ok (.invokevirtual 46, 3) := by decide +kernel
theorem dX4_takeAs_22 : decode cX4_takeAs 22 = .ok (.ireturn, 1) := by decide +kernel
theorem dX4_lineFor_0 : decode cX4_lineFor 0 = .ok (.iconst 0, 1) := by decide +kernel
theorem dX4_lineFor_1 : decode cX4_lineFor 1 = .ok (.istore_n 2, 1) := by decide +kernel
theorem dX4_lineFor_2 : decode cX4_lineFor 2 = .ok (.iload_n 2, 1) := by decide +kernel
theorem dX4_lineFor_3 : decode cX4_lineFor 3 = .ok (.aload_n 0, 1) := by decide +kernel
theorem dX4_lineFor_4 : decode cX4_lineFor 4 = .ok (.getfield 119, 3) := by decide +kernel
theorem dX4_lineFor_7 : decode cX4_lineFor 7 = .ok (.if_icmp .ge 24, 3) := by decide +kernel
theorem dX4_lineFor_10 : decode cX4_lineFor 10 = .ok (.aload_n 1, 1) := by decide +kernel
theorem dX4_lineFor_11 : decode cX4_lineFor 11 = .ok (.aload_n 0, 1) := by decide +kernel
theorem dX4_lineFor_12 : decode cX4_lineFor 12 = .ok (.getfield 26, 3) := by decide +kernel
theorem dX4_lineFor_15 : decode cX4_lineFor 15 = .ok (.iload_n 2, 1) := by decide +kernel
theorem dX4_lineFor_16 : decode cX4_lineFor 16 = .ok (.iaload, 1) := by decide +kernel
theorem dX4_lineFor_17 : decode cX4_lineFor 17 = .ok (.invokevirtual 78, 3) := by decide +kernel
theorem dX4_lineFor_20 : decode cX4_lineFor 20 = .ok (.ifCond .eq 5, 3) := by decide +kernel
theorem dX4_lineFor_23 : decode cX4_lineFor 23 = .ok (.iload_n 2, 1) := by decide +kernel
theorem dX4_lineFor_24 : decode cX4_lineFor 24 = .ok (.ireturn, 1) := by decide +kernel
theorem dX4_lineFor_25 : decode cX4_lineFor 25 = .ok (.iinc 2 1, 3) := by decide +kernel
theorem dX4_lineFor_28 : decode cX4_lineFor 28 = .ok (.goto (-26), 3) := by decide +kernel
theorem dX4_lineFor_31 : decode cX4_lineFor 31 = .ok (.iconst (-1), 1) := by decide +kernel
theorem dX4_lineFor_32 : decode cX4_lineFor 32 = .ok (.ireturn, 1) := by decide +kernel
theorem dX4_numberOf_0 : decode cX4_numberOf 0 = .ok (.aload_n 0, 1) := by decide +kernel
theorem dX4_numberOf_1 : decode cX4_numberOf 1 = .ok (.ifnonnull 7, 3) := by decide +kernel
theorem dX4_numberOf_4 : decode cX4_numberOf 4 = .ok (.iconst (-1), 1) := by decide +kernel
theorem dX4_numberOf_5 : decode cX4_numberOf 5 = .ok (.goto 7, 3) := by decide +kernel
theorem dX4_numberOf_8 : decode cX4_numberOf 8 = .ok (.aload_n 0, 1) := by decide +kernel
theorem dX4_numberOf_9 : decode cX4_numberOf 9 = .ok (.getfield 138, 3) := by decide +kernel
theorem dX4_numberOf_12 : decode cX4_numberOf 12 = .ok (.ireturn, 1) := by decide +kernel
theorem dX4_isView_0 : decode cX4_isView 0 = .ok (.iload_n 0, 1) := by decide +kernel
theorem dX4_isView_1 : decode cX4_isView 1 = .ok (.ifCond .lt 13, 3) := by decide +kernel
theorem dX4_isView_4 : decode cX4_isView 4 = .ok (.iload_n 0, 1) := by decide +kernel
theorem dX4_isView_5 : decode cX4_isView 5 = .ok (.bipush 13, 2) := by decide +kernel
theorem dX4_isView_7 : decode cX4_isView 7 = .ok (.if_icmp .gt 7, 3) := by decide +kernel
theorem dX4_isView_10 : decode cX4_isView 10 = .ok (.iconst 1, 1) := by decide +kernel
theorem dX4_isView_11 : decode cX4_isView 11 = .ok (.goto 4, 3) := by decide +kernel
theorem dX4_isView_14 : decode cX4_isView 14 = .ok (.iconst 0, 1) := by decide +kernel
theorem dX4_isView_15 : decode cX4_isView 15 = .ok (.ireturn, 1) := by decide +kernel
theorem dX4_isBay_0 : decode cX4_isBay 0 = .ok (.iload_n 0, 1) := by decide +kernel
theorem dX4_isBay_1 : decode cX4_isBay 1 = .ok (.ifCond .lt 13, 3) := by decide +kernel
theorem dX4_isBay_4 : decode cX4_isBay 4 = .ok (.iload_n 0, 1) := by decide +kernel
theorem dX4_isBay_5 : decode cX4_isBay 5 = .ok (.bipush 12, 2) := by decide +kernel
theorem dX4_isBay_7 : decode cX4_isBay 7 = .ok (.if_icmp .ge 7, 3) := by decide +kernel
theorem dX4_isBay_10 : decode cX4_isBay 10 = .ok (.iconst 1, 1) := by decide +kernel
theorem dX4_isBay_11 : decode cX4_isBay 11 = .ok (.goto 4, 3) := by decide +kernel
theorem dX4_isBay_14 : decode cX4_isBay 14 = .ok (.iconst 0, 1) := by decide +kernel
theorem dX4_isBay_15 : decode cX4_isBay 15 = .ok (.ireturn, 1) := by decide +kernel
theorem dX4_isGate_0 : decode cX4_isGate 0 = .ok (.iload_n 0, 1) := by decide +kernel
theorem dX4_isGate_1 : decode cX4_isGate 1 = .ok (.ifCond .lt 13, 3) := by decide +kernel
theorem dX4_isGate_4 : decode cX4_isGate 4 = .ok (.iload_n 0, 1) := by decide +kernel
theorem dX4_isGate_5 : decode cX4_isGate 5 = .ok (.bipush 6, 2) := by decide +kernel
theorem dX4_isGate_7 : decode cX4_isGate 7 = .ok (.if_icmp .ge 7, 3) := by decide +kernel
theorem dX4_isGate_10 : decode cX4_isGate 10 = .ok (.iconst 1, 1) := by decide +kernel
theorem dX4_isGate_11 : decode cX4_isGate 11 = .ok (.goto 4, 3) := by decide +kernel
theorem dX4_isGate_14 : decode cX4_isGate 14 = .ok (.iconst 0, 1) := by decide +kernel
theorem dX4_isGate_15 : decode cX4_isGate 15 = .ok (.ireturn, 1) := by decide +kernel
theorem dX4_hasWeightTold_0 : decode cX4_hasWeightTold 0 = .ok (.iload_n 0, 1) := by decide +kernel
theorem dX4_hasWeightTold_1 : decode cX4_hasWeightTold 1 = .ok (.iconst 4, 1) := by decide +kernel
theorem dX4_hasWeightTold_2 : decode cX4_hasWeightTold 2 = .ok (.if_icmp .eq 14, 3) := by decide +kernel
theorem dX4_hasWeightTold_5 : decode cX4_hasWeightTold 5 = .ok (.iload_n 0, 1) := by decide +kernel
theorem dX4_hasWeightTold_6 : decode cX4_hasWeightTold 6 = .ok (.iconst 5, 1) := by decide +kernel
theorem dX4_hasWeightTold_7 : decode cX4_hasWeightTold 7 = .ok (.if_icmp .eq 9, 3) := by decide +kernel
theorem dX4_hasWeightTold_10 : decode cX4_hasWeightTold 10 = .ok (.iload_n 0, 1) := by decide +kernel
theorem dX4_hasWeightTold_11 : decode cX4_hasWeightTold 11 = .ok (.bipush 6, 2) := by decide +kernel
theorem dX4_hasWeightTold_13 : decode cX4_hasWeightTold 13 = .ok (.if_icmp .ne 7, 3) := by decide +kernel
theorem dX4_hasWeightTold_16 : decode cX4_hasWeightTold 16 = .ok (.iconst 1, 1) := by decide +kernel
theorem dX4_hasWeightTold_17 : decode cX4_hasWeightTold 17 = .ok (.goto 4, 3) := by decide +kernel
theorem dX4_hasWeightTold_20 : decode cX4_hasWeightTold 20 = .ok (.iconst 0, 1) := by decide +kernel
theorem dX4_hasWeightTold_21 : decode cX4_hasWeightTold 21 = .ok (.ireturn, 1) := by decide +kernel
theorem dX4_mostOf_0 : decode cX4_mostOf 0 = .ok (.iload_n 0, 1) := by decide +kernel
theorem dX4_mostOf_1 : decode cX4_mostOf 1 = .ok (.invokestatic 141, 3) := by decide +kernel
theorem dX4_mostOf_4 : decode cX4_mostOf 4 = .ok (.ifCond .eq 9, 3) := by decide +kernel
theorem dX4_mostOf_7 : decode cX4_mostOf 7 = .ok (.sipush 1000, 3) := by decide +kernel
theorem dX4_mostOf_10 : decode cX4_mostOf 10 = .ok (.goto 5, 3) := by decide +kernel
theorem dX4_mostOf_13 : decode cX4_mostOf 13 = .ok (.bipush 6, 2) := by decide +kernel
theorem dX4_mostOf_15 : decode cX4_mostOf 15 = .ok (.ireturn, 1) := by decide +kernel
theorem dX4_makeLoad_0 : decode cX4_makeLoad 0 = .ok (.iload_n 1, 1) := by decide +kernel
theorem dX4_makeLoad_1 : decode cX4_makeLoad 1 = .ok (.invokestatic 141, 3) := by decide +kernel
theorem dX4_makeLoad_4 : decode cX4_makeLoad 4 = .ok (.ifCond .eq 14, 3) := by decide +kernel
theorem dX4_makeLoad_7 : decode cX4_makeLoad 7 = .ok (.new 144, 3) := by decide +kernel
theorem dX4_makeLoad_10 : decode cX4_makeLoad 10 = .ok (.dup, 1) := by decide +kernel
theorem dX4_makeLoad_11 : decode cX4_makeLoad 11 = .ok (.iload_n 0, 1) := by decide +kernel
theorem dX4_makeLoad_12 : decode cX4_makeLoad 12 = .ok (.iload_n 1, 1) := by decide +kernel
theorem dX4_makeLoad_13 : decode cX4_makeLoad 13 = .ok (.iload_n 2, 1) := by decide +kernel
theorem dX4_makeLoad_14 : decode cX4_makeLoad 14 = .ok (.invokespecial 146, 3) := by decide +kernel
theorem dX4_makeLoad_17 : decode cX4_makeLoad 17 = .ok (.areturn, 1) := by decide +kernel
theorem dX4_makeLoad_18 : decode cX4_makeLoad 18 = .ok (.iload_n 1, 1) := by decide +kernel
theorem dX4_makeLoad_19 : decode cX4_makeLoad 19 = .ok (.ifCond .eq 13, 3) := by decide +kernel
theorem dX4_makeLoad_22 : decode cX4_makeLoad 22 = .ok (.iload_n 1, 1) := by decide +kernel
theorem dX4_makeLoad_23 : decode cX4_makeLoad 23 = .ok (.iconst 1, 1) := by decide +kernel
theorem dX4_makeLoad_24 : decode cX4_makeLoad 24 = .ok (.if_icmp .eq 8, 3) := by decide +kernel
theorem dX4_makeLoad_27 : decode cX4_makeLoad 27 = .ok (.iload_n 1, 1) := by decide +kernel
theorem dX4_makeLoad_28 : decode cX4_makeLoad 28 = .ok (.iconst 2, 1) := by decide +kernel
theorem dX4_makeLoad_29 : decode cX4_makeLoad 29 = .ok (.if_icmp .ne 16, 3) := by decide +kernel
theorem dX4_makeLoad_32 : decode cX4_makeLoad 32 = .ok (.new 61, 3) := by decide +kernel
theorem dX4_makeLoad_35 : decode cX4_makeLoad 35 = .ok (.dup, 1) := by decide +kernel
theorem dX4_makeLoad_36 : decode cX4_makeLoad 36 = .ok (.iload_n 0, 1) := by decide +kernel
theorem dX4_makeLoad_37 : decode cX4_makeLoad 37 = .ok (.iload_n 1, 1) := by decide +kernel
theorem dX4_makeLoad_38 : decode cX4_makeLoad 38 = .ok (.iload_n 2, 1) := by decide +kernel
theorem dX4_makeLoad_39 : decode cX4_makeLoad 39 = .ok (.newarray .long, 2) := by decide +kernel
theorem dX4_makeLoad_41 : decode cX4_makeLoad 41 = .ok (.invokespecial 149, 3) := by decide +kernel
theorem dX4_makeLoad_44 : decode cX4_makeLoad 44 = .ok (.areturn, 1) := by decide +kernel
theorem dX4_makeLoad_45 : decode cX4_makeLoad 45 = .ok (.new 72, 3) := by decide +kernel
theorem dX4_makeLoad_48 : decode cX4_makeLoad 48 = .ok (.dup, 1) := by decide +kernel
theorem dX4_makeLoad_49 : decode cX4_makeLoad 49 = .ok (.iload_n 0, 1) := by decide +kernel
theorem dX4_makeLoad_50 : decode cX4_makeLoad 50 = .ok (.iload_n 1, 1) := by decide +kernel
theorem dX4_makeLoad_51 : decode cX4_makeLoad 51 = .ok (.iload_n 2, 1) := by decide +kernel
theorem dX4_makeLoad_52 : decode cX4_makeLoad 52 = .ok (.anewarray 9, 3) := by decide +kernel
theorem dX4_makeLoad_55 : decode cX4_makeLoad 55 = .ok (.invokespecial 152, 3) := by decide +kernel
theorem dX4_makeLoad_58 : decode cX4_makeLoad 58 = .ok (.areturn, 1) := by decide +kernel
theorem dX5_init_0 : decode cX5_init 0 = .ok (.aload_n 0, 1) := by decide +kernel
theorem dX5_init_1 : decode cX5_init 1 = .ok (.invokespecial 1, 3) := by decide +kernel
theorem dX5_init_4 : decode cX5_init 4 = .ok (.aload_n 0, 1) := by decide +kernel
theorem dX5_init_5 : decode cX5_init 5 = .ok (.bipush 80, 2) := by decide +kernel
theorem dX5_init_7 : decode cX5_init 7 = .ok (.newarray .int, 2) := by decide +kernel
theorem dX5_init_9 : decode cX5_init 9 = .ok (.putfield 7, 3) := by decide +kernel
theorem dX5_init_12 : decode cX5_init 12 = .ok (.aload_n 0, 1) := by decide +kernel
theorem dX5_init_13 : decode cX5_init 13 = .ok (.bipush 80, 2) := by decide +kernel
theorem dX5_init_15 : decode cX5_init 15 = .ok (.newarray .int, 2) := by decide +kernel
theorem dX5_init_17 : decode cX5_init 17 = .ok (.putfield 13, 3) := by decide +kernel
theorem dX5_init_20 : decode cX5_init 20 = .ok (.aload_n 0, 1) := by decide +kernel
theorem dX5_init_21 : decode cX5_init 21 = .ok (.bipush 80, 2) := by decide +kernel
theorem dX5_init_23 : decode cX5_init 23 = .ok (.newarray .int, 2) := by decide +kernel
theorem dX5_init_25 : decode cX5_init 25 = .ok (.putfield 16, 3) := by decide +kernel
theorem dX5_init_28 : decode cX5_init 28 = .ok (.aload_n 0, 1) := by decide +kernel
theorem dX5_init_29 : decode cX5_init 29 = .ok (.sipush 480, 3) := by decide +kernel
theorem dX5_init_32 : decode cX5_init 32 = .ok (.newarray .long, 2) := by decide +kernel
theorem dX5_init_34 : decode cX5_init 34 = .ok (.putfield 19, 3) := by decide +kernel
theorem dX5_init_37 : decode cX5_init 37 = .ok (.aload_n 0, 1) := by decide +kernel
theorem dX5_init_38 : decode cX5_init 38 = .ok (.sipush 480, 3) := by decide +kernel
theorem dX5_init_41 : decode cX5_init 41 = .ok (.newarray .int, 2) := by decide +kernel
theorem dX5_init_43 : decode cX5_init 43 = .ok (.putfield 23, 3) := by decide +kernel
theorem dX5_init_46 : decode cX5_init 46 = .ok (.aload_n 0, 1) := by decide +kernel
theorem dX5_init_47 : decode cX5_init 47 = .ok (.bipush 12, 2) := by decide +kernel
theorem dX5_init_49 : decode cX5_init 49 = .ok (.newarray .int, 2) := by decide +kernel
theorem dX5_init_51 : decode cX5_init 51 = .ok (.putfield 26, 3) := by decide +kernel
theorem dX5_init_54 : decode cX5_init 54 = .ok (.aload_n 0, 1) := by decide +kernel
theorem dX5_init_55 : decode cX5_init 55 = .ok (.bipush 6, 2) := by decide +kernel
theorem dX5_init_57 : decode cX5_init 57 = .ok (.newarray .int, 2) := by decide +kernel
theorem dX5_init_59 : decode cX5_init 59 = .ok (.putfield 29, 3) := by decide +kernel
theorem dX5_init_62 : decode cX5_init 62 = .ok (.aload_n 0, 1) := by decide +kernel
theorem dX5_init_63 : decode cX5_init 63 = .ok (.bipush 6, 2) := by decide +kernel
theorem dX5_init_65 : decode cX5_init 65 = .ok (.newarray .long, 2) := by decide +kernel
theorem dX5_init_67 : decode cX5_init 67 = .ok (.putfield 32, 3) := by decide +kernel

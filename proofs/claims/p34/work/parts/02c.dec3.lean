theorem dX3_dropOldest_67 : decode cX3_dropOldest 67 = .ok (.isub, 1) := by decide +kernel
theorem dX3_dropOldest_68 : decode cX3_dropOldest 68 = .ok (.putfield 178, 3) := by decide +kernel
theorem dX3_dropOldest_71 : decode cX3_dropOldest 71 = .ok (.return_, 1) := by decide +kernel
theorem dX3_copyState_0 : decode cX3_copyState 0 = .ok (.aload_n 0, 1) := by decide +kernel
theorem dX3_copyState_1 : decode cX3_copyState 1 = .ok (.ifnull 12, 3) := by decide +kernel
theorem dX3_copyState_4 : decode cX3_copyState 4 = .ok (.aload_n 1, 1) := by decide +kernel
theorem dX3_copyState_5 : decode cX3_copyState 5 = .ok (.ifnull 8, 3) := by decide +kernel
theorem dX3_copyState_8 : decode cX3_copyState 8 = .ok (.aload_n 1, 1) := by decide +kernel
theorem dX3_copyState_9 : decode cX3_copyState 9 = .ok (.aload_n 0, 1) := by decide +kernel
theorem dX3_copyState_10 : decode cX3_copyState 10 = .ok (.invokevirtual 298, 3) := by decide +kernel
theorem dX3_copyState_13 : decode cX3_copyState 13 = .ok (.return_, 1) := by decide +kernel
theorem dX3_readBuffer_0 : decode cX3_readBuffer 0 = .ok (.aload_n 0, 1) := by decide +kernel
theorem dX3_readBuffer_1 : decode cX3_readBuffer 1 = .ok (.getfield 26, 3) := by decide +kernel
theorem dX3_readBuffer_4 : decode cX3_readBuffer 4 = .ok (.invokevirtual 302, 3) := by decide +kernel
theorem dX3_readBuffer_7 : decode cX3_readBuffer 7 = .ok (.iconst 0, 1) := by decide +kernel
theorem dX3_readBuffer_8 : decode cX3_readBuffer 8 = .ok (.istore_n 1, 1) := by decide +kernel
theorem dX3_readBuffer_9 : decode cX3_readBuffer 9 = .ok (.iload_n 1, 1) := by decide +kernel
theorem dX3_readBuffer_10 : decode cX3_readBuffer 10 = .ok (.aload_n 0, 1) := by decide +kernel
theorem dX3_readBuffer_11 : decode cX3_readBuffer 11 = .ok (.getfield 155, 3) := by decide +kernel
theorem dX3_readBuffer_14 : decode cX3_readBuffer 14 = .ok (.if_icmp .ge 36, 3) := by decide +kernel
theorem dX3_readBuffer_17 : decode cX3_readBuffer 17 = .ok (.iload_n 1, 1) := by decide +kernel
theorem dX3_readBuffer_18 : decode cX3_readBuffer 18 = .ok (.aload_n 0, 1) := by decide +kernel
theorem dX3_readBuffer_19 : decode cX3_readBuffer 19 = .ok (.getfield 30, 3) := by decide +kernel
theorem dX3_readBuffer_22 : decode cX3_readBuffer 22 = .ok (.arraylength, 1) := by decide +kernel
theorem dX3_readBuffer_23 : decode cX3_readBuffer 23 = .ok (.if_icmp .ge 27, 3) := by decide +kernel
theorem dX3_readBuffer_26 : decode cX3_readBuffer 26 = .ok (.aload_n 0, 1) := by decide +kernel
theorem dX3_readBuffer_27 : decode cX3_readBuffer 27 = .ok (.getfield 26, 3) := by decide +kernel
theorem dX3_readBuffer_30 : decode cX3_readBuffer 30 = .ok (.aload_n 0, 1) := by decide +kernel
theorem dX3_readBuffer_31 : decode cX3_readBuffer 31 = .ok (.getfield 30, 3) := by decide +kernel
theorem dX3_readBuffer_34 : decode cX3_readBuffer 34 = .ok (.iload_n 1, 1) := by decide +kernel
theorem dX3_readBuffer_35 : decode cX3_readBuffer 35 = .ok (.iaload, 1) := by decide +kernel
theorem dX3_readBuffer_36 : decode cX3_readBuffer 36 = .ok (.invokevirtual 305, 3) := by decide +kernel
theorem dX3_readBuffer_39 : decode cX3_readBuffer 39 = .ok (.ifCond .ne 5, 3) := by decide +kernel
theorem dX3_readBuffer_42 : decode cX3_readBuffer 42 = .ok (.iload_n 1, 1) := by decide +kernel
theorem dX3_readBuffer_43 : decode cX3_readBuffer 43 = .ok (.ireturn, 1) := by decide +kernel
theorem dX3_readBuffer_44 : decode cX3_readBuffer 44 = .ok (.iinc 1 1, 3) := by decide +kernel
theorem dX3_readBuffer_47 : decode cX3_readBuffer 47 = .ok (.goto (-38), 3) := by decide +kernel
theorem dX3_readBuffer_50 : decode cX3_readBuffer 50 = .ok (.aload_n 0, 1) := by decide +kernel
theorem dX3_readBuffer_51 : decode cX3_readBuffer 51 = .ok (.getfield 155, 3) := by decide +kernel
theorem dX3_readBuffer_54 : decode cX3_readBuffer 54 = .ok (.ireturn, 1) := by decide +kernel
theorem dX3_makeShowings_0 : decode cX3_makeShowings 0 = .ok (.aload_n 0, 1) := by decide +kernel
theorem dX3_makeShowings_1 : decode cX3_makeShowings 1 = .ok (.getfield 10, 3) := by decide +kernel
theorem dX3_makeShowings_4 : decode cX3_makeShowings 4 = .ok (.iconst (-1), 1) := by decide +kernel
theorem dX3_makeShowings_5 : decode cX3_makeShowings 5 = .ok (.iconst (-1), 1) := by decide +kernel
theorem dX3_makeShowings_6 : decode cX3_makeShowings 6 = .ok (.iconst (-1), 1) := by decide +kernel
theorem dX3_makeShowings_7 : decode cX3_makeShowings 7 = .ok (.invokevirtual 309, 3) := by decide +kernel
theorem dX3_makeShowings_10 : decode cX3_makeShowings 10 = .ok (.aload_n 0, 1) := by decide +kernel
theorem dX3_makeShowings_11 : decode cX3_makeShowings 11 = .ok (.getfield 26, 3) := by decide +kernel
theorem dX3_makeShowings_14 : decode cX3_makeShowings 14 = .ok (.invokevirtual 302, 3) := by decide +kernel
theorem dX3_makeShowings_17 : decode cX3_makeShowings 17 = .ok (.iconst 0, 1) := by decide +kernel
theorem dX3_makeShowings_18 : decode cX3_makeShowings 18 = .ok (.istore_n 1, 1) := by decide +kernel
theorem dX3_makeShowings_19 : decode cX3_makeShowings 19 = .ok (.iconst 0, 1) := by decide +kernel
theorem dX3_makeShowings_20 : decode cX3_makeShowings 20 = .ok (.istore_n 2, 1) := by decide +kernel
theorem dX3_makeShowings_21 : decode cX3_makeShowings 21 = .ok (.iload_n 2, 1) := by decide +kernel
theorem dX3_makeShowings_22 : decode cX3_makeShowings 22 = .ok (.aload_n 0, 1) := by decide +kernel
theorem dX3_makeShowings_23 : decode cX3_makeShowings 23 = .ok (.getfield 155, 3) := by decide +kernel
theorem dX3_makeShowings_26 : decode cX3_makeShowings 26 = .ok (.if_icmp .gt 87, 3) := by decide +kernel
theorem dX3_makeShowings_29 : decode cX3_makeShowings 29 = .ok (.iload_n 2, 1) := by decide +kernel
theorem dX3_makeShowings_30 : decode cX3_makeShowings 30 = .ok (.aload_n 0, 1) := by decide +kernel
theorem dX3_makeShowings_31 : decode cX3_makeShowings 31 = .ok (.getfield 30, 3) := by decide +kernel
theorem dX3_makeShowings_34 : decode cX3_makeShowings 34 = .ok (.arraylength, 1) := by decide +kernel
theorem dX3_makeShowings_35 : decode cX3_makeShowings 35 = .ok (.if_icmp .gt 78, 3) := by decide +kernel
theorem dX3_makeShowings_38 : decode cX3_makeShowings 38 = .ok (.iload_n 2, 1) := by decide +kernel
theorem dX3_makeShowings_39 : decode cX3_makeShowings 39 = .ok (.aload_n 0, 1) := by decide +kernel
theorem dX3_makeShowings_40 : decode cX3_makeShowings 40 = .ok (.getfield 155, 3) := by decide +kernel
theorem dX3_makeShowings_43 : decode cX3_makeShowings 43 = .ok (.if_icmp .ge 12, 3) := by decide +kernel
theorem dX3_makeShowings_46 : decode cX3_makeShowings 46 = .ok (.iload_n 2, 1) := by decide +kernel
theorem dX3_makeShowings_47 : decode cX3_makeShowings 47 = .ok (.aload_n 0, 1) := by decide +kernel
theorem dX3_makeShowings_48 : decode cX3_makeShowings 48 = .ok (.getfield 30, 3) := by decide +kernel
theorem dX3_makeShowings_51 : decode cX3_makeShowings 51 = .ok (.arraylength, 1) := by decide +kernel
theorem dX3_makeShowings_52 : decode cX3_makeShowings 52 = .ok (.if_icmp .lt 7, 3) := by decide +kernel
theorem dX3_makeShowings_55 : decode cX3_makeShowings 55 = .ok (.iconst 1, 1) := by decide +kernel
theorem dX3_makeShowings_56 : decode cX3_makeShowings 56 = .ok (.goto 4, 3) := by decide +kernel
theorem dX3_makeShowings_59 : decode cX3_makeShowings 59 = .ok (.iconst 0, 1) := by decide +kernel
theorem dX3_makeShowings_60 : decode cX3_makeShowings 60 = .ok (.istore_n 3, 1) := by decide +kernel
theorem dX3_makeShowings_61 : decode cX3_makeShowings 61 = .ok (.iload_n 3, 1) := by decide +kernel
theorem dX3_makeShowings_62 : decode cX3_makeShowings 62 = .ok (.ifCond .ne 14, 3) := by decide +kernel
theorem dX3_makeShowings_65 : decode cX3_makeShowings 65 = .ok (.aload_n 0, 1) := by decide +kernel
theorem dX3_makeShowings_66 : decode cX3_makeShowings 66 = .ok (.getfield 30, 3) := by decide +kernel
theorem dX3_makeShowings_69 : decode cX3_makeShowings 69 = .ok (.iload_n 2, 1) := by decide +kernel
theorem dX3_makeShowings_70 : decode cX3_makeShowings 70 = .ok (.iaload, 1) := by decide +kernel
theorem dX3_makeShowings_71 : decode cX3_makeShowings 71 = .ok (.bipush 59, 2) := by decide +kernel
theorem dX3_makeShowings_73 : decode cX3_makeShowings 73 = .ok (.if_icmp .ne 16, 3) := by decide +kernel
theorem dX3_makeShowings_76 : decode cX3_makeShowings 76 = .ok (.aload_n 0, 1) := by decide +kernel
theorem dX3_makeShowings_77 : decode cX3_makeShowings 77 = .ok (.iload_n 1, 1) := by decide +kernel
theorem dX3_makeShowings_78 : decode cX3_makeShowings 78 = .ok (.invokevirtual 313, 3) := by decide +kernel
theorem dX3_makeShowings_81 : decode cX3_makeShowings 81 = .ok (.ifCond .ne 5, 3) := by decide +kernel
theorem dX3_makeShowings_84 : decode cX3_makeShowings 84 = .ok (.iload_n 1, 1) := by decide +kernel
theorem dX3_makeShowings_85 : decode cX3_makeShowings 85 = .ok (.ireturn, 1) := by decide +kernel
theorem dX3_makeShowings_86 : decode cX3_makeShowings 86 = .ok (.iinc 1 1, 3) := by decide +kernel
theorem dX3_makeShowings_89 : decode cX3_makeShowings 89 = .ok (.iload_n 3, 1) := by decide +kernel
theorem dX3_makeShowings_90 : decode cX3_makeShowings 90 = .ok (.ifCond .ne 17, 3) := by decide +kernel
theorem dX3_makeShowings_93 : decode cX3_makeShowings 93 = .ok (.aload_n 0, 1) := by decide +kernel
theorem dX3_makeShowings_94 : decode cX3_makeShowings 94 = .ok (.getfield 26, 3) := by decide +kernel
theorem dX3_makeShowings_97 : decode cX3_makeShowings 97 = .ok (.aload_n 0, 1) := by decide +kernel
theorem dX3_makeShowings_98 : decode cX3_makeShowings 98 = .ok (.getfield 30, 3) := by decide +kernel
theorem dX3_makeShowings_101 : decode cX3_makeShowings 101 = .ok (.iload_n 2, 1) := by decide +kernel
theorem dX3_makeShowings_102 : decode cX3_makeShowings 102 = .ok (.iaload, 1) := by decide +kernel
theorem dX3_makeShowings_103 : decode cX3_makeShowings 103 = .ok (.invokevirtual 305, 3) := by decide +kernel
theorem dX3_makeShowings_106 : decode cX3_makeShowings 106 = .ok (.pop, 1) := by decide +kernel
theorem dX3_makeShowings_107 : decode cX3_makeShowings 107 = .ok (.iinc 2 1, 3) := by decide +kernel
theorem dX3_makeShowings_110 : decode cX3_makeShowings 110 = .ok (.goto (-89), 3) := by decide +kernel
theorem dX3_makeShowings_113 : decode cX3_makeShowings 113 = .ok (.iload_n 1, 1) := by decide +kernel
theorem dX3_makeShowings_114 : decode cX3_makeShowings 114 = .ok (.ireturn, 1) := by decide +kernel
theorem dX3_makePart_0 : decode cX3_makePart 0 = .ok (.aload_n 0, 1) := by decide +kernel
theorem dX3_makePart_1 : decode cX3_makePart 1 = .ok (.getfield 26, 3) := by decide +kernel
theorem dX3_makePart_4 : decode cX3_makePart 4 = .ok (.getfield 316, 3) := by decide +kernel
theorem dX3_makePart_7 : decode cX3_makePart 7 = .ok (.aload_n 0, 1) := by decide +kernel
theorem dX3_makePart_8 : decode cX3_makePart 8 = .ok (.getfield 10, 3) := by decide +kernel
theorem dX3_makePart_11 : decode cX3_makePart 11 = .ok (.getfield 42, 3) := by decide +kernel
theorem dX3_makePart_14 : decode cX3_makePart 14 = .ok (.getfield 46, 3) := by decide +kernel
theorem dX3_makePart_17 : decode cX3_makePart 17 = .ok (.if_icmp .lt 15, 3) := by decide +kernel
theorem dX3_makePart_20 : decode cX3_makePart 20 = .ok (.aload_n 0, 1) := by decide +kernel
theorem dX3_makePart_21 : decode cX3_makePart 21 = .ok (.getfield 10, 3) := by decide +kernel
theorem dX3_makePart_24 : decode cX3_makePart 24 = .ok (.iload_n 1, 1) := by decide +kernel
theorem dX3_makePart_25 : decode cX3_makePart 25 = .ok (.iconst 5, 1) := by decide +kernel
theorem dX3_makePart_26 : decode cX3_makePart 26 = .ok (.iconst (-1), 1) := by decide +kernel
theorem dX3_makePart_27 : decode cX3_makePart 27 = .ok (.invokevirtual 309, 3) := by decide +kernel
theorem dX3_makePart_30 : decode cX3_makePart 30 = .ok (.iconst 0, 1) := by decide +kernel
theorem dX3_makePart_31 : decode cX3_makePart 31 = .ok (.ireturn, 1) := by decide +kernel
theorem dX3_makePart_32 : decode cX3_makePart 32 = .ok (.aload_n 0, 1) := by decide +kernel
theorem dX3_makePart_33 : decode cX3_makePart 33 = .ok (.getfield 10, 3) := by decide +kernel
theorem dX3_makePart_36 : decode cX3_makePart 36 = .ok (.aload_n 0, 1) := by decide +kernel
theorem dX3_makePart_37 : decode cX3_makePart 37 = .ok (.getfield 26, 3) := by decide +kernel
theorem dX3_makePart_40 : decode cX3_makePart 40 = .ok (.getfield 316, 3) := by decide +kernel
theorem dX3_makePart_43 : decode cX3_makePart 43 = .ok (.aload_n 0, 1) := by decide +kernel
theorem dX3_makePart_44 : decode cX3_makePart 44 = .ok (.getfield 26, 3) := by decide +kernel
theorem dX3_makePart_47 : decode cX3_makePart 47 = .ok (.getfield 319, 3) := by decide +kernel
theorem dX3_makePart_50 : decode cX3_makePart 50 = .ok (.aload_n 0, 1) := by decide +kernel
theorem dX3_makePart_51 : decode cX3_makePart 51 = .ok (.getfield 26, 3) := by decide +kernel
theorem dX3_makePart_54 : decode cX3_makePart 54 = .ok (.getfield 322, 3) := by decide +kernel
theorem dX3_makePart_57 : decode cX3_makePart 57 = .ok (.aload_n 0, 1) := by decide +kernel
theorem dX3_makePart_58 : decode cX3_makePart 58 = .ok (.getfield 26, 3) := by decide +kernel
theorem dX3_makePart_61 : decode cX3_makePart 61 = .ok (.getfield 325, 3) := by decide +kernel
theorem dX3_makePart_64 : decode cX3_makePart 64 = .ok (.invokevirtual 91, 3) := by decide +kernel
theorem dX3_makePart_67 : decode cX3_makePart 67 = .ok (.istore_n 2, 1) := by decide +kernel
theorem dX3_makePart_68 : decode cX3_makePart 68 = .ok (.iload_n 2, 1) := by decide +kernel
theorem dX3_makePart_69 : decode cX3_makePart 69 = .ok (.ifCond .eq 50, 3) := by decide +kernel
theorem dX3_makePart_72 : decode cX3_makePart 72 = .ok (.aload_n 0, 1) := by decide +kernel
theorem dX3_makePart_73 : decode cX3_makePart 73 = .ok (.getfield 10, 3) := by decide +kernel
theorem dX3_makePart_76 : decode cX3_makePart 76 = .ok (.iload_n 1, 1) := by decide +kernel
theorem dX3_makePart_77 : decode cX3_makePart 77 = .ok (.iload_n 2, 1) := by decide +kernel
theorem dX3_makePart_78 : decode cX3_makePart 78 = .ok (.aload_n 0, 1) := by decide +kernel
theorem dX3_makePart_79 : decode cX3_makePart 79 = .ok (.getfield 10, 3) := by decide +kernel
theorem dX3_makePart_82 : decode cX3_makePart 82 = .ok (.aload_n 0, 1) := by decide +kernel
theorem dX3_makePart_83 : decode cX3_makePart 83 = .ok (.getfield 26, 3) := by decide +kernel
theorem dX3_makePart_86 : decode cX3_makePart 86 = .ok (.getfield 316, 3) := by decide +kernel
theorem dX3_makePart_89 : decode cX3_makePart 89 = .ok (.aload_n 0, 1) := by decide +kernel
theorem dX3_makePart_90 : decode cX3_makePart 90 = .ok (.getfield 26, 3) := by decide +kernel
theorem dX3_makePart_93 : decode cX3_makePart 93 = .ok (.getfield 319, 3) := by decide +kernel
theorem dX3_makePart_96 : decode cX3_makePart 96 = .ok (.aload_n 0, 1) := by decide +kernel
theorem dX3_makePart_97 : decode cX3_makePart 97 = .ok (.getfield 26, 3) := by decide +kernel
theorem dX3_makePart_100 : decode cX3_makePart 100 = .ok (.getfield 322, 3) := by decide +kernel
theorem dX3_makePart_103 : decode cX3_makePart 103 = .ok (.aload_n 0, 1) := by decide +kernel
theorem dX3_makePart_104 : decode cX3_makePart 104 = .ok (.getfield 26, 3) := by decide +kernel
theorem dX3_makePart_107 : decode cX3_makePart 107 = .ok (.getfield 325, 3) := by decide +kernel
theorem dX3_makePart_110 : decode cX3_makePart 110 = .ok (.iload_n 2, 1) := by decide +kernel
theorem dX3_makePart_111 : decode cX3_makePart 111 = .ok (.invokevirtual 219, 3) := by decide +kernel
theorem dX3_makePart_114 : decode cX3_makePart 114 = .ok (.invokevirtual 309, 3) := by decide +kernel
theorem dX3_makePart_117 : decode cX3_makePart 117 = .ok (.iconst 0, 1) := by decide +kernel
theorem dX3_makePart_118 : decode cX3_makePart 118 = .ok (.ireturn, 1) := by decide +kernel
theorem dX3_makePart_119 : decode cX3_makePart 119 = .ok (.aload_n 0, 1) := by decide +kernel
theorem dX3_makePart_120 : decode cX3_makePart 120 = .ok (.getfield 10, 3) := by decide +kernel
theorem dX3_makePart_123 : decode cX3_makePart 123 = .ok (.aload_n 0, 1) := by decide +kernel
theorem dX3_makePart_124 : decode cX3_makePart 124 = .ok (.getfield 26, 3) := by decide +kernel
theorem dX3_makePart_127 : decode cX3_makePart 127 = .ok (.getfield 316, 3) := by decide +kernel
theorem dX3_makePart_130 : decode cX3_makePart 130 = .ok (.aload_n 0, 1) := by decide +kernel
theorem dX3_makePart_131 : decode cX3_makePart 131 = .ok (.getfield 26, 3) := by decide +kernel
theorem dX3_makePart_134 : decode cX3_makePart 134 = .ok (.getfield 319, 3) := by decide +kernel
theorem dX3_makePart_137 : decode cX3_makePart 137 = .ok (.aload_n 0, 1) := by decide +kernel
theorem dX3_makePart_138 : decode cX3_makePart 138 = .ok (.getfield 26, 3) := by decide +kernel
theorem dX3_makePart_141 : decode cX3_makePart 141 = .ok (.getfield 322, 3) := by decide +kernel
theorem dX3_makePart_144 : decode cX3_makePart 144 = .ok (.aload_n 0, 1) := by decide +kernel
theorem dX3_makePart_145 : decode cX3_makePart 145 = .ok (.getfield 26, 3) := by decide +kernel
theorem dX3_makePart_148 : decode cX3_makePart 148 = .ok (.getfield 325, 3) := by decide +kernel
theorem dX3_makePart_151 : decode cX3_makePart 151 = .ok (.invokevirtual 98, 3) := by decide +kernel
theorem dX3_makePart_154 : decode cX3_makePart 154 = .ok (.pop, 1) := by decide +kernel
theorem dX3_makePart_155 : decode cX3_makePart 155 = .ok (.iconst 1, 1) := by decide +kernel
theorem dX3_makePart_156 : decode cX3_makePart 156 = .ok (.ireturn, 1) := by decide +kernel
theorem dJ6_bitCount_0f7a4_0 : decode cJ6_bitCount_0f7a4 0 = .ok (.iload_n 0, 1) := by decide +kernel
theorem dJ6_bitCount_0f7a4_1 : decode cJ6_bitCount_0f7a4 1 = .ok (.iload_n 0, 1) := by decide +kernel
theorem dJ6_bitCount_0f7a4_2 : decode cJ6_bitCount_0f7a4 2 = .ok (.iconst 1, 1) := by decide +kernel
theorem dJ6_bitCount_0f7a4_3 : decode cJ6_bitCount_0f7a4 3 = .ok (.iushr, 1) := by decide +kernel
theorem dJ6_bitCount_0f7a4_4 : decode cJ6_bitCount_0f7a4 4 = .ok (.ldc_w 265, 3) := by decide +kernel
theorem dJ6_bitCount_0f7a4_7 : decode cJ6_bitCount_0f7a4 7 = .ok (.iand, 1) := by decide +kernel
theorem dJ6_bitCount_0f7a4_8 : decode cJ6_bitCount_0f7a4 8 = .ok (.isub, 1) := by decide +kernel
theorem dJ6_bitCount_0f7a4_9 : decode cJ6_bitCount_0f7a4 9 = .ok (.istore_n 0, 1) := by decide +kernel
theorem dJ6_bitCount_0f7a4_10 : decode cJ6_bitCount_0f7a4 10 = .ok (.iload_n 0, 1) := by decide +kernel
theorem dJ6_bitCount_0f7a4_11 : decode cJ6_bitCount_0f7a4 11 = .ok (.ldc_w 266, 3) := by decide +kernel
theorem dJ6_bitCount_0f7a4_14 : decode cJ6_bitCount_0f7a4 14 = .ok (.iand, 1) := by decide +kernel
theorem dJ6_bitCount_0f7a4_15 : decode cJ6_bitCount_0f7a4 15 = .ok (.iload_n 0, 1) := by decide +kernel
theorem dJ6_bitCount_0f7a4_16 : decode cJ6_bitCount_0f7a4 16 = .ok (.iconst 2, 1) := by decide +kernel
theorem dJ6_bitCount_0f7a4_17 : decode cJ6_bitCount_0f7a4 17 = .ok (.iushr, 1) := by decide +kernel
theorem dJ6_bitCount_0f7a4_18 : decode cJ6_bitCount_0f7a4 18 = .ok (.ldc_w 266, 3) := by decide +kernel
theorem dJ6_bitCount_0f7a4_21 : decode cJ6_bitCount_0f7a4 21 = .ok (.iand, 1) := by decide +kernel
theorem dJ6_bitCount_0f7a4_22 : decode cJ6_bitCount_0f7a4 22 = .ok (.iadd, 1) := by decide +kernel
theorem dJ6_bitCount_0f7a4_23 : decode cJ6_bitCount_0f7a4 23 = .ok (.istore_n 0, 1) := by decide +kernel
theorem dJ6_bitCount_0f7a4_24 : decode cJ6_bitCount_0f7a4 24 = .ok (.iload_n 0, 1) := by decide +kernel
theorem dJ6_bitCount_0f7a4_25 : decode cJ6_bitCount_0f7a4 25 = .ok (.iload_n 0, 1) := by decide +kernel
theorem dJ6_bitCount_0f7a4_26 : decode cJ6_bitCount_0f7a4 26 = .ok (.iconst 4, 1) := by decide +kernel
theorem dJ6_bitCount_0f7a4_27 : decode cJ6_bitCount_0f7a4 27 = .ok (.iushr, 1) := by decide +kernel
theorem dJ6_bitCount_0f7a4_28 : decode cJ6_bitCount_0f7a4 28 = .ok (.iadd, 1) := by decide +kernel
theorem dJ6_bitCount_0f7a4_29 : decode cJ6_bitCount_0f7a4 29 = .ok (.ldc_w 267, 3) := by decide +kernel
theorem dJ6_bitCount_0f7a4_32 : decode cJ6_bitCount_0f7a4 32 = .ok (.iand, 1) := by decide +kernel
theorem dJ6_bitCount_0f7a4_33 : decode cJ6_bitCount_0f7a4 33 = .ok (.istore_n 0, 1) := by decide +kernel
theorem dJ6_bitCount_0f7a4_34 : decode cJ6_bitCount_0f7a4 34 = .ok (.iload_n 0, 1) := by decide +kernel
theorem dJ6_bitCount_0f7a4_35 : decode cJ6_bitCount_0f7a4 35 = .ok (.iload_n 0, 1) := by decide +kernel
theorem dJ6_bitCount_0f7a4_36 : decode cJ6_bitCount_0f7a4 36 = .ok (.bipush 8, 2) := by decide +kernel
theorem dJ6_bitCount_0f7a4_38 : decode cJ6_bitCount_0f7a4 38 = .ok (.iushr, 1) := by decide +kernel
theorem dJ6_bitCount_0f7a4_39 : decode cJ6_bitCount_0f7a4 39 = .ok (.iadd, 1) := by decide +kernel
theorem dJ6_bitCount_0f7a4_40 : decode cJ6_bitCount_0f7a4 40 = .ok (.istore_n 0, 1) := by decide +kernel
theorem dJ6_bitCount_0f7a4_41 : decode cJ6_bitCount_0f7a4 41 = .ok (.iload_n 0, 1) := by decide +kernel
theorem dJ6_bitCount_0f7a4_42 : decode cJ6_bitCount_0f7a4 42 = .ok (.iload_n 0, 1) := by decide +kernel
theorem dJ6_bitCount_0f7a4_43 : decode cJ6_bitCount_0f7a4 43 = .ok (.bipush 16, 2) := by decide +kernel
theorem dJ6_bitCount_0f7a4_45 : decode cJ6_bitCount_0f7a4 45 = .ok (.iushr, 1) := by decide +kernel
theorem dJ6_bitCount_0f7a4_46 : decode cJ6_bitCount_0f7a4 46 = .ok (.iadd, 1) := by decide +kernel
theorem dJ6_bitCount_0f7a4_47 : decode cJ6_bitCount_0f7a4 47 = .ok (.istore_n 0, 1) := by decide +kernel
theorem dJ6_bitCount_0f7a4_48 : decode cJ6_bitCount_0f7a4 48 = .ok (.iload_n 0, 1) := by decide +kernel
theorem dJ6_bitCount_0f7a4_49 : decode cJ6_bitCount_0f7a4 49 = .ok (.bipush 63, 2) := by decide +kernel
theorem dJ6_bitCount_0f7a4_51 : decode cJ6_bitCount_0f7a4 51 = .ok (.iand, 1) := by decide +kernel
theorem dJ6_bitCount_0f7a4_52 : decode cJ6_bitCount_0f7a4 52 = .ok (.ireturn, 1) := by decide +kernel
theorem dJ9_max_7cf53_0 : decode cJ9_max_7cf53 0 = .ok (.iload_n 0, 1) := by decide +kernel
theorem dJ9_max_7cf53_1 : decode cJ9_max_7cf53 1 = .ok (.iload_n 1, 1) := by decide +kernel
theorem dJ9_max_7cf53_2 : decode cJ9_max_7cf53 2 = .ok (.if_icmp .lt 7, 3) := by decide +kernel
theorem dJ9_max_7cf53_5 : decode cJ9_max_7cf53 5 = .ok (.iload_n 0, 1) := by decide +kernel
theorem dJ9_max_7cf53_6 : decode cJ9_max_7cf53 6 = .ok (.goto 4, 3) := by decide +kernel
theorem dJ9_max_7cf53_9 : decode cJ9_max_7cf53 9 = .ok (.iload_n 1, 1) := by decide +kernel
theorem dJ9_max_7cf53_10 : decode cJ9_max_7cf53 10 = .ok (.ireturn, 1) := by decide +kernel
theorem dL_part_0 : decode cL_part 0 = .ok (.iload_n 0, 1) := by decide +kernel
theorem dL_part_1 : decode cL_part 1 = .ok (.ldc 7, 2) := by decide +kernel
theorem dL_part_3 : decode cL_part 3 = .ok (.iand, 1) := by decide +kernel
theorem dL_part_4 : decode cL_part 4 = .ok (.iload_n 1, 1) := by decide +kernel
theorem dL_part_5 : decode cL_part 5 = .ok (.irem, 1) := by decide +kernel
theorem dL_part_6 : decode cL_part 6 = .ok (.ireturn, 1) := by decide +kernel
theorem dL_drawn_0 : decode cL_drawn 0 = .ok (.aload_n 0, 1) := by decide +kernel
theorem dL_drawn_1 : decode cL_drawn 1 = .ok (.arraylength, 1) := by decide +kernel
theorem dL_drawn_2 : decode cL_drawn 2 = .ok (.ifCond .ne 13, 3) := by decide +kernel
theorem dL_drawn_5 : decode cL_drawn 5 = .ok (.sipush 7919, 3) := by decide +kernel
theorem dL_drawn_8 : decode cL_drawn 8 = .ok (.iload_n 1, 1) := by decide +kernel
theorem dL_drawn_9 : decode cL_drawn 9 = .ok (.imul, 1) := by decide +kernel
theorem dL_drawn_10 : decode cL_drawn 10 = .ok (.iconst 3, 1) := by decide +kernel
theorem dL_drawn_11 : decode cL_drawn 11 = .ok (.iadd, 1) := by decide +kernel
theorem dL_drawn_12 : decode cL_drawn 12 = .ok (.goto 27, 3) := by decide +kernel
theorem dL_drawn_15 : decode cL_drawn 15 = .ok (.aload_n 0, 1) := by decide +kernel
theorem dL_drawn_16 : decode cL_drawn 16 = .ok (.iload_n 1, 1) := by decide +kernel
theorem dL_drawn_17 : decode cL_drawn 17 = .ok (.aload_n 0, 1) := by decide +kernel
theorem dL_drawn_18 : decode cL_drawn 18 = .ok (.arraylength, 1) := by decide +kernel
theorem dL_drawn_19 : decode cL_drawn 19 = .ok (.irem, 1) := by decide +kernel
theorem dL_drawn_20 : decode cL_drawn 20 = .ok (.iaload, 1) := by decide +kernel
theorem dL_drawn_21 : decode cL_drawn 21 = .ok (.iload_n 1, 1) := by decide +kernel
theorem dL_drawn_22 : decode cL_drawn 22 = .ok (.bipush 7, 2) := by decide +kernel
theorem dL_drawn_24 : decode cL_drawn 24 = .ok (.irem, 1) := by decide +kernel
theorem dL_drawn_25 : decode cL_drawn 25 = .ok (.ishr, 1) := by decide +kernel
theorem dL_drawn_26 : decode cL_drawn 26 = .ok (.iload_n 1, 1) := by decide +kernel
theorem dL_drawn_27 : decode cL_drawn 27 = .ok (.aload_n 0, 1) := by decide +kernel
theorem dL_drawn_28 : decode cL_drawn 28 = .ok (.arraylength, 1) := by decide +kernel
theorem dL_drawn_29 : decode cL_drawn 29 = .ok (.idiv, 1) := by decide +kernel
theorem dL_drawn_30 : decode cL_drawn 30 = .ok (.bipush 31, 2) := by decide +kernel
theorem dL_drawn_32 : decode cL_drawn 32 = .ok (.imul, 1) := by decide +kernel
theorem dL_drawn_33 : decode cL_drawn 33 = .ok (.ixor, 1) := by decide +kernel
theorem dL_drawn_34 : decode cL_drawn 34 = .ok (.iload_n 1, 1) := by decide +kernel
theorem dL_drawn_35 : decode cL_drawn 35 = .ok (.ldc 8, 2) := by decide +kernel
theorem dL_drawn_37 : decode cL_drawn 37 = .ok (.imul, 1) := by decide +kernel
theorem dL_drawn_38 : decode cL_drawn 38 = .ok (.ixor, 1) := by decide +kernel
theorem dL_drawn_39 : decode cL_drawn 39 = .ok (.ireturn, 1) := by decide +kernel
theorem dL_call_0 : decode cL_call 0 = .ok (.lload 5, 2) := by decide +kernel
theorem dL_call_2 : decode cL_call 2 = .ok (.ldc2_w 9, 3) := by decide +kernel
theorem dL_call_5 : decode cL_call 5 = .ok (.ldiv, 1) := by decide +kernel
theorem dL_call_6 : decode cL_call 6 = .ok (.ldc2_w 9, 3) := by decide +kernel
theorem dL_call_9 : decode cL_call 9 = .ok (.lrem, 1) := by decide +kernel
theorem dL_call_10 : decode cL_call 10 = .ok (.l2i, 1) := by decide +kernel
theorem dL_call_11 : decode cL_call 11 = .ok (.istore 7, 2) := by decide +kernel
theorem dL_call_13 : decode cL_call 13 = .ok (.lload 5, 2) := by decide +kernel
theorem dL_call_15 : decode cL_call 15 = .ok (.ldc2_w 9, 3) := by decide +kernel
theorem dL_call_18 : decode cL_call 18 = .ok (.lrem, 1) := by decide +kernel
theorem dL_call_19 : decode cL_call 19 = .ok (.l2i, 1) := by decide +kernel
theorem dL_call_20 : decode cL_call 20 = .ok (.sipush 500, 3) := by decide +kernel
theorem dL_call_23 : decode cL_call 23 = .ok (.isub, 1) := by decide +kernel
theorem dL_call_24 : decode cL_call 24 = .ok (.istore 8, 2) := by decide +kernel
theorem dL_call_26 : decode cL_call 26 = .ok (.iload_n 1, 1) := by decide +kernel
theorem dL_call_27 : decode cL_call 27 = .ok (.ifCond .ne 12, 3) := by decide +kernel
theorem dL_call_30 : decode cL_call 30 = .ok (.aload_n 0, 1) := by decide +kernel
theorem dL_call_31 : decode cL_call 31 = .ok (.iload_n 2, 1) := by decide +kernel
theorem dL_call_32 : decode cL_call 32 = .ok (.iload_n 3, 1) := by decide +kernel
theorem dL_call_33 : decode cL_call 33 = .ok (.invokevirtual 11, 3) := by decide +kernel
theorem dL_call_36 : decode cL_call 36 = .ok (.goto 387, 3) := by decide +kernel
theorem dL_call_39 : decode cL_call 39 = .ok (.iload_n 1, 1) := by decide +kernel
theorem dL_call_40 : decode cL_call 40 = .ok (.iconst 1, 1) := by decide +kernel
theorem dL_call_41 : decode cL_call 41 = .ok (.if_icmp .ne 12, 3) := by decide +kernel
theorem dL_call_44 : decode cL_call 44 = .ok (.aload_n 0, 1) := by decide +kernel
theorem dL_call_45 : decode cL_call 45 = .ok (.iload_n 2, 1) := by decide +kernel
theorem dL_call_46 : decode cL_call 46 = .ok (.iload_n 3, 1) := by decide +kernel
theorem dL_call_47 : decode cL_call 47 = .ok (.invokevirtual 17, 3) := by decide +kernel
theorem dL_call_50 : decode cL_call 50 = .ok (.goto 373, 3) := by decide +kernel
theorem dL_call_53 : decode cL_call 53 = .ok (.iload_n 1, 1) := by decide +kernel
theorem dL_call_54 : decode cL_call 54 = .ok (.iconst 2, 1) := by decide +kernel
theorem dL_call_55 : decode cL_call 55 = .ok (.if_icmp .ne 12, 3) := by decide +kernel
theorem dL_call_58 : decode cL_call 58 = .ok (.aload_n 0, 1) := by decide +kernel
theorem dL_call_59 : decode cL_call 59 = .ok (.iload_n 2, 1) := by decide +kernel
theorem dL_call_60 : decode cL_call 60 = .ok (.iload_n 3, 1) := by decide +kernel
theorem dL_call_61 : decode cL_call 61 = .ok (.invokevirtual 20, 3) := by decide +kernel
theorem dL_call_64 : decode cL_call 64 = .ok (.goto 359, 3) := by decide +kernel
theorem dL_call_67 : decode cL_call 67 = .ok (.iload_n 1, 1) := by decide +kernel
theorem dL_call_68 : decode cL_call 68 = .ok (.iconst 3, 1) := by decide +kernel
theorem dL_call_69 : decode cL_call 69 = .ok (.if_icmp .ne 16, 3) := by decide +kernel
theorem dL_call_72 : decode cL_call 72 = .ok (.aload_n 0, 1) := by decide +kernel
theorem dL_call_73 : decode cL_call 73 = .ok (.iload_n 2, 1) := by decide +kernel
theorem dL_call_74 : decode cL_call 74 = .ok (.iload_n 3, 1) := by decide +kernel
theorem dL_call_75 : decode cL_call 75 = .ok (.iload 4, 2) := by decide +kernel
theorem dL_call_77 : decode cL_call 77 = .ok (.iload 8, 2) := by decide +kernel
theorem dL_call_79 : decode cL_call 79 = .ok (.invokevirtual 23, 3) := by decide +kernel
theorem dL_call_82 : decode cL_call 82 = .ok (.goto 341, 3) := by decide +kernel
theorem dL_call_85 : decode cL_call 85 = .ok (.iload_n 1, 1) := by decide +kernel
theorem dL_call_86 : decode cL_call 86 = .ok (.iconst 4, 1) := by decide +kernel
theorem dL_call_87 : decode cL_call 87 = .ok (.if_icmp .ne 11, 3) := by decide +kernel
theorem dL_call_90 : decode cL_call 90 = .ok (.aload_n 0, 1) := by decide +kernel
theorem dL_call_91 : decode cL_call 91 = .ok (.iload_n 2, 1) := by decide +kernel
theorem dL_call_92 : decode cL_call 92 = .ok (.invokevirtual 27, 3) := by decide +kernel
theorem dL_call_95 : decode cL_call 95 = .ok (.goto 328, 3) := by decide +kernel
theorem dL_call_98 : decode cL_call 98 = .ok (.iload_n 1, 1) := by decide +kernel
theorem dL_call_99 : decode cL_call 99 = .ok (.iconst 5, 1) := by decide +kernel
theorem dL_call_100 : decode cL_call 100 = .ok (.if_icmp .ne 12, 3) := by decide +kernel
theorem dL_call_103 : decode cL_call 103 = .ok (.aload_n 0, 1) := by decide +kernel
theorem dL_call_104 : decode cL_call 104 = .ok (.iload_n 2, 1) := by decide +kernel
theorem dL_call_105 : decode cL_call 105 = .ok (.iload_n 3, 1) := by decide +kernel
theorem dL_call_106 : decode cL_call 106 = .ok (.invokevirtual 31, 3) := by decide +kernel
theorem dL_call_109 : decode cL_call 109 = .ok (.goto 314, 3) := by decide +kernel
theorem dL_call_112 : decode cL_call 112 = .ok (.iload_n 1, 1) := by decide +kernel
theorem dL_call_113 : decode cL_call 113 = .ok (.bipush 6, 2) := by decide +kernel
theorem dL_call_115 : decode cL_call 115 = .ok (.if_icmp .ne 14, 3) := by decide +kernel
theorem dL_call_118 : decode cL_call 118 = .ok (.aload_n 0, 1) := by decide +kernel
theorem dL_call_119 : decode cL_call 119 = .ok (.iload_n 2, 1) := by decide +kernel
theorem dL_call_120 : decode cL_call 120 = .ok (.iload_n 3, 1) := by decide +kernel
theorem dL_call_121 : decode cL_call 121 = .ok (.iload 4, 2) := by decide +kernel
theorem dL_call_123 : decode cL_call 123 = .ok (.invokevirtual 34, 3) := by decide +kernel
theorem dL_call_126 : decode cL_call 126 = .ok (.goto 297, 3) := by decide +kernel
theorem dL_call_129 : decode cL_call 129 = .ok (.iload_n 1, 1) := by decide +kernel
theorem dL_call_130 : decode cL_call 130 = .ok (.bipush 7, 2) := by decide +kernel
theorem dL_call_132 : decode cL_call 132 = .ok (.if_icmp .ne 12, 3) := by decide +kernel
theorem dL_call_135 : decode cL_call 135 = .ok (.aload_n 0, 1) := by decide +kernel
theorem dL_call_136 : decode cL_call 136 = .ok (.iload_n 2, 1) := by decide +kernel
theorem dL_call_137 : decode cL_call 137 = .ok (.iload_n 3, 1) := by decide +kernel
theorem dL_call_138 : decode cL_call 138 = .ok (.invokevirtual 38, 3) := by decide +kernel
theorem dL_call_141 : decode cL_call 141 = .ok (.goto 282, 3) := by decide +kernel
theorem dL_call_144 : decode cL_call 144 = .ok (.iload_n 1, 1) := by decide +kernel
theorem dL_call_145 : decode cL_call 145 = .ok (.bipush 8, 2) := by decide +kernel
theorem dL_call_147 : decode cL_call 147 = .ok (.if_icmp .ne 14, 3) := by decide +kernel
theorem dL_call_150 : decode cL_call 150 = .ok (.aload_n 0, 1) := by decide +kernel
theorem dL_call_151 : decode cL_call 151 = .ok (.iload_n 2, 1) := by decide +kernel
theorem dL_call_152 : decode cL_call 152 = .ok (.iload_n 3, 1) := by decide +kernel
theorem dL_call_153 : decode cL_call 153 = .ok (.iload 4, 2) := by decide +kernel
theorem dL_call_155 : decode cL_call 155 = .ok (.invokevirtual 41, 3) := by decide +kernel
theorem dL_call_158 : decode cL_call 158 = .ok (.goto 265, 3) := by decide +kernel
theorem dL_call_161 : decode cL_call 161 = .ok (.iload_n 1, 1) := by decide +kernel
theorem dL_call_162 : decode cL_call 162 = .ok (.bipush 9, 2) := by decide +kernel
theorem dL_call_164 : decode cL_call 164 = .ok (.if_icmp .ne 11, 3) := by decide +kernel
theorem dL_call_167 : decode cL_call 167 = .ok (.aload_n 0, 1) := by decide +kernel
theorem dL_call_168 : decode cL_call 168 = .ok (.iload_n 2, 1) := by decide +kernel
theorem dL_call_169 : decode cL_call 169 = .ok (.invokevirtual 44, 3) := by decide +kernel
theorem dL_call_172 : decode cL_call 172 = .ok (.goto 251, 3) := by decide +kernel
theorem dL_call_175 : decode cL_call 175 = .ok (.iload_n 1, 1) := by decide +kernel
theorem dL_call_176 : decode cL_call 176 = .ok (.bipush 10, 2) := by decide +kernel
theorem dL_call_178 : decode cL_call 178 = .ok (.if_icmp .ne 10, 3) := by decide +kernel
theorem dL_call_181 : decode cL_call 181 = .ok (.aload_n 0, 1) := by decide +kernel
theorem dL_call_182 : decode cL_call 182 = .ok (.invokevirtual 47, 3) := by decide +kernel
theorem dL_call_185 : decode cL_call 185 = .ok (.goto 238, 3) := by decide +kernel
theorem dL_call_188 : decode cL_call 188 = .ok (.iload_n 1, 1) := by decide +kernel
theorem dL_call_189 : decode cL_call 189 = .ok (.bipush 11, 2) := by decide +kernel
theorem dL_call_191 : decode cL_call 191 = .ok (.if_icmp .ne 11, 3) := by decide +kernel
theorem dL_call_194 : decode cL_call 194 = .ok (.aload_n 0, 1) := by decide +kernel
theorem dL_call_195 : decode cL_call 195 = .ok (.iload_n 2, 1) := by decide +kernel
theorem dL_call_196 : decode cL_call 196 = .ok (.invokevirtual 51, 3) := by decide +kernel
theorem dL_call_199 : decode cL_call 199 = .ok (.goto 224, 3) := by decide +kernel
theorem dL_call_202 : decode cL_call 202 = .ok (.iload_n 1, 1) := by decide +kernel
theorem dL_call_203 : decode cL_call 203 = .ok (.bipush 12, 2) := by decide +kernel
theorem dL_call_205 : decode cL_call 205 = .ok (.if_icmp .ne 10, 3) := by decide +kernel
theorem dL_call_208 : decode cL_call 208 = .ok (.aload_n 0, 1) := by decide +kernel
theorem dL_call_209 : decode cL_call 209 = .ok (.invokevirtual 54, 3) := by decide +kernel
theorem dL_call_212 : decode cL_call 212 = .ok (.goto 211, 3) := by decide +kernel
theorem dL_call_215 : decode cL_call 215 = .ok (.iload_n 1, 1) := by decide +kernel
theorem dL_call_216 : decode cL_call 216 = .ok (.bipush 13, 2) := by decide +kernel
theorem dL_call_218 : decode cL_call 218 = .ok (.if_icmp .ne 10, 3) := by decide +kernel
theorem dL_call_221 : decode cL_call 221 = .ok (.aload_n 0, 1) := by decide +kernel
theorem dL_call_222 : decode cL_call 222 = .ok (.invokevirtual 57, 3) := by decide +kernel
theorem dL_call_225 : decode cL_call 225 = .ok (.goto 198, 3) := by decide +kernel
theorem dL_call_228 : decode cL_call 228 = .ok (.iload_n 1, 1) := by decide +kernel
theorem dL_call_229 : decode cL_call 229 = .ok (.bipush 14, 2) := by decide +kernel
theorem dL_call_231 : decode cL_call 231 = .ok (.if_icmp .ne 12, 3) := by decide +kernel
theorem dL_call_234 : decode cL_call 234 = .ok (.aload_n 0, 1) := by decide +kernel
theorem dL_call_235 : decode cL_call 235 = .ok (.iload_n 2, 1) := by decide +kernel
theorem dL_call_236 : decode cL_call 236 = .ok (.iload_n 3, 1) := by decide +kernel
theorem dL_call_237 : decode cL_call 237 = .ok (.invokevirtual 60, 3) := by decide +kernel
theorem dL_call_240 : decode cL_call 240 = .ok (.goto 183, 3) := by decide +kernel
theorem dL_call_243 : decode cL_call 243 = .ok (.iload_n 1, 1) := by decide +kernel
theorem dL_call_244 : decode cL_call 244 = .ok (.bipush 15, 2) := by decide +kernel
theorem dL_call_246 : decode cL_call 246 = .ok (.if_icmp .ne 12, 3) := by decide +kernel
theorem dL_call_249 : decode cL_call 249 = .ok (.aload_n 0, 1) := by decide +kernel
theorem dL_call_250 : decode cL_call 250 = .ok (.iload_n 2, 1) := by decide +kernel
theorem dL_call_251 : decode cL_call 251 = .ok (.iload_n 3, 1) := by decide +kernel
theorem dL_call_252 : decode cL_call 252 = .ok (.invokevirtual 63, 3) := by decide +kernel
theorem dL_call_255 : decode cL_call 255 = .ok (.goto 168, 3) := by decide +kernel
theorem dL_call_258 : decode cL_call 258 = .ok (.iload_n 1, 1) := by decide +kernel
theorem dL_call_259 : decode cL_call 259 = .ok (.bipush 16, 2) := by decide +kernel
theorem dL_call_261 : decode cL_call 261 = .ok (.if_icmp .ne 12, 3) := by decide +kernel
theorem dL_call_264 : decode cL_call 264 = .ok (.aload_n 0, 1) := by decide +kernel
theorem dL_call_265 : decode cL_call 265 = .ok (.iload_n 2, 1) := by decide +kernel
theorem dL_call_266 : decode cL_call 266 = .ok (.iload_n 3, 1) := by decide +kernel
theorem dL_call_267 : decode cL_call 267 = .ok (.invokevirtual 66, 3) := by decide +kernel
theorem dL_call_270 : decode cL_call 270 = .ok (.goto 153, 3) := by decide +kernel
theorem dL_call_273 : decode cL_call 273 = .ok (.iload_n 1, 1) := by decide +kernel
theorem dL_call_274 : decode cL_call 274 = .ok (.bipush 17, 2) := by decide +kernel
theorem dL_call_276 : decode cL_call 276 = .ok (.if_icmp .ne 12, 3) := by decide +kernel
theorem dL_call_279 : decode cL_call 279 = .ok (.aload_n 0, 1) := by decide +kernel
theorem dL_call_280 : decode cL_call 280 = .ok (.iload_n 2, 1) := by decide +kernel
theorem dL_call_281 : decode cL_call 281 = .ok (.iload_n 3, 1) := by decide +kernel
theorem dL_call_282 : decode cL_call 282 = .ok (.invokevirtual 69, 3) := by decide +kernel
theorem dL_call_285 : decode cL_call 285 = .ok (.goto 138, 3) := by decide +kernel
theorem dL_call_288 : decode cL_call 288 = .ok (.iload_n 1, 1) := by decide +kernel
theorem dL_call_289 : decode cL_call 289 = .ok (.bipush 18, 2) := by decide +kernel
theorem dL_call_291 : decode cL_call 291 = .ok (.if_icmp .ne 12, 3) := by decide +kernel
theorem dL_call_294 : decode cL_call 294 = .ok (.aload_n 0, 1) := by decide +kernel
theorem dL_call_295 : decode cL_call 295 = .ok (.iload_n 2, 1) := by decide +kernel
theorem dL_call_296 : decode cL_call 296 = .ok (.iload_n 3, 1) := by decide +kernel
theorem dL_call_297 : decode cL_call 297 = .ok (.invokevirtual 72, 3) := by decide +kernel
theorem dL_call_300 : decode cL_call 300 = .ok (.goto 123, 3) := by decide +kernel
theorem dL_call_303 : decode cL_call 303 = .ok (.iload_n 1, 1) := by decide +kernel
theorem dL_call_304 : decode cL_call 304 = .ok (.bipush 19, 2) := by decide +kernel
theorem dL_call_306 : decode cL_call 306 = .ok (.if_icmp .ne 12, 3) := by decide +kernel
theorem dL_call_309 : decode cL_call 309 = .ok (.aload_n 0, 1) := by decide +kernel
theorem dL_call_310 : decode cL_call 310 = .ok (.iload_n 2, 1) := by decide +kernel
theorem dL_call_311 : decode cL_call 311 = .ok (.iload_n 3, 1) := by decide +kernel
theorem dL_call_312 : decode cL_call 312 = .ok (.invokevirtual 75, 3) := by decide +kernel
theorem dL_call_315 : decode cL_call 315 = .ok (.goto 108, 3) := by decide +kernel
theorem dL_call_318 : decode cL_call 318 = .ok (.iload_n 1, 1) := by decide +kernel
theorem dL_call_319 : decode cL_call 319 = .ok (.bipush 20, 2) := by decide +kernel
theorem dL_call_321 : decode cL_call 321 = .ok (.if_icmp .ne 12, 3) := by decide +kernel
theorem dL_call_324 : decode cL_call 324 = .ok (.aload_n 0, 1) := by decide +kernel
theorem dL_call_325 : decode cL_call 325 = .ok (.iload_n 2, 1) := by decide +kernel
theorem dL_call_326 : decode cL_call 326 = .ok (.iload_n 3, 1) := by decide +kernel
theorem dL_call_327 : decode cL_call 327 = .ok (.invokevirtual 78, 3) := by decide +kernel
theorem dL_call_330 : decode cL_call 330 = .ok (.goto 93, 3) := by decide +kernel
theorem dL_call_333 : decode cL_call 333 = .ok (.iload_n 1, 1) := by decide +kernel
theorem dL_call_334 : decode cL_call 334 = .ok (.bipush 21, 2) := by decide +kernel
theorem dL_call_336 : decode cL_call 336 = .ok (.if_icmp .ne 11, 3) := by decide +kernel
theorem dL_call_339 : decode cL_call 339 = .ok (.aload_n 0, 1) := by decide +kernel
theorem dL_call_340 : decode cL_call 340 = .ok (.iload_n 2, 1) := by decide +kernel
theorem dL_call_341 : decode cL_call 341 = .ok (.invokevirtual 81, 3) := by decide +kernel
theorem dL_call_344 : decode cL_call 344 = .ok (.goto 79, 3) := by decide +kernel
theorem dL_call_347 : decode cL_call 347 = .ok (.iload_n 1, 1) := by decide +kernel
theorem dL_call_348 : decode cL_call 348 = .ok (.bipush 22, 2) := by decide +kernel
theorem dL_call_350 : decode cL_call 350 = .ok (.if_icmp .ne 18, 3) := by decide +kernel
theorem dL_call_353 : decode cL_call 353 = .ok (.aload_n 0, 1) := by decide +kernel
theorem dL_call_354 : decode cL_call 354 = .ok (.iload_n 2, 1) := by decide +kernel
theorem dL_call_355 : decode cL_call 355 = .ok (.iload_n 3, 1) := by decide +kernel
theorem dL_call_356 : decode cL_call 356 = .ok (.iload 4, 2) := by decide +kernel
theorem dL_call_358 : decode cL_call 358 = .ok (.iload 8, 2) := by decide +kernel
theorem dL_call_360 : decode cL_call 360 = .ok (.iload 7, 2) := by decide +kernel
theorem dL_call_362 : decode cL_call 362 = .ok (.invokevirtual 84, 3) := by decide +kernel
theorem dL_call_365 : decode cL_call 365 = .ok (.goto 58, 3) := by decide +kernel
theorem dL_call_368 : decode cL_call 368 = .ok (.iload_n 1, 1) := by decide +kernel
theorem dL_call_369 : decode cL_call 369 = .ok (.bipush 23, 2) := by decide +kernel
theorem dL_call_371 : decode cL_call 371 = .ok (.if_icmp .ne 14, 3) := by decide +kernel
theorem dL_call_374 : decode cL_call 374 = .ok (.aload_n 0, 1) := by decide +kernel
theorem dL_call_375 : decode cL_call 375 = .ok (.iload_n 2, 1) := by decide +kernel
theorem dL_call_376 : decode cL_call 376 = .ok (.iload_n 3, 1) := by decide +kernel
theorem dL_call_377 : decode cL_call 377 = .ok (.iload 4, 2) := by decide +kernel
theorem dL_call_379 : decode cL_call 379 = .ok (.invokevirtual 88, 3) := by decide +kernel
theorem dL_call_382 : decode cL_call 382 = .ok (.goto 41, 3) := by decide +kernel
theorem dL_call_385 : decode cL_call 385 = .ok (.iload_n 1, 1) := by decide +kernel
theorem dL_call_386 : decode cL_call 386 = .ok (.bipush 24, 2) := by decide +kernel
theorem dL_call_388 : decode cL_call 388 = .ok (.if_icmp .ne 12, 3) := by decide +kernel
theorem dL_call_391 : decode cL_call 391 = .ok (.aload_n 0, 1) := by decide +kernel
theorem dL_call_392 : decode cL_call 392 = .ok (.iload_n 2, 1) := by decide +kernel
theorem dL_call_393 : decode cL_call 393 = .ok (.iload_n 3, 1) := by decide +kernel
theorem dL_call_394 : decode cL_call 394 = .ok (.invokevirtual 91, 3) := by decide +kernel
theorem dL_call_397 : decode cL_call 397 = .ok (.goto 26, 3) := by decide +kernel
theorem dL_call_400 : decode cL_call 400 = .ok (.iload_n 1, 1) := by decide +kernel
theorem dL_call_401 : decode cL_call 401 = .ok (.bipush 25, 2) := by decide +kernel
theorem dL_call_403 : decode cL_call 403 = .ok (.if_icmp .ne 14, 3) := by decide +kernel
theorem dL_call_406 : decode cL_call 406 = .ok (.aload_n 0, 1) := by decide +kernel
theorem dL_call_407 : decode cL_call 407 = .ok (.iload_n 2, 1) := by decide +kernel
theorem dL_call_408 : decode cL_call 408 = .ok (.iload_n 3, 1) := by decide +kernel
theorem dL_call_409 : decode cL_call 409 = .ok (.iload 4, 2) := by decide +kernel
theorem dL_call_411 : decode cL_call 411 = .ok (.invokevirtual 94, 3) := by decide +kernel
theorem dL_call_414 : decode cL_call 414 = .ok (.goto 9, 3) := by decide +kernel
theorem dL_call_417 : decode cL_call 417 = .ok (.aload_n 0, 1) := by decide +kernel
theorem dL_call_418 : decode cL_call 418 = .ok (.iload_n 2, 1) := by decide +kernel
theorem dL_call_419 : decode cL_call 419 = .ok (.invokevirtual 97, 3) := by decide +kernel
theorem dL_call_422 : decode cL_call 422 = .ok (.d2i, 1) := by decide +kernel
theorem dL_call_423 : decode cL_call 423 = .ok (.ireturn, 1) := by decide +kernel
theorem dL_call_424 : decode cL_call 424 = .ok (.astore 9, 2) := by decide +kernel
theorem dL_call_426 : decode cL_call 426 = .ok (.bipush (-11), 2) := by decide +kernel
theorem dL_call_428 : decode cL_call 428 = .ok (.ireturn, 1) := by decide +kernel
theorem dL_call_429 : decode cL_call 429 = .ok (.astore 9, 2) := by decide +kernel
theorem dL_call_431 : decode cL_call 431 = .ok (.bipush (-12), 2) := by decide +kernel
theorem dL_call_433 : decode cL_call 433 = .ok (.ireturn, 1) := by decide +kernel
theorem dL_call_434 : decode cL_call 434 = .ok (.astore 9, 2) := by decide +kernel
theorem dL_call_436 : decode cL_call 436 = .ok (.bipush (-13), 2) := by decide +kernel
theorem dL_call_438 : decode cL_call 438 = .ok (.ireturn, 1) := by decide +kernel
theorem dL_seen_0 : decode cL_seen 0 = .ok (.ldc2_w 107, 3) := by decide +kernel
theorem dL_seen_3 : decode cL_seen 3 = .ok (.lstore_n 1, 1) := by decide +kernel
theorem dL_seen_4 : decode cL_seen 4 = .ok (.iconst 0, 1) := by decide +kernel
theorem dL_seen_5 : decode cL_seen 5 = .ok (.istore_n 3, 1) := by decide +kernel
theorem dL_seen_6 : decode cL_seen 6 = .ok (.iload_n 3, 1) := by decide +kernel
theorem dL_seen_7 : decode cL_seen 7 = .ok (.bipush 11, 2) := by decide +kernel
theorem dL_seen_9 : decode cL_seen 9 = .ok (.if_icmp .ge 22, 3) := by decide +kernel
theorem dL_seen_12 : decode cL_seen 12 = .ok (.ldc2_w 109, 3) := by decide +kernel
theorem dL_seen_15 : decode cL_seen 15 = .ok (.lload_n 1, 1) := by decide +kernel
theorem dL_seen_16 : decode cL_seen 16 = .ok (.lmul, 1) := by decide +kernel
theorem dL_seen_17 : decode cL_seen 17 = .ok (.aload_n 0, 1) := by decide +kernel
theorem dL_seen_18 : decode cL_seen 18 = .ok (.iload_n 3, 1) := by decide +kernel
theorem dL_seen_19 : decode cL_seen 19 = .ok (.invokevirtual 81, 3) := by decide +kernel
theorem dL_seen_22 : decode cL_seen 22 = .ok (.i2l, 1) := by decide +kernel
theorem dL_seen_23 : decode cL_seen 23 = .ok (.ladd, 1) := by decide +kernel
theorem dL_seen_24 : decode cL_seen 24 = .ok (.lstore_n 1, 1) := by decide +kernel
theorem dL_seen_25 : decode cL_seen 25 = .ok (.iinc 3 1, 3) := by decide +kernel
theorem dL_seen_28 : decode cL_seen 28 = .ok (.goto (-22), 3) := by decide +kernel
theorem dL_seen_31 : decode cL_seen 31 = .ok (.iconst 0, 1) := by decide +kernel
theorem dL_seen_32 : decode cL_seen 32 = .ok (.istore_n 3, 1) := by decide +kernel
theorem dL_seen_33 : decode cL_seen 33 = .ok (.iload_n 3, 1) := by decide +kernel
theorem dL_seen_34 : decode cL_seen 34 = .ok (.bipush 6, 2) := by decide +kernel
theorem dL_seen_36 : decode cL_seen 36 = .ok (.aload_n 0, 1) := by decide +kernel
theorem dL_seen_37 : decode cL_seen 37 = .ok (.iconst 1, 1) := by decide +kernel
theorem dL_seen_38 : decode cL_seen 38 = .ok (.invokevirtual 81, 3) := by decide +kernel
theorem dL_seen_41 : decode cL_seen 41 = .ok (.imul, 1) := by decide +kernel
theorem dL_seen_42 : decode cL_seen 42 = .ok (.if_icmp .ge 29, 3) := by decide +kernel
theorem dL_seen_45 : decode cL_seen 45 = .ok (.ldc2_w 109, 3) := by decide +kernel
theorem dL_seen_48 : decode cL_seen 48 = .ok (.lload_n 1, 1) := by decide +kernel
theorem dL_seen_49 : decode cL_seen 49 = .ok (.lmul, 1) := by decide +kernel
theorem dL_seen_50 : decode cL_seen 50 = .ok (.aload_n 0, 1) := by decide +kernel
theorem dL_seen_51 : decode cL_seen 51 = .ok (.iload_n 3, 1) := by decide +kernel
theorem dL_seen_52 : decode cL_seen 52 = .ok (.bipush 6, 2) := by decide +kernel
theorem dL_seen_54 : decode cL_seen 54 = .ok (.idiv, 1) := by decide +kernel
theorem dL_seen_55 : decode cL_seen 55 = .ok (.iload_n 3, 1) := by decide +kernel
theorem dL_seen_56 : decode cL_seen 56 = .ok (.bipush 6, 2) := by decide +kernel
theorem dL_seen_58 : decode cL_seen 58 = .ok (.irem, 1) := by decide +kernel
theorem dL_seen_59 : decode cL_seen 59 = .ok (.invokevirtual 63, 3) := by decide +kernel
theorem dL_seen_62 : decode cL_seen 62 = .ok (.i2l, 1) := by decide +kernel
theorem dL_seen_63 : decode cL_seen 63 = .ok (.ladd, 1) := by decide +kernel
theorem dL_seen_64 : decode cL_seen 64 = .ok (.lstore_n 1, 1) := by decide +kernel
theorem dL_seen_65 : decode cL_seen 65 = .ok (.iinc 3 1, 3) := by decide +kernel
theorem dL_seen_68 : decode cL_seen 68 = .ok (.goto (-35), 3) := by decide +kernel
theorem dL_seen_71 : decode cL_seen 71 = .ok (.iconst 0, 1) := by decide +kernel
theorem dL_seen_72 : decode cL_seen 72 = .ok (.istore_n 3, 1) := by decide +kernel
theorem dL_seen_73 : decode cL_seen 73 = .ok (.iload_n 3, 1) := by decide +kernel
theorem dL_seen_74 : decode cL_seen 74 = .ok (.bipush 6, 2) := by decide +kernel
theorem dL_seen_76 : decode cL_seen 76 = .ok (.aload_n 0, 1) := by decide +kernel
theorem dL_seen_77 : decode cL_seen 77 = .ok (.iconst 0, 1) := by decide +kernel
theorem dL_seen_78 : decode cL_seen 78 = .ok (.invokevirtual 81, 3) := by decide +kernel
theorem dL_seen_81 : decode cL_seen 81 = .ok (.imul, 1) := by decide +kernel
theorem dL_seen_82 : decode cL_seen 82 = .ok (.if_icmp .ge 29, 3) := by decide +kernel
theorem dL_seen_85 : decode cL_seen 85 = .ok (.ldc2_w 109, 3) := by decide +kernel
theorem dL_seen_88 : decode cL_seen 88 = .ok (.lload_n 1, 1) := by decide +kernel
theorem dL_seen_89 : decode cL_seen 89 = .ok (.lmul, 1) := by decide +kernel
theorem dL_seen_90 : decode cL_seen 90 = .ok (.aload_n 0, 1) := by decide +kernel
theorem dL_seen_91 : decode cL_seen 91 = .ok (.iload_n 3, 1) := by decide +kernel
theorem dL_seen_92 : decode cL_seen 92 = .ok (.bipush 6, 2) := by decide +kernel
theorem dL_seen_94 : decode cL_seen 94 = .ok (.idiv, 1) := by decide +kernel
theorem dL_seen_95 : decode cL_seen 95 = .ok (.iload_n 3, 1) := by decide +kernel
theorem dL_seen_96 : decode cL_seen 96 = .ok (.bipush 6, 2) := by decide +kernel
theorem dL_seen_98 : decode cL_seen 98 = .ok (.irem, 1) := by decide +kernel
theorem dL_seen_99 : decode cL_seen 99 = .ok (.invokevirtual 60, 3) := by decide +kernel
theorem dL_seen_102 : decode cL_seen 102 = .ok (.i2l, 1) := by decide +kernel
theorem dL_seen_103 : decode cL_seen 103 = .ok (.ladd, 1) := by decide +kernel
theorem dL_seen_104 : decode cL_seen 104 = .ok (.lstore_n 1, 1) := by decide +kernel
theorem dL_seen_105 : decode cL_seen 105 = .ok (.iinc 3 1, 3) := by decide +kernel
theorem dL_seen_108 : decode cL_seen 108 = .ok (.goto (-35), 3) := by decide +kernel
theorem dL_seen_111 : decode cL_seen 111 = .ok (.iconst 0, 1) := by decide +kernel
theorem dL_seen_112 : decode cL_seen 112 = .ok (.istore_n 3, 1) := by decide +kernel
theorem dL_seen_113 : decode cL_seen 113 = .ok (.iload_n 3, 1) := by decide +kernel
theorem dL_seen_114 : decode cL_seen 114 = .ok (.iconst 4, 1) := by decide +kernel
theorem dL_seen_115 : decode cL_seen 115 = .ok (.aload_n 0, 1) := by decide +kernel
theorem dL_seen_116 : decode cL_seen 116 = .ok (.iconst 2, 1) := by decide +kernel
theorem dL_seen_117 : decode cL_seen 117 = .ok (.invokevirtual 81, 3) := by decide +kernel
theorem dL_seen_120 : decode cL_seen 120 = .ok (.imul, 1) := by decide +kernel
theorem dL_seen_121 : decode cL_seen 121 = .ok (.if_icmp .ge 27, 3) := by decide +kernel
theorem dL_seen_124 : decode cL_seen 124 = .ok (.ldc2_w 109, 3) := by decide +kernel
theorem dL_seen_127 : decode cL_seen 127 = .ok (.lload_n 1, 1) := by decide +kernel
theorem dL_seen_128 : decode cL_seen 128 = .ok (.lmul, 1) := by decide +kernel
theorem dL_seen_129 : decode cL_seen 129 = .ok (.aload_n 0, 1) := by decide +kernel
theorem dL_seen_130 : decode cL_seen 130 = .ok (.iload_n 3, 1) := by decide +kernel
theorem dL_seen_131 : decode cL_seen 131 = .ok (.iconst 4, 1) := by decide +kernel
theorem dL_seen_132 : decode cL_seen 132 = .ok (.idiv, 1) := by decide +kernel
theorem dL_seen_133 : decode cL_seen 133 = .ok (.iload_n 3, 1) := by decide +kernel
theorem dL_seen_134 : decode cL_seen 134 = .ok (.iconst 4, 1) := by decide +kernel
theorem dL_seen_135 : decode cL_seen 135 = .ok (.irem, 1) := by decide +kernel
theorem dL_seen_136 : decode cL_seen 136 = .ok (.invokevirtual 75, 3) := by decide +kernel
theorem dL_seen_139 : decode cL_seen 139 = .ok (.i2l, 1) := by decide +kernel
theorem dL_seen_140 : decode cL_seen 140 = .ok (.ladd, 1) := by decide +kernel
theorem dL_seen_141 : decode cL_seen 141 = .ok (.lstore_n 1, 1) := by decide +kernel
theorem dL_seen_142 : decode cL_seen 142 = .ok (.iinc 3 1, 3) := by decide +kernel
theorem dL_seen_145 : decode cL_seen 145 = .ok (.goto (-32), 3) := by decide +kernel
theorem dL_seen_148 : decode cL_seen 148 = .ok (.iconst 0, 1) := by decide +kernel
theorem dL_seen_149 : decode cL_seen 149 = .ok (.istore_n 3, 1) := by decide +kernel
theorem dL_seen_150 : decode cL_seen 150 = .ok (.iload_n 3, 1) := by decide +kernel
theorem dL_seen_151 : decode cL_seen 151 = .ok (.bipush 9, 2) := by decide +kernel
theorem dL_seen_153 : decode cL_seen 153 = .ok (.if_icmp .ge 43, 3) := by decide +kernel
theorem dL_seen_156 : decode cL_seen 156 = .ok (.ldc2_w 109, 3) := by decide +kernel
theorem dL_seen_159 : decode cL_seen 159 = .ok (.lload_n 1, 1) := by decide +kernel
theorem dL_seen_160 : decode cL_seen 160 = .ok (.lmul, 1) := by decide +kernel
theorem dL_seen_161 : decode cL_seen 161 = .ok (.ldc2_w 111, 3) := by decide +kernel
theorem dL_seen_164 : decode cL_seen 164 = .ok (.aload_n 0, 1) := by decide +kernel
theorem dL_seen_165 : decode cL_seen 165 = .ok (.iload_n 3, 1) := by decide +kernel
theorem dL_seen_166 : decode cL_seen 166 = .ok (.iconst 3, 1) := by decide +kernel
theorem dL_seen_167 : decode cL_seen 167 = .ok (.idiv, 1) := by decide +kernel
theorem dL_seen_168 : decode cL_seen 168 = .ok (.iload_n 3, 1) := by decide +kernel
theorem dL_seen_169 : decode cL_seen 169 = .ok (.iconst 3, 1) := by decide +kernel
theorem dL_seen_170 : decode cL_seen 170 = .ok (.irem, 1) := by decide +kernel
theorem dL_seen_171 : decode cL_seen 171 = .ok (.invokevirtual 78, 3) := by decide +kernel
theorem dL_seen_174 : decode cL_seen 174 = .ok (.i2l, 1) := by decide +kernel
theorem dL_seen_175 : decode cL_seen 175 = .ok (.lmul, 1) := by decide +kernel
theorem dL_seen_176 : decode cL_seen 176 = .ok (.ladd, 1) := by decide +kernel
theorem dL_seen_177 : decode cL_seen 177 = .ok (.aload_n 0, 1) := by decide +kernel
theorem dL_seen_178 : decode cL_seen 178 = .ok (.iload_n 3, 1) := by decide +kernel
theorem dL_seen_179 : decode cL_seen 179 = .ok (.iconst 3, 1) := by decide +kernel
theorem dL_seen_180 : decode cL_seen 180 = .ok (.idiv, 1) := by decide +kernel
theorem dL_seen_181 : decode cL_seen 181 = .ok (.iload_n 3, 1) := by decide +kernel
theorem dL_seen_182 : decode cL_seen 182 = .ok (.iconst 3, 1) := by decide +kernel
theorem dL_seen_183 : decode cL_seen 183 = .ok (.irem, 1) := by decide +kernel
theorem dL_seen_184 : decode cL_seen 184 = .ok (.invokevirtual 72, 3) := by decide +kernel
theorem dL_seen_187 : decode cL_seen 187 = .ok (.i2l, 1) := by decide +kernel
theorem dL_seen_188 : decode cL_seen 188 = .ok (.ladd, 1) := by decide +kernel
theorem dL_seen_189 : decode cL_seen 189 = .ok (.lstore_n 1, 1) := by decide +kernel
theorem dL_seen_190 : decode cL_seen 190 = .ok (.iinc 3 1, 3) := by decide +kernel
theorem dL_seen_193 : decode cL_seen 193 = .ok (.goto (-43), 3) := by decide +kernel
theorem dL_seen_196 : decode cL_seen 196 = .ok (.iconst 0, 1) := by decide +kernel
theorem dL_seen_197 : decode cL_seen 197 = .ok (.istore_n 3, 1) := by decide +kernel
theorem dL_seen_198 : decode cL_seen 198 = .ok (.iload_n 3, 1) := by decide +kernel
theorem dL_seen_199 : decode cL_seen 199 = .ok (.iconst 3, 1) := by decide +kernel
theorem dL_seen_200 : decode cL_seen 200 = .ok (.if_icmp .ge 22, 3) := by decide +kernel
theorem dL_seen_203 : decode cL_seen 203 = .ok (.ldc2_w 109, 3) := by decide +kernel
theorem dL_seen_206 : decode cL_seen 206 = .ok (.lload_n 1, 1) := by decide +kernel
theorem dL_seen_207 : decode cL_seen 207 = .ok (.lmul, 1) := by decide +kernel
theorem dL_seen_208 : decode cL_seen 208 = .ok (.aload_n 0, 1) := by decide +kernel
theorem dL_seen_209 : decode cL_seen 209 = .ok (.iload_n 3, 1) := by decide +kernel
theorem dL_seen_210 : decode cL_seen 210 = .ok (.invokevirtual 51, 3) := by decide +kernel
theorem dL_seen_213 : decode cL_seen 213 = .ok (.i2l, 1) := by decide +kernel
theorem dL_seen_214 : decode cL_seen 214 = .ok (.ladd, 1) := by decide +kernel
theorem dL_seen_215 : decode cL_seen 215 = .ok (.lstore_n 1, 1) := by decide +kernel
theorem dL_seen_216 : decode cL_seen 216 = .ok (.iinc 3 1, 3) := by decide +kernel
theorem dL_seen_219 : decode cL_seen 219 = .ok (.goto (-21), 3) := by decide +kernel
theorem dL_seen_222 : decode cL_seen 222 = .ok (.lload_n 1, 1) := by decide +kernel
theorem dL_seen_223 : decode cL_seen 223 = .ok (.lreturn, 1) := by decide +kernel
theorem dL_far_0 : decode cL_far 0 = .ok (.iload_n 0, 1) := by decide +kernel
theorem dL_far_1 : decode cL_far 1 = .ok (.ifCond .ne 9, 3) := by decide +kernel
theorem dL_far_4 : decode cL_far 4 = .ok (.iload_n 1, 1) := by decide +kernel
theorem dL_far_5 : decode cL_far 5 = .ok (.iconst 1, 1) := by decide +kernel
theorem dL_far_6 : decode cL_far 6 = .ok (.isub, 1) := by decide +kernel
theorem dL_far_7 : decode cL_far 7 = .ok (.goto 26, 3) := by decide +kernel
theorem dL_far_10 : decode cL_far 10 = .ok (.iload_n 0, 1) := by decide +kernel
theorem dL_far_11 : decode cL_far 11 = .ok (.iconst 1, 1) := by decide +kernel
theorem dL_far_12 : decode cL_far 12 = .ok (.if_icmp .ne 9, 3) := by decide +kernel
theorem dL_far_15 : decode cL_far 15 = .ok (.iload_n 2, 1) := by decide +kernel
theorem dL_far_16 : decode cL_far 16 = .ok (.iconst 1, 1) := by decide +kernel
theorem dL_far_17 : decode cL_far 17 = .ok (.iadd, 1) := by decide +kernel
theorem dL_far_18 : decode cL_far 18 = .ok (.goto 15, 3) := by decide +kernel
theorem dL_far_21 : decode cL_far 21 = .ok (.iload_n 0, 1) := by decide +kernel
theorem dL_far_22 : decode cL_far 22 = .ok (.iconst 2, 1) := by decide +kernel
theorem dL_far_23 : decode cL_far 23 = .ok (.if_icmp .ne 8, 3) := by decide +kernel
theorem dL_far_26 : decode cL_far 26 = .ok (.ldc 113, 2) := by decide +kernel
theorem dL_far_28 : decode cL_far 28 = .ok (.goto 5, 3) := by decide +kernel
theorem dL_far_31 : decode cL_far 31 = .ok (.ldc 7, 2) := by decide +kernel
theorem dL_far_33 : decode cL_far 33 = .ok (.ireturn, 1) := by decide +kernel
theorem dL_refusesFilms_0 : decode cL_refusesFilms 0 = .ok (.iload_n 1, 1) := by decide +kernel
theorem dL_refusesFilms_1 : decode cL_refusesFilms 1 = .ok (.iconst 0, 1) := by decide +kernel
theorem dL_refusesFilms_2 : decode cL_refusesFilms 2 = .ok (.aload_n 0, 1) := by decide +kernel
theorem dL_refusesFilms_3 : decode cL_refusesFilms 3 = .ok (.iconst 0, 1) := by decide +kernel
theorem dL_refusesFilms_4 : decode cL_refusesFilms 4 = .ok (.invokevirtual 81, 3) := by decide +kernel
theorem dL_refusesFilms_7 : decode cL_refusesFilms 7 = .ok (.iconst 1, 1) := by decide +kernel
theorem dL_refusesFilms_8 : decode cL_refusesFilms 8 = .ok (.isub, 1) := by decide +kernel
theorem dL_refusesFilms_9 : decode cL_refusesFilms 9 = .ok (.invokestatic 114, 3) := by decide +kernel
theorem dL_refusesFilms_12 : decode cL_refusesFilms 12 = .ok (.istore_n 2, 1) := by decide +kernel
theorem dL_refusesFilms_13 : decode cL_refusesFilms 13 = .ok (.iload_n 1, 1) := by decide +kernel
theorem dL_refusesFilms_14 : decode cL_refusesFilms 14 = .ok (.iconst 0, 1) := by decide +kernel
theorem dL_refusesFilms_15 : decode cL_refusesFilms 15 = .ok (.iconst 2, 1) := by decide +kernel
theorem dL_refusesFilms_16 : decode cL_refusesFilms 16 = .ok (.invokestatic 114, 3) := by decide +kernel
theorem dL_refusesFilms_19 : decode cL_refusesFilms 19 = .ok (.istore_n 3, 1) := by decide +kernel
theorem dL_refusesFilms_20 : decode cL_refusesFilms 20 = .ok (.iload_n 1, 1) := by decide +kernel
theorem dL_refusesFilms_21 : decode cL_refusesFilms 21 = .ok (.iconst 0, 1) := by decide +kernel
theorem dL_refusesFilms_22 : decode cL_refusesFilms 22 = .ok (.sipush 1999, 3) := by decide +kernel
theorem dL_refusesFilms_25 : decode cL_refusesFilms 25 = .ok (.invokestatic 114, 3) := by decide +kernel
theorem dL_refusesFilms_28 : decode cL_refusesFilms 28 = .ok (.istore 4, 2) := by decide +kernel
theorem dL_refusesFilms_30 : decode cL_refusesFilms 30 = .ok (.aload_n 0, 1) := by decide +kernel
theorem dL_refusesFilms_31 : decode cL_refusesFilms 31 = .ok (.iconst 0, 1) := by decide +kernel
theorem dL_refusesFilms_32 : decode cL_refusesFilms 32 = .ok (.iload_n 1, 1) := by decide +kernel
theorem dL_refusesFilms_33 : decode cL_refusesFilms 33 = .ok (.iconst 1, 1) := by decide +kernel
theorem dL_refusesFilms_34 : decode cL_refusesFilms 34 = .ok (.bipush 6, 2) := by decide +kernel
theorem dL_refusesFilms_36 : decode cL_refusesFilms 36 = .ok (.invokestatic 114, 3) := by decide +kernel
theorem dL_refusesFilms_39 : decode cL_refusesFilms 39 = .ok (.bipush 10, 2) := by decide +kernel
theorem dL_refusesFilms_41 : decode cL_refusesFilms 41 = .ok (.iconst 0, 1) := by decide +kernel
theorem dL_refusesFilms_42 : decode cL_refusesFilms 42 = .ok (.lconst 0, 1) := by decide +kernel
theorem dL_refusesFilms_43 : decode cL_refusesFilms 43 = .ok (.invokestatic 119, 3) := by decide +kernel
theorem dL_refusesFilms_46 : decode cL_refusesFilms 46 = .ok (.bipush (-12), 2) := by decide +kernel
theorem dL_refusesFilms_48 : decode cL_refusesFilms 48 = .ok (.if_icmp .ne 267, 3) := by decide +kernel
theorem dL_refusesFilms_51 : decode cL_refusesFilms 51 = .ok (.aload_n 0, 1) := by decide +kernel
theorem dL_refusesFilms_52 : decode cL_refusesFilms 52 = .ok (.iconst 0, 1) := by decide +kernel
theorem dL_refusesFilms_53 : decode cL_refusesFilms 53 = .ok (.bipush 6, 2) := by decide +kernel
theorem dL_refusesFilms_55 : decode cL_refusesFilms 55 = .ok (.iload_n 1, 1) := by decide +kernel
theorem dL_refusesFilms_56 : decode cL_refusesFilms 56 = .ok (.bipush 10, 2) := by decide +kernel
theorem dL_refusesFilms_58 : decode cL_refusesFilms 58 = .ok (.bipush 25, 2) := by decide +kernel
theorem dL_refusesFilms_60 : decode cL_refusesFilms 60 = .ok (.invokestatic 114, 3) := by decide +kernel
theorem dL_refusesFilms_63 : decode cL_refusesFilms 63 = .ok (.iconst 0, 1) := by decide +kernel
theorem dL_refusesFilms_64 : decode cL_refusesFilms 64 = .ok (.lconst 0, 1) := by decide +kernel
theorem dL_refusesFilms_65 : decode cL_refusesFilms 65 = .ok (.invokestatic 119, 3) := by decide +kernel
theorem dL_refusesFilms_68 : decode cL_refusesFilms 68 = .ok (.bipush (-12), 2) := by decide +kernel
theorem dL_refusesFilms_70 : decode cL_refusesFilms 70 = .ok (.if_icmp .ne 245, 3) := by decide +kernel
theorem dL_refusesFilms_73 : decode cL_refusesFilms 73 = .ok (.aload_n 0, 1) := by decide +kernel
theorem dL_refusesFilms_74 : decode cL_refusesFilms 74 = .ok (.iconst 1, 1) := by decide +kernel
theorem dL_refusesFilms_75 : decode cL_refusesFilms 75 = .ok (.iload_n 3, 1) := by decide +kernel
theorem dL_refusesFilms_76 : decode cL_refusesFilms 76 = .ok (.iconst 0, 1) := by decide +kernel
theorem dL_refusesFilms_77 : decode cL_refusesFilms 77 = .ok (.iconst 0, 1) := by decide +kernel
theorem dL_refusesFilms_78 : decode cL_refusesFilms 78 = .ok (.lconst 0, 1) := by decide +kernel
theorem dL_refusesFilms_79 : decode cL_refusesFilms 79 = .ok (.invokestatic 119, 3) := by decide +kernel
theorem dL_refusesFilms_82 : decode cL_refusesFilms 82 = .ok (.bipush (-11), 2) := by decide +kernel
theorem dL_refusesFilms_84 : decode cL_refusesFilms 84 = .ok (.if_icmp .ne 231, 3) := by decide +kernel
theorem dL_refusesFilms_87 : decode cL_refusesFilms 87 = .ok (.aload_n 0, 1) := by decide +kernel
theorem dL_refusesFilms_88 : decode cL_refusesFilms 88 = .ok (.iconst 1, 1) := by decide +kernel
theorem dL_refusesFilms_89 : decode cL_refusesFilms 89 = .ok (.iconst 2, 1) := by decide +kernel
theorem dL_refusesFilms_90 : decode cL_refusesFilms 90 = .ok (.iload_n 1, 1) := by decide +kernel
theorem dL_refusesFilms_91 : decode cL_refusesFilms 91 = .ok (.bipush 50, 2) := by decide +kernel
theorem dL_refusesFilms_93 : decode cL_refusesFilms 93 = .ok (.sipush 400, 3) := by decide +kernel
theorem dL_refusesFilms_96 : decode cL_refusesFilms 96 = .ok (.invokestatic 114, 3) := by decide +kernel
theorem dL_refusesFilms_99 : decode cL_refusesFilms 99 = .ok (.iconst 0, 1) := by decide +kernel
theorem dL_refusesFilms_100 : decode cL_refusesFilms 100 = .ok (.lconst 0, 1) := by decide +kernel
theorem dL_refusesFilms_101 : decode cL_refusesFilms 101 = .ok (.invokestatic 119, 3) := by decide +kernel
theorem dL_refusesFilms_104 : decode cL_refusesFilms 104 = .ok (.bipush (-12), 2) := by decide +kernel
theorem dL_refusesFilms_106 : decode cL_refusesFilms 106 = .ok (.if_icmp .ne 209, 3) := by decide +kernel
theorem dL_refusesFilms_109 : decode cL_refusesFilms 109 = .ok (.aload_n 0, 1) := by decide +kernel
theorem dL_refusesFilms_110 : decode cL_refusesFilms 110 = .ok (.iconst 2, 1) := by decide +kernel
theorem dL_refusesFilms_111 : decode cL_refusesFilms 111 = .ok (.iload_n 1, 1) := by decide +kernel
theorem dL_refusesFilms_112 : decode cL_refusesFilms 112 = .ok (.iconst 0, 1) := by decide +kernel
theorem dL_refusesFilms_113 : decode cL_refusesFilms 113 = .ok (.iconst 3, 1) := by decide +kernel
theorem dL_refusesFilms_114 : decode cL_refusesFilms 114 = .ok (.invokestatic 114, 3) := by decide +kernel
theorem dL_refusesFilms_117 : decode cL_refusesFilms 117 = .ok (.bipush 99, 2) := by decide +kernel
theorem dL_refusesFilms_119 : decode cL_refusesFilms 119 = .ok (.iconst 0, 1) := by decide +kernel
theorem dL_refusesFilms_120 : decode cL_refusesFilms 120 = .ok (.lconst 0, 1) := by decide +kernel
theorem dL_refusesFilms_121 : decode cL_refusesFilms 121 = .ok (.invokestatic 119, 3) := by decide +kernel
theorem dL_refusesFilms_124 : decode cL_refusesFilms 124 = .ok (.bipush (-11), 2) := by decide +kernel
theorem dL_refusesFilms_126 : decode cL_refusesFilms 126 = .ok (.if_icmp .ne 189, 3) := by decide +kernel
theorem dL_refusesFilms_129 : decode cL_refusesFilms 129 = .ok (.aload_n 0, 1) := by decide +kernel
theorem dL_refusesFilms_130 : decode cL_refusesFilms 130 = .ok (.iconst 2, 1) := by decide +kernel
theorem dL_refusesFilms_131 : decode cL_refusesFilms 131 = .ok (.iconst 3, 1) := by decide +kernel
theorem dL_refusesFilms_132 : decode cL_refusesFilms 132 = .ok (.iload_n 1, 1) := by decide +kernel
theorem dL_refusesFilms_133 : decode cL_refusesFilms 133 = .ok (.iconst 0, 1) := by decide +kernel
theorem dL_refusesFilms_134 : decode cL_refusesFilms 134 = .ok (.bipush 60, 2) := by decide +kernel
theorem dL_refusesFilms_136 : decode cL_refusesFilms 136 = .ok (.invokestatic 114, 3) := by decide +kernel
theorem dL_refusesFilms_139 : decode cL_refusesFilms 139 = .ok (.iconst 0, 1) := by decide +kernel
theorem dL_refusesFilms_140 : decode cL_refusesFilms 140 = .ok (.lconst 0, 1) := by decide +kernel
theorem dL_refusesFilms_141 : decode cL_refusesFilms 141 = .ok (.invokestatic 119, 3) := by decide +kernel
theorem dL_refusesFilms_144 : decode cL_refusesFilms 144 = .ok (.bipush (-12), 2) := by decide +kernel
theorem dL_refusesFilms_146 : decode cL_refusesFilms 146 = .ok (.if_icmp .ne 169, 3) := by decide +kernel
theorem dL_refusesFilms_149 : decode cL_refusesFilms 149 = .ok (.aload_n 0, 1) := by decide +kernel
theorem dL_refusesFilms_150 : decode cL_refusesFilms 150 = .ok (.iconst 3, 1) := by decide +kernel
theorem dL_refusesFilms_151 : decode cL_refusesFilms 151 = .ok (.iload_n 2, 1) := by decide +kernel
theorem dL_refusesFilms_152 : decode cL_refusesFilms 152 = .ok (.iconst 0, 1) := by decide +kernel
theorem dL_refusesFilms_153 : decode cL_refusesFilms 153 = .ok (.iconst (-1), 1) := by decide +kernel
theorem dL_refusesFilms_154 : decode cL_refusesFilms 154 = .ok (.ldc2_w 123, 3) := by decide +kernel
theorem dL_refusesFilms_157 : decode cL_refusesFilms 157 = .ok (.invokestatic 119, 3) := by decide +kernel
theorem dL_refusesFilms_160 : decode cL_refusesFilms 160 = .ok (.bipush (-11), 2) := by decide +kernel
theorem dL_refusesFilms_162 : decode cL_refusesFilms 162 = .ok (.if_icmp .ne 153, 3) := by decide +kernel
theorem dL_refusesFilms_165 : decode cL_refusesFilms 165 = .ok (.aload_n 0, 1) := by decide +kernel
theorem dL_refusesFilms_166 : decode cL_refusesFilms 166 = .ok (.bipush 6, 2) := by decide +kernel
theorem dL_refusesFilms_168 : decode cL_refusesFilms 168 = .ok (.iload_n 2, 1) := by decide +kernel
theorem dL_refusesFilms_169 : decode cL_refusesFilms 169 = .ok (.iconst (-1), 1) := by decide +kernel
theorem dL_refusesFilms_170 : decode cL_refusesFilms 170 = .ok (.iconst 0, 1) := by decide +kernel
theorem dL_refusesFilms_171 : decode cL_refusesFilms 171 = .ok (.lconst 0, 1) := by decide +kernel
theorem dL_refusesFilms_172 : decode cL_refusesFilms 172 = .ok (.invokestatic 119, 3) := by decide +kernel
theorem dL_refusesFilms_175 : decode cL_refusesFilms 175 = .ok (.bipush (-11), 2) := by decide +kernel
theorem dL_refusesFilms_177 : decode cL_refusesFilms 177 = .ok (.if_icmp .ne 138, 3) := by decide +kernel
theorem dL_refusesFilms_180 : decode cL_refusesFilms 180 = .ok (.aload_n 0, 1) := by decide +kernel
theorem dL_refusesFilms_181 : decode cL_refusesFilms 181 = .ok (.bipush 9, 2) := by decide +kernel
theorem dL_refusesFilms_183 : decode cL_refusesFilms 183 = .ok (.iload_n 1, 1) := by decide +kernel
theorem dL_refusesFilms_184 : decode cL_refusesFilms 184 = .ok (.bipush 33, 2) := by decide +kernel
theorem dL_refusesFilms_186 : decode cL_refusesFilms 186 = .ok (.bipush 126, 2) := by decide +kernel
theorem dL_refusesFilms_188 : decode cL_refusesFilms 188 = .ok (.invokestatic 114, 3) := by decide +kernel
theorem dL_refusesFilms_191 : decode cL_refusesFilms 191 = .ok (.iconst 0, 1) := by decide +kernel
theorem dL_refusesFilms_192 : decode cL_refusesFilms 192 = .ok (.iconst 0, 1) := by decide +kernel
theorem dL_refusesFilms_193 : decode cL_refusesFilms 193 = .ok (.lconst 0, 1) := by decide +kernel
theorem dL_refusesFilms_194 : decode cL_refusesFilms 194 = .ok (.invokestatic 119, 3) := by decide +kernel
theorem dL_refusesFilms_197 : decode cL_refusesFilms 197 = .ok (.bipush (-12), 2) := by decide +kernel
theorem dL_refusesFilms_199 : decode cL_refusesFilms 199 = .ok (.if_icmp .ne 116, 3) := by decide +kernel
theorem dL_refusesFilms_202 : decode cL_refusesFilms 202 = .ok (.aload_n 0, 1) := by decide +kernel
theorem dL_refusesFilms_203 : decode cL_refusesFilms 203 = .ok (.bipush 10, 2) := by decide +kernel
theorem dL_refusesFilms_205 : decode cL_refusesFilms 205 = .ok (.iconst 0, 1) := by decide +kernel
theorem dL_refusesFilms_206 : decode cL_refusesFilms 206 = .ok (.iconst 0, 1) := by decide +kernel
theorem dL_refusesFilms_207 : decode cL_refusesFilms 207 = .ok (.iconst 0, 1) := by decide +kernel
theorem dL_refusesFilms_208 : decode cL_refusesFilms 208 = .ok (.lconst 0, 1) := by decide +kernel
theorem dL_refusesFilms_209 : decode cL_refusesFilms 209 = .ok (.invokestatic 119, 3) := by decide +kernel
theorem dL_refusesFilms_212 : decode cL_refusesFilms 212 = .ok (.bipush (-12), 2) := by decide +kernel
theorem dL_refusesFilms_214 : decode cL_refusesFilms 214 = .ok (.if_icmp .ne 101, 3) := by decide +kernel
theorem dL_refusesFilms_217 : decode cL_refusesFilms 217 = .ok (.aload_n 0, 1) := by decide +kernel
theorem dL_refusesFilms_218 : decode cL_refusesFilms 218 = .ok (.bipush 11, 2) := by decide +kernel
theorem dL_refusesFilms_220 : decode cL_refusesFilms 220 = .ok (.iload_n 1, 1) := by decide +kernel
theorem dL_refusesFilms_221 : decode cL_refusesFilms 221 = .ok (.iconst 0, 1) := by decide +kernel
theorem dL_refusesFilms_222 : decode cL_refusesFilms 222 = .ok (.iconst 2, 1) := by decide +kernel
theorem dL_refusesFilms_223 : decode cL_refusesFilms 223 = .ok (.invokestatic 114, 3) := by decide +kernel
theorem dL_refusesFilms_226 : decode cL_refusesFilms 226 = .ok (.iconst 0, 1) := by decide +kernel
theorem dL_refusesFilms_227 : decode cL_refusesFilms 227 = .ok (.iconst 0, 1) := by decide +kernel
theorem dL_refusesFilms_228 : decode cL_refusesFilms 228 = .ok (.lconst 0, 1) := by decide +kernel
theorem dL_refusesFilms_229 : decode cL_refusesFilms 229 = .ok (.invokestatic 119, 3) := by decide +kernel
theorem dL_refusesFilms_232 : decode cL_refusesFilms 232 = .ok (.bipush (-12), 2) := by decide +kernel
theorem dL_refusesFilms_234 : decode cL_refusesFilms 234 = .ok (.if_icmp .ne 81, 3) := by decide +kernel
theorem dL_refusesFilms_237 : decode cL_refusesFilms 237 = .ok (.aload_n 0, 1) := by decide +kernel
theorem dL_refusesFilms_238 : decode cL_refusesFilms 238 = .ok (.bipush 14, 2) := by decide +kernel
theorem dL_refusesFilms_240 : decode cL_refusesFilms 240 = .ok (.iload_n 2, 1) := by decide +kernel
theorem dL_refusesFilms_241 : decode cL_refusesFilms 241 = .ok (.bipush 9, 2) := by decide +kernel
theorem dL_refusesFilms_243 : decode cL_refusesFilms 243 = .ok (.iconst 0, 1) := by decide +kernel
theorem dL_refusesFilms_244 : decode cL_refusesFilms 244 = .ok (.lconst 0, 1) := by decide +kernel
theorem dL_refusesFilms_245 : decode cL_refusesFilms 245 = .ok (.invokestatic 119, 3) := by decide +kernel
theorem dL_refusesFilms_248 : decode cL_refusesFilms 248 = .ok (.bipush (-11), 2) := by decide +kernel
theorem dL_refusesFilms_250 : decode cL_refusesFilms 250 = .ok (.if_icmp .ne 65, 3) := by decide +kernel
theorem dL_refusesFilms_253 : decode cL_refusesFilms 253 = .ok (.aload_n 0, 1) := by decide +kernel
theorem dL_refusesFilms_254 : decode cL_refusesFilms 254 = .ok (.bipush 22, 2) := by decide +kernel
theorem dL_refusesFilms_256 : decode cL_refusesFilms 256 = .ok (.iload_n 2, 1) := by decide +kernel
theorem dL_refusesFilms_257 : decode cL_refusesFilms 257 = .ok (.iconst 0, 1) := by decide +kernel
theorem dL_refusesFilms_258 : decode cL_refusesFilms 258 = .ok (.iconst (-1), 1) := by decide +kernel
theorem dL_refusesFilms_259 : decode cL_refusesFilms 259 = .ok (.ldc2_w 123, 3) := by decide +kernel
theorem dL_refusesFilms_262 : decode cL_refusesFilms 262 = .ok (.invokestatic 119, 3) := by decide +kernel
theorem dL_refusesFilms_265 : decode cL_refusesFilms 265 = .ok (.bipush (-11), 2) := by decide +kernel
theorem dL_refusesFilms_267 : decode cL_refusesFilms 267 = .ok (.if_icmp .ne 48, 3) := by decide +kernel
theorem dL_refusesFilms_270 : decode cL_refusesFilms 270 = .ok (.aload_n 0, 1) := by decide +kernel
theorem dL_refusesFilms_271 : decode cL_refusesFilms 271 = .ok (.bipush 23, 2) := by decide +kernel
theorem dL_refusesFilms_273 : decode cL_refusesFilms 273 = .ok (.iload_n 2, 1) := by decide +kernel
theorem dL_refusesFilms_274 : decode cL_refusesFilms 274 = .ok (.iconst 0, 1) := by decide +kernel
theorem dL_refusesFilms_275 : decode cL_refusesFilms 275 = .ok (.iconst (-1), 1) := by decide +kernel
theorem dL_refusesFilms_276 : decode cL_refusesFilms 276 = .ok (.lconst 0, 1) := by decide +kernel
theorem dL_refusesFilms_277 : decode cL_refusesFilms 277 = .ok (.invokestatic 119, 3) := by decide +kernel
theorem dL_refusesFilms_280 : decode cL_refusesFilms 280 = .ok (.bipush (-11), 2) := by decide +kernel
theorem dL_refusesFilms_282 : decode cL_refusesFilms 282 = .ok (.if_icmp .ne 33, 3) := by decide +kernel
theorem dL_refusesFilms_285 : decode cL_refusesFilms 285 = .ok (.aload_n 0, 1) := by decide +kernel
theorem dL_refusesFilms_286 : decode cL_refusesFilms 286 = .ok (.bipush 24, 2) := by decide +kernel
theorem dL_refusesFilms_288 : decode cL_refusesFilms 288 = .ok (.iload_n 2, 1) := by decide +kernel
theorem dL_refusesFilms_289 : decode cL_refusesFilms 289 = .ok (.iconst (-1), 1) := by decide +kernel
theorem dL_refusesFilms_290 : decode cL_refusesFilms 290 = .ok (.iconst 0, 1) := by decide +kernel
theorem dL_refusesFilms_291 : decode cL_refusesFilms 291 = .ok (.lconst 0, 1) := by decide +kernel
theorem dL_refusesFilms_292 : decode cL_refusesFilms 292 = .ok (.invokestatic 119, 3) := by decide +kernel
theorem dL_refusesFilms_295 : decode cL_refusesFilms 295 = .ok (.bipush (-11), 2) := by decide +kernel
theorem dL_refusesFilms_297 : decode cL_refusesFilms 297 = .ok (.if_icmp .ne 18, 3) := by decide +kernel
theorem dL_refusesFilms_300 : decode cL_refusesFilms 300 = .ok (.aload_n 0, 1) := by decide +kernel
theorem dL_refusesFilms_301 : decode cL_refusesFilms 301 = .ok (.bipush 25, 2) := by decide +kernel
theorem dL_refusesFilms_303 : decode cL_refusesFilms 303 = .ok (.iload_n 2, 1) := by decide +kernel
theorem dL_refusesFilms_304 : decode cL_refusesFilms 304 = .ok (.iconst 0, 1) := by decide +kernel
theorem dL_refusesFilms_305 : decode cL_refusesFilms 305 = .ok (.iconst (-1), 1) := by decide +kernel
theorem dL_refusesFilms_306 : decode cL_refusesFilms 306 = .ok (.lconst 0, 1) := by decide +kernel
theorem dL_refusesFilms_307 : decode cL_refusesFilms 307 = .ok (.invokestatic 119, 3) := by decide +kernel
theorem dL_refusesFilms_310 : decode cL_refusesFilms 310 = .ok (.bipush (-11), 2) := by decide +kernel
theorem dL_refusesFilms_312 : decode cL_refusesFilms 312 = .ok (.if_icmp .eq 5, 3) := by decide +kernel
theorem dL_refusesFilms_315 : decode cL_refusesFilms 315 = .ok (.iconst 0, 1) := by decide +kernel
theorem dL_refusesFilms_316 : decode cL_refusesFilms 316 = .ok (.ireturn, 1) := by decide +kernel
theorem dL_refusesFilms_317 : decode cL_refusesFilms 317 = .ok (.aload_n 0, 1) := by decide +kernel
theorem dL_refusesFilms_318 : decode cL_refusesFilms 318 = .ok (.iconst 0, 1) := by decide +kernel
theorem dL_refusesFilms_319 : decode cL_refusesFilms 319 = .ok (.invokevirtual 81, 3) := by decide +kernel
theorem dL_refusesFilms_322 : decode cL_refusesFilms 322 = .ok (.ifCond .le 292, 3) := by decide +kernel
theorem dL_refusesFilms_325 : decode cL_refusesFilms 325 = .ok (.aload_n 0, 1) := by decide +kernel
theorem dL_refusesFilms_326 : decode cL_refusesFilms 326 = .ok (.iconst 3, 1) := by decide +kernel
theorem dL_refusesFilms_327 : decode cL_refusesFilms 327 = .ok (.iconst 0, 1) := by decide +kernel
theorem dL_refusesFilms_328 : decode cL_refusesFilms 328 = .ok (.iload_n 3, 1) := by decide +kernel
theorem dL_refusesFilms_329 : decode cL_refusesFilms 329 = .ok (.iconst (-1), 1) := by decide +kernel
theorem dL_refusesFilms_330 : decode cL_refusesFilms 330 = .ok (.ldc2_w 123, 3) := by decide +kernel
theorem dL_refusesFilms_333 : decode cL_refusesFilms 333 = .ok (.invokestatic 119, 3) := by decide +kernel
theorem dL_refusesFilms_336 : decode cL_refusesFilms 336 = .ok (.bipush (-11), 2) := by decide +kernel
theorem dL_refusesFilms_338 : decode cL_refusesFilms 338 = .ok (.if_icmp .ne 274, 3) := by decide +kernel
theorem dL_refusesFilms_341 : decode cL_refusesFilms 341 = .ok (.aload_n 0, 1) := by decide +kernel
theorem dL_refusesFilms_342 : decode cL_refusesFilms 342 = .ok (.iconst 3, 1) := by decide +kernel
theorem dL_refusesFilms_343 : decode cL_refusesFilms 343 = .ok (.iconst 0, 1) := by decide +kernel
theorem dL_refusesFilms_344 : decode cL_refusesFilms 344 = .ok (.iconst 0, 1) := by decide +kernel
theorem dL_refusesFilms_345 : decode cL_refusesFilms 345 = .ok (.iload 4, 2) := by decide +kernel
theorem dL_refusesFilms_347 : decode cL_refusesFilms 347 = .ok (.ldc2_w 123, 3) := by decide +kernel
theorem dL_refusesFilms_350 : decode cL_refusesFilms 350 = .ok (.invokestatic 119, 3) := by decide +kernel
theorem dL_refusesFilms_353 : decode cL_refusesFilms 353 = .ok (.bipush (-12), 2) := by decide +kernel
theorem dL_refusesFilms_355 : decode cL_refusesFilms 355 = .ok (.if_icmp .ne 257, 3) := by decide +kernel
theorem dL_refusesFilms_358 : decode cL_refusesFilms 358 = .ok (.aload_n 0, 1) := by decide +kernel
theorem dL_refusesFilms_359 : decode cL_refusesFilms 359 = .ok (.iconst 3, 1) := by decide +kernel
theorem dL_refusesFilms_360 : decode cL_refusesFilms 360 = .ok (.iconst 0, 1) := by decide +kernel
theorem dL_refusesFilms_361 : decode cL_refusesFilms 361 = .ok (.iconst 0, 1) := by decide +kernel
theorem dL_refusesFilms_362 : decode cL_refusesFilms 362 = .ok (.iconst 0, 1) := by decide +kernel
theorem dL_refusesFilms_363 : decode cL_refusesFilms 363 = .ok (.iload_n 1, 1) := by decide +kernel
theorem dL_refusesFilms_364 : decode cL_refusesFilms 364 = .ok (.ifCond .ne 9, 3) := by decide +kernel
theorem dL_refusesFilms_367 : decode cL_refusesFilms 367 = .ok (.ldc2_w 125, 3) := by decide +kernel
theorem dL_refusesFilms_370 : decode cL_refusesFilms 370 = .ok (.goto 6, 3) := by decide +kernel
theorem dL_refusesFilms_373 : decode cL_refusesFilms 373 = .ok (.ldc2_w 127, 3) := by decide +kernel
theorem dL_refusesFilms_376 : decode cL_refusesFilms 376 = .ok (.invokestatic 119, 3) := by decide +kernel
theorem dL_refusesFilms_379 : decode cL_refusesFilms 379 = .ok (.bipush (-12), 2) := by decide +kernel
theorem dL_refusesFilms_381 : decode cL_refusesFilms 381 = .ok (.if_icmp .ne 231, 3) := by decide +kernel
theorem dL_refusesFilms_384 : decode cL_refusesFilms 384 = .ok (.aload_n 0, 1) := by decide +kernel
theorem dL_refusesFilms_385 : decode cL_refusesFilms 385 = .ok (.bipush 6, 2) := by decide +kernel
theorem dL_refusesFilms_387 : decode cL_refusesFilms 387 = .ok (.iconst 0, 1) := by decide +kernel
theorem dL_refusesFilms_388 : decode cL_refusesFilms 388 = .ok (.iload 4, 2) := by decide +kernel
theorem dL_refusesFilms_390 : decode cL_refusesFilms 390 = .ok (.sipush 2000, 3) := by decide +kernel
theorem dL_refusesFilms_393 : decode cL_refusesFilms 393 = .ok (.lconst 0, 1) := by decide +kernel
theorem dL_refusesFilms_394 : decode cL_refusesFilms 394 = .ok (.invokestatic 119, 3) := by decide +kernel
theorem dL_refusesFilms_397 : decode cL_refusesFilms 397 = .ok (.bipush (-12), 2) := by decide +kernel
theorem dL_refusesFilms_399 : decode cL_refusesFilms 399 = .ok (.if_icmp .ne 213, 3) := by decide +kernel
theorem dL_refusesFilms_402 : decode cL_refusesFilms 402 = .ok (.aload_n 0, 1) := by decide +kernel
theorem dL_refusesFilms_403 : decode cL_refusesFilms 403 = .ok (.bipush 6, 2) := by decide +kernel
theorem dL_refusesFilms_405 : decode cL_refusesFilms 405 = .ok (.iconst 0, 1) := by decide +kernel
theorem dL_refusesFilms_406 : decode cL_refusesFilms 406 = .ok (.sipush 700, 3) := by decide +kernel
theorem dL_refusesFilms_409 : decode cL_refusesFilms 409 = .ok (.iload_n 1, 1) := by decide +kernel
theorem dL_refusesFilms_410 : decode cL_refusesFilms 410 = .ok (.ifCond .ne 9, 3) := by decide +kernel
theorem dL_refusesFilms_413 : decode cL_refusesFilms 413 = .ok (.sipush 700, 3) := by decide +kernel
theorem dL_refusesFilms_416 : decode cL_refusesFilms 416 = .ok (.goto 20, 3) := by decide +kernel
theorem dL_refusesFilms_419 : decode cL_refusesFilms 419 = .ok (.iload_n 1, 1) := by decide +kernel
theorem dL_refusesFilms_420 : decode cL_refusesFilms 420 = .ok (.iconst 1, 1) := by decide +kernel
theorem dL_refusesFilms_421 : decode cL_refusesFilms 421 = .ok (.if_icmp .ne 9, 3) := by decide +kernel
theorem dL_refusesFilms_424 : decode cL_refusesFilms 424 = .ok (.sipush 2001, 3) := by decide +kernel
theorem dL_refusesFilms_427 : decode cL_refusesFilms 427 = .ok (.goto 9, 3) := by decide +kernel
theorem dL_refusesFilms_430 : decode cL_refusesFilms 430 = .ok (.iload_n 1, 1) := by decide +kernel
theorem dL_refusesFilms_431 : decode cL_refusesFilms 431 = .ok (.iconst 0, 1) := by decide +kernel
theorem dL_refusesFilms_432 : decode cL_refusesFilms 432 = .ok (.iconst 0, 1) := by decide +kernel
theorem dL_refusesFilms_433 : decode cL_refusesFilms 433 = .ok (.invokestatic 114, 3) := by decide +kernel
theorem dL_refusesFilms_436 : decode cL_refusesFilms 436 = .ok (.lconst 0, 1) := by decide +kernel
theorem dL_refusesFilms_437 : decode cL_refusesFilms 437 = .ok (.invokestatic 119, 3) := by decide +kernel
theorem dL_refusesFilms_440 : decode cL_refusesFilms 440 = .ok (.bipush (-12), 2) := by decide +kernel
theorem dL_refusesFilms_442 : decode cL_refusesFilms 442 = .ok (.if_icmp .ne 170, 3) := by decide +kernel
theorem dL_refusesFilms_445 : decode cL_refusesFilms 445 = .ok (.aload_n 0, 1) := by decide +kernel
theorem dL_refusesFilms_446 : decode cL_refusesFilms 446 = .ok (.bipush 14, 2) := by decide +kernel
theorem dL_refusesFilms_448 : decode cL_refusesFilms 448 = .ok (.iconst 0, 1) := by decide +kernel
theorem dL_refusesFilms_449 : decode cL_refusesFilms 449 = .ok (.iload_n 1, 1) := by decide +kernel
theorem dL_refusesFilms_450 : decode cL_refusesFilms 450 = .ok (.iconst 0, 1) := by decide +kernel
theorem dL_refusesFilms_451 : decode cL_refusesFilms 451 = .ok (.iconst 5, 1) := by decide +kernel
theorem dL_refusesFilms_452 : decode cL_refusesFilms 452 = .ok (.invokestatic 114, 3) := by decide +kernel
theorem dL_refusesFilms_455 : decode cL_refusesFilms 455 = .ok (.iconst 0, 1) := by decide +kernel
theorem dL_refusesFilms_456 : decode cL_refusesFilms 456 = .ok (.lconst 0, 1) := by decide +kernel
theorem dL_refusesFilms_457 : decode cL_refusesFilms 457 = .ok (.invokestatic 119, 3) := by decide +kernel
theorem dL_refusesFilms_460 : decode cL_refusesFilms 460 = .ok (.bipush (-12), 2) := by decide +kernel
theorem dL_refusesFilms_462 : decode cL_refusesFilms 462 = .ok (.if_icmp .ne 150, 3) := by decide +kernel
theorem dL_refusesFilms_465 : decode cL_refusesFilms 465 = .ok (.aload_n 0, 1) := by decide +kernel
theorem dL_refusesFilms_466 : decode cL_refusesFilms 466 = .ok (.bipush 22, 2) := by decide +kernel
theorem dL_refusesFilms_468 : decode cL_refusesFilms 468 = .ok (.iconst 0, 1) := by decide +kernel
theorem dL_refusesFilms_469 : decode cL_refusesFilms 469 = .ok (.iload_n 3, 1) := by decide +kernel
theorem dL_refusesFilms_470 : decode cL_refusesFilms 470 = .ok (.iconst (-1), 1) := by decide +kernel
theorem dL_refusesFilms_471 : decode cL_refusesFilms 471 = .ok (.ldc2_w 123, 3) := by decide +kernel
theorem dL_refusesFilms_474 : decode cL_refusesFilms 474 = .ok (.invokestatic 119, 3) := by decide +kernel
theorem dL_refusesFilms_477 : decode cL_refusesFilms 477 = .ok (.bipush (-11), 2) := by decide +kernel
theorem dL_refusesFilms_479 : decode cL_refusesFilms 479 = .ok (.if_icmp .ne 133, 3) := by decide +kernel
theorem dL_refusesFilms_482 : decode cL_refusesFilms 482 = .ok (.aload_n 0, 1) := by decide +kernel
theorem dL_refusesFilms_483 : decode cL_refusesFilms 483 = .ok (.bipush 22, 2) := by decide +kernel
theorem dL_refusesFilms_485 : decode cL_refusesFilms 485 = .ok (.iconst 0, 1) := by decide +kernel
theorem dL_refusesFilms_486 : decode cL_refusesFilms 486 = .ok (.iconst 2, 1) := by decide +kernel
theorem dL_refusesFilms_487 : decode cL_refusesFilms 487 = .ok (.iload 4, 2) := by decide +kernel
theorem dL_refusesFilms_489 : decode cL_refusesFilms 489 = .ok (.ldc2_w 123, 3) := by decide +kernel
theorem dL_refusesFilms_492 : decode cL_refusesFilms 492 = .ok (.invokestatic 119, 3) := by decide +kernel
theorem dL_refusesFilms_495 : decode cL_refusesFilms 495 = .ok (.bipush (-12), 2) := by decide +kernel
theorem dL_refusesFilms_497 : decode cL_refusesFilms 497 = .ok (.if_icmp .ne 115, 3) := by decide +kernel
theorem dL_refusesFilms_500 : decode cL_refusesFilms 500 = .ok (.aload_n 0, 1) := by decide +kernel
theorem dL_refusesFilms_501 : decode cL_refusesFilms 501 = .ok (.bipush 22, 2) := by decide +kernel
theorem dL_refusesFilms_503 : decode cL_refusesFilms 503 = .ok (.iconst 0, 1) := by decide +kernel
theorem dL_refusesFilms_504 : decode cL_refusesFilms 504 = .ok (.iconst 2, 1) := by decide +kernel
theorem dL_refusesFilms_505 : decode cL_refusesFilms 505 = .ok (.iconst 0, 1) := by decide +kernel
theorem dL_refusesFilms_506 : decode cL_refusesFilms 506 = .ok (.ldc2_w 127, 3) := by decide +kernel
theorem dL_refusesFilms_509 : decode cL_refusesFilms 509 = .ok (.invokestatic 119, 3) := by decide +kernel
theorem dL_refusesFilms_512 : decode cL_refusesFilms 512 = .ok (.bipush (-12), 2) := by decide +kernel
theorem dL_refusesFilms_514 : decode cL_refusesFilms 514 = .ok (.if_icmp .ne 98, 3) := by decide +kernel
theorem dL_refusesFilms_517 : decode cL_refusesFilms 517 = .ok (.aload_n 0, 1) := by decide +kernel
theorem dL_refusesFilms_518 : decode cL_refusesFilms 518 = .ok (.bipush 22, 2) := by decide +kernel
theorem dL_refusesFilms_520 : decode cL_refusesFilms 520 = .ok (.iconst 0, 1) := by decide +kernel
theorem dL_refusesFilms_521 : decode cL_refusesFilms 521 = .ok (.iconst 2, 1) := by decide +kernel
theorem dL_refusesFilms_522 : decode cL_refusesFilms 522 = .ok (.iconst 0, 1) := by decide +kernel
theorem dL_refusesFilms_523 : decode cL_refusesFilms 523 = .ok (.ldc2_w 129, 3) := by decide +kernel
theorem dL_refusesFilms_526 : decode cL_refusesFilms 526 = .ok (.invokestatic 119, 3) := by decide +kernel
theorem dL_refusesFilms_529 : decode cL_refusesFilms 529 = .ok (.bipush (-12), 2) := by decide +kernel
theorem dL_refusesFilms_531 : decode cL_refusesFilms 531 = .ok (.if_icmp .ne 81, 3) := by decide +kernel
theorem dL_refusesFilms_534 : decode cL_refusesFilms 534 = .ok (.aload_n 0, 1) := by decide +kernel
theorem dL_refusesFilms_535 : decode cL_refusesFilms 535 = .ok (.bipush 23, 2) := by decide +kernel
theorem dL_refusesFilms_537 : decode cL_refusesFilms 537 = .ok (.iconst 0, 1) := by decide +kernel
theorem dL_refusesFilms_538 : decode cL_refusesFilms 538 = .ok (.iload_n 3, 1) := by decide +kernel
theorem dL_refusesFilms_539 : decode cL_refusesFilms 539 = .ok (.iconst (-1), 1) := by decide +kernel
theorem dL_refusesFilms_540 : decode cL_refusesFilms 540 = .ok (.lconst 0, 1) := by decide +kernel
theorem dL_refusesFilms_541 : decode cL_refusesFilms 541 = .ok (.invokestatic 119, 3) := by decide +kernel
theorem dL_refusesFilms_544 : decode cL_refusesFilms 544 = .ok (.bipush (-11), 2) := by decide +kernel
theorem dL_refusesFilms_546 : decode cL_refusesFilms 546 = .ok (.if_icmp .ne 66, 3) := by decide +kernel
theorem dL_refusesFilms_549 : decode cL_refusesFilms 549 = .ok (.aload_n 0, 1) := by decide +kernel
theorem dL_refusesFilms_550 : decode cL_refusesFilms 550 = .ok (.bipush 23, 2) := by decide +kernel
theorem dL_refusesFilms_552 : decode cL_refusesFilms 552 = .ok (.iconst 0, 1) := by decide +kernel
theorem dL_refusesFilms_553 : decode cL_refusesFilms 553 = .ok (.iconst 0, 1) := by decide +kernel
theorem dL_refusesFilms_554 : decode cL_refusesFilms 554 = .ok (.iload 4, 2) := by decide +kernel
theorem dL_refusesFilms_556 : decode cL_refusesFilms 556 = .ok (.lconst 0, 1) := by decide +kernel
theorem dL_refusesFilms_557 : decode cL_refusesFilms 557 = .ok (.invokestatic 119, 3) := by decide +kernel
theorem dL_refusesFilms_560 : decode cL_refusesFilms 560 = .ok (.bipush (-12), 2) := by decide +kernel
theorem dL_refusesFilms_562 : decode cL_refusesFilms 562 = .ok (.if_icmp .ne 50, 3) := by decide +kernel
theorem dL_refusesFilms_565 : decode cL_refusesFilms 565 = .ok (.aload_n 0, 1) := by decide +kernel
theorem dL_refusesFilms_566 : decode cL_refusesFilms 566 = .ok (.bipush 24, 2) := by decide +kernel
theorem dL_refusesFilms_568 : decode cL_refusesFilms 568 = .ok (.iconst 0, 1) := by decide +kernel
theorem dL_refusesFilms_569 : decode cL_refusesFilms 569 = .ok (.iload 4, 2) := by decide +kernel
theorem dL_refusesFilms_571 : decode cL_refusesFilms 571 = .ok (.iconst 0, 1) := by decide +kernel
theorem dL_refusesFilms_572 : decode cL_refusesFilms 572 = .ok (.lconst 0, 1) := by decide +kernel
theorem dL_refusesFilms_573 : decode cL_refusesFilms 573 = .ok (.invokestatic 119, 3) := by decide +kernel
theorem dL_refusesFilms_576 : decode cL_refusesFilms 576 = .ok (.bipush (-12), 2) := by decide +kernel
theorem dL_refusesFilms_578 : decode cL_refusesFilms 578 = .ok (.if_icmp .ne 34, 3) := by decide +kernel
theorem dL_refusesFilms_581 : decode cL_refusesFilms 581 = .ok (.aload_n 0, 1) := by decide +kernel
theorem dL_refusesFilms_582 : decode cL_refusesFilms 582 = .ok (.bipush 25, 2) := by decide +kernel
theorem dL_refusesFilms_584 : decode cL_refusesFilms 584 = .ok (.iconst 0, 1) := by decide +kernel
theorem dL_refusesFilms_585 : decode cL_refusesFilms 585 = .ok (.iload_n 3, 1) := by decide +kernel
theorem dL_refusesFilms_586 : decode cL_refusesFilms 586 = .ok (.iconst (-1), 1) := by decide +kernel
theorem dL_refusesFilms_587 : decode cL_refusesFilms 587 = .ok (.lconst 0, 1) := by decide +kernel
theorem dL_refusesFilms_588 : decode cL_refusesFilms 588 = .ok (.invokestatic 119, 3) := by decide +kernel
theorem dL_refusesFilms_591 : decode cL_refusesFilms 591 = .ok (.bipush (-11), 2) := by decide +kernel
theorem dL_refusesFilms_593 : decode cL_refusesFilms 593 = .ok (.if_icmp .ne 19, 3) := by decide +kernel
theorem dL_refusesFilms_596 : decode cL_refusesFilms 596 = .ok (.aload_n 0, 1) := by decide +kernel
theorem dL_refusesFilms_597 : decode cL_refusesFilms 597 = .ok (.bipush 25, 2) := by decide +kernel
theorem dL_refusesFilms_599 : decode cL_refusesFilms 599 = .ok (.iconst 0, 1) := by decide +kernel
theorem dL_refusesFilms_600 : decode cL_refusesFilms 600 = .ok (.iconst 1, 1) := by decide +kernel
theorem dL_refusesFilms_601 : decode cL_refusesFilms 601 = .ok (.iload 4, 2) := by decide +kernel
theorem dL_refusesFilms_603 : decode cL_refusesFilms 603 = .ok (.lconst 0, 1) := by decide +kernel
theorem dL_refusesFilms_604 : decode cL_refusesFilms 604 = .ok (.invokestatic 119, 3) := by decide +kernel
theorem dL_refusesFilms_607 : decode cL_refusesFilms 607 = .ok (.bipush (-12), 2) := by decide +kernel
theorem dL_refusesFilms_609 : decode cL_refusesFilms 609 = .ok (.if_icmp .eq 5, 3) := by decide +kernel
theorem dL_refusesFilms_612 : decode cL_refusesFilms 612 = .ok (.iconst 0, 1) := by decide +kernel
theorem dL_refusesFilms_613 : decode cL_refusesFilms 613 = .ok (.ireturn, 1) := by decide +kernel
theorem dL_refusesFilms_614 : decode cL_refusesFilms 614 = .ok (.aload_n 0, 1) := by decide +kernel
theorem dL_refusesFilms_615 : decode cL_refusesFilms 615 = .ok (.bipush 17, 2) := by decide +kernel
theorem dL_refusesFilms_617 : decode cL_refusesFilms 617 = .ok (.iload_n 3, 1) := by decide +kernel
theorem dL_refusesFilms_618 : decode cL_refusesFilms 618 = .ok (.iconst (-1), 1) := by decide +kernel
theorem dL_refusesFilms_619 : decode cL_refusesFilms 619 = .ok (.iconst 0, 1) := by decide +kernel
theorem dL_refusesFilms_620 : decode cL_refusesFilms 620 = .ok (.lconst 0, 1) := by decide +kernel
theorem dL_refusesFilms_621 : decode cL_refusesFilms 621 = .ok (.invokestatic 119, 3) := by decide +kernel
theorem dL_refusesFilms_624 : decode cL_refusesFilms 624 = .ok (.bipush (-11), 2) := by decide +kernel
theorem dL_refusesFilms_626 : decode cL_refusesFilms 626 = .ok (.if_icmp .ne 95, 3) := by decide +kernel
theorem dL_refusesFilms_629 : decode cL_refusesFilms 629 = .ok (.aload_n 0, 1) := by decide +kernel
theorem dL_refusesFilms_630 : decode cL_refusesFilms 630 = .ok (.bipush 17, 2) := by decide +kernel
theorem dL_refusesFilms_632 : decode cL_refusesFilms 632 = .ok (.iconst 2, 1) := by decide +kernel
theorem dL_refusesFilms_633 : decode cL_refusesFilms 633 = .ok (.iload 4, 2) := by decide +kernel
theorem dL_refusesFilms_635 : decode cL_refusesFilms 635 = .ok (.iconst 0, 1) := by decide +kernel
theorem dL_refusesFilms_636 : decode cL_refusesFilms 636 = .ok (.lconst 0, 1) := by decide +kernel
theorem dL_refusesFilms_637 : decode cL_refusesFilms 637 = .ok (.invokestatic 119, 3) := by decide +kernel
theorem dL_refusesFilms_640 : decode cL_refusesFilms 640 = .ok (.bipush (-12), 2) := by decide +kernel
theorem dL_refusesFilms_642 : decode cL_refusesFilms 642 = .ok (.if_icmp .ne 79, 3) := by decide +kernel
theorem dL_refusesFilms_645 : decode cL_refusesFilms 645 = .ok (.aload_n 0, 1) := by decide +kernel
theorem dL_refusesFilms_646 : decode cL_refusesFilms 646 = .ok (.bipush 18, 2) := by decide +kernel
theorem dL_refusesFilms_648 : decode cL_refusesFilms 648 = .ok (.iload_n 3, 1) := by decide +kernel
theorem dL_refusesFilms_649 : decode cL_refusesFilms 649 = .ok (.bipush 9, 2) := by decide +kernel
theorem dL_refusesFilms_651 : decode cL_refusesFilms 651 = .ok (.iconst 0, 1) := by decide +kernel
theorem dL_refusesFilms_652 : decode cL_refusesFilms 652 = .ok (.lconst 0, 1) := by decide +kernel
theorem dL_refusesFilms_653 : decode cL_refusesFilms 653 = .ok (.invokestatic 119, 3) := by decide +kernel
theorem dL_refusesFilms_656 : decode cL_refusesFilms 656 = .ok (.bipush (-11), 2) := by decide +kernel
theorem dL_refusesFilms_658 : decode cL_refusesFilms 658 = .ok (.if_icmp .ne 63, 3) := by decide +kernel
theorem dL_refusesFilms_661 : decode cL_refusesFilms 661 = .ok (.aload_n 0, 1) := by decide +kernel
theorem dL_refusesFilms_662 : decode cL_refusesFilms 662 = .ok (.bipush 18, 2) := by decide +kernel
theorem dL_refusesFilms_664 : decode cL_refusesFilms 664 = .ok (.iconst 0, 1) := by decide +kernel
theorem dL_refusesFilms_665 : decode cL_refusesFilms 665 = .ok (.iload_n 1, 1) := by decide +kernel
theorem dL_refusesFilms_666 : decode cL_refusesFilms 666 = .ok (.iconst 0, 1) := by decide +kernel
theorem dL_refusesFilms_667 : decode cL_refusesFilms 667 = .ok (.iconst 4, 1) := by decide +kernel
theorem dL_refusesFilms_668 : decode cL_refusesFilms 668 = .ok (.invokestatic 114, 3) := by decide +kernel
theorem dL_refusesFilms_671 : decode cL_refusesFilms 671 = .ok (.iconst 0, 1) := by decide +kernel
theorem dL_refusesFilms_672 : decode cL_refusesFilms 672 = .ok (.lconst 0, 1) := by decide +kernel
theorem dL_refusesFilms_673 : decode cL_refusesFilms 673 = .ok (.invokestatic 119, 3) := by decide +kernel
theorem dL_refusesFilms_676 : decode cL_refusesFilms 676 = .ok (.bipush (-12), 2) := by decide +kernel
theorem dL_refusesFilms_678 : decode cL_refusesFilms 678 = .ok (.if_icmp .ne 43, 3) := by decide +kernel
theorem dL_refusesFilms_681 : decode cL_refusesFilms 681 = .ok (.aload_n 0, 1) := by decide +kernel
theorem dL_refusesFilms_682 : decode cL_refusesFilms 682 = .ok (.bipush 21, 2) := by decide +kernel
theorem dL_refusesFilms_684 : decode cL_refusesFilms 684 = .ok (.iload_n 1, 1) := by decide +kernel
theorem dL_refusesFilms_685 : decode cL_refusesFilms 685 = .ok (.iconst 0, 1) := by decide +kernel
theorem dL_refusesFilms_686 : decode cL_refusesFilms 686 = .ok (.bipush 11, 2) := by decide +kernel
theorem dL_refusesFilms_688 : decode cL_refusesFilms 688 = .ok (.invokestatic 114, 3) := by decide +kernel
theorem dL_refusesFilms_691 : decode cL_refusesFilms 691 = .ok (.iconst 0, 1) := by decide +kernel
theorem dL_refusesFilms_692 : decode cL_refusesFilms 692 = .ok (.iconst 0, 1) := by decide +kernel
theorem dL_refusesFilms_693 : decode cL_refusesFilms 693 = .ok (.lconst 0, 1) := by decide +kernel
theorem dL_refusesFilms_694 : decode cL_refusesFilms 694 = .ok (.invokestatic 119, 3) := by decide +kernel
theorem dL_refusesFilms_697 : decode cL_refusesFilms 697 = .ok (.bipush (-12), 2) := by decide +kernel
theorem dL_refusesFilms_699 : decode cL_refusesFilms 699 = .ok (.if_icmp .ne 22, 3) := by decide +kernel
theorem dL_refusesFilms_702 : decode cL_refusesFilms 702 = .ok (.aload_n 0, 1) := by decide +kernel
theorem dL_refusesFilms_703 : decode cL_refusesFilms 703 = .ok (.bipush 26, 2) := by decide +kernel
theorem dL_refusesFilms_705 : decode cL_refusesFilms 705 = .ok (.iload_n 3, 1) := by decide +kernel
theorem dL_refusesFilms_706 : decode cL_refusesFilms 706 = .ok (.iconst 0, 1) := by decide +kernel
theorem dL_refusesFilms_707 : decode cL_refusesFilms 707 = .ok (.iconst 0, 1) := by decide +kernel
theorem dL_refusesFilms_708 : decode cL_refusesFilms 708 = .ok (.lconst 0, 1) := by decide +kernel
theorem dL_refusesFilms_709 : decode cL_refusesFilms 709 = .ok (.invokestatic 119, 3) := by decide +kernel
theorem dL_refusesFilms_712 : decode cL_refusesFilms 712 = .ok (.bipush (-11), 2) := by decide +kernel
theorem dL_refusesFilms_714 : decode cL_refusesFilms 714 = .ok (.if_icmp .ne 7, 3) := by decide +kernel
theorem dL_refusesFilms_717 : decode cL_refusesFilms 717 = .ok (.iconst 1, 1) := by decide +kernel
theorem dL_refusesFilms_718 : decode cL_refusesFilms 718 = .ok (.goto 4, 3) := by decide +kernel
theorem dL_refusesFilms_721 : decode cL_refusesFilms 721 = .ok (.iconst 0, 1) := by decide +kernel
theorem dL_refusesFilms_722 : decode cL_refusesFilms 722 = .ok (.ireturn, 1) := by decide +kernel
theorem dL_refusesShown_0 : decode cL_refusesShown 0 = .ok (.iload_n 1, 1) := by decide +kernel
theorem dL_refusesShown_1 : decode cL_refusesShown 1 = .ok (.iconst 0, 1) := by decide +kernel
theorem dL_refusesShown_2 : decode cL_refusesShown 2 = .ok (.aload_n 0, 1) := by decide +kernel
theorem dL_refusesShown_3 : decode cL_refusesShown 3 = .ok (.iconst 1, 1) := by decide +kernel
theorem dL_refusesShown_4 : decode cL_refusesShown 4 = .ok (.invokevirtual 81, 3) := by decide +kernel
theorem dL_refusesShown_7 : decode cL_refusesShown 7 = .ok (.iconst 1, 1) := by decide +kernel
theorem dL_refusesShown_8 : decode cL_refusesShown 8 = .ok (.isub, 1) := by decide +kernel
theorem dL_refusesShown_9 : decode cL_refusesShown 9 = .ok (.invokestatic 114, 3) := by decide +kernel
theorem dL_refusesShown_12 : decode cL_refusesShown 12 = .ok (.istore_n 2, 1) := by decide +kernel
theorem dL_refusesShown_13 : decode cL_refusesShown 13 = .ok (.iload_n 1, 1) := by decide +kernel
theorem dL_refusesShown_14 : decode cL_refusesShown 14 = .ok (.iconst 0, 1) := by decide +kernel
theorem dL_refusesShown_15 : decode cL_refusesShown 15 = .ok (.iconst 2, 1) := by decide +kernel
theorem dL_refusesShown_16 : decode cL_refusesShown 16 = .ok (.invokestatic 114, 3) := by decide +kernel
theorem dL_refusesShown_19 : decode cL_refusesShown 19 = .ok (.istore_n 3, 1) := by decide +kernel
theorem dL_refusesShown_20 : decode cL_refusesShown 20 = .ok (.aload_n 0, 1) := by decide +kernel
theorem dL_refusesShown_21 : decode cL_refusesShown 21 = .ok (.iconst 4, 1) := by decide +kernel
theorem dL_refusesShown_22 : decode cL_refusesShown 22 = .ok (.iload_n 2, 1) := by decide +kernel
theorem dL_refusesShown_23 : decode cL_refusesShown 23 = .ok (.iconst 0, 1) := by decide +kernel
theorem dL_refusesShown_24 : decode cL_refusesShown 24 = .ok (.iconst 0, 1) := by decide +kernel
theorem dL_refusesShown_25 : decode cL_refusesShown 25 = .ok (.lconst 0, 1) := by decide +kernel
theorem dL_refusesShown_26 : decode cL_refusesShown 26 = .ok (.invokestatic 119, 3) := by decide +kernel
theorem dL_refusesShown_29 : decode cL_refusesShown 29 = .ok (.bipush (-11), 2) := by decide +kernel
theorem dL_refusesShown_31 : decode cL_refusesShown 31 = .ok (.if_icmp .ne 185, 3) := by decide +kernel
theorem dL_refusesShown_34 : decode cL_refusesShown 34 = .ok (.aload_n 0, 1) := by decide +kernel
theorem dL_refusesShown_35 : decode cL_refusesShown 35 = .ok (.iconst 5, 1) := by decide +kernel
theorem dL_refusesShown_36 : decode cL_refusesShown 36 = .ok (.iload_n 2, 1) := by decide +kernel
theorem dL_refusesShown_37 : decode cL_refusesShown 37 = .ok (.iconst (-1), 1) := by decide +kernel
theorem dL_refusesShown_38 : decode cL_refusesShown 38 = .ok (.iconst 0, 1) := by decide +kernel
theorem dL_refusesShown_39 : decode cL_refusesShown 39 = .ok (.lconst 0, 1) := by decide +kernel
theorem dL_refusesShown_40 : decode cL_refusesShown 40 = .ok (.invokestatic 119, 3) := by decide +kernel
theorem dL_refusesShown_43 : decode cL_refusesShown 43 = .ok (.bipush (-11), 2) := by decide +kernel
theorem dL_refusesShown_45 : decode cL_refusesShown 45 = .ok (.if_icmp .ne 171, 3) := by decide +kernel
theorem dL_refusesShown_48 : decode cL_refusesShown 48 = .ok (.aload_n 0, 1) := by decide +kernel
theorem dL_refusesShown_49 : decode cL_refusesShown 49 = .ok (.bipush 7, 2) := by decide +kernel
theorem dL_refusesShown_51 : decode cL_refusesShown 51 = .ok (.iload_n 3, 1) := by decide +kernel
theorem dL_refusesShown_52 : decode cL_refusesShown 52 = .ok (.iconst 0, 1) := by decide +kernel
theorem dL_refusesShown_53 : decode cL_refusesShown 53 = .ok (.iconst 0, 1) := by decide +kernel
theorem dL_refusesShown_54 : decode cL_refusesShown 54 = .ok (.lconst 0, 1) := by decide +kernel
theorem dL_refusesShown_55 : decode cL_refusesShown 55 = .ok (.invokestatic 119, 3) := by decide +kernel
theorem dL_refusesShown_58 : decode cL_refusesShown 58 = .ok (.bipush (-11), 2) := by decide +kernel
theorem dL_refusesShown_60 : decode cL_refusesShown 60 = .ok (.if_icmp .ne 156, 3) := by decide +kernel
theorem dL_refusesShown_63 : decode cL_refusesShown 63 = .ok (.aload_n 0, 1) := by decide +kernel
theorem dL_refusesShown_64 : decode cL_refusesShown 64 = .ok (.bipush 7, 2) := by decide +kernel
theorem dL_refusesShown_66 : decode cL_refusesShown 66 = .ok (.iconst 0, 1) := by decide +kernel
theorem dL_refusesShown_67 : decode cL_refusesShown 67 = .ok (.iload_n 2, 1) := by decide +kernel
theorem dL_refusesShown_68 : decode cL_refusesShown 68 = .ok (.iconst 0, 1) := by decide +kernel
theorem dL_refusesShown_69 : decode cL_refusesShown 69 = .ok (.lconst 0, 1) := by decide +kernel
theorem dL_refusesShown_70 : decode cL_refusesShown 70 = .ok (.invokestatic 119, 3) := by decide +kernel
theorem dL_refusesShown_73 : decode cL_refusesShown 73 = .ok (.bipush (-11), 2) := by decide +kernel
theorem dL_refusesShown_75 : decode cL_refusesShown 75 = .ok (.if_icmp .ne 141, 3) := by decide +kernel
theorem dL_refusesShown_78 : decode cL_refusesShown 78 = .ok (.aload_n 0, 1) := by decide +kernel
theorem dL_refusesShown_79 : decode cL_refusesShown 79 = .ok (.bipush 8, 2) := by decide +kernel
theorem dL_refusesShown_81 : decode cL_refusesShown 81 = .ok (.iload_n 3, 1) := by decide +kernel
theorem dL_refusesShown_82 : decode cL_refusesShown 82 = .ok (.iconst 0, 1) := by decide +kernel
theorem dL_refusesShown_83 : decode cL_refusesShown 83 = .ok (.bipush 99, 2) := by decide +kernel
theorem dL_refusesShown_85 : decode cL_refusesShown 85 = .ok (.lconst 0, 1) := by decide +kernel
theorem dL_refusesShown_86 : decode cL_refusesShown 86 = .ok (.invokestatic 119, 3) := by decide +kernel
theorem dL_refusesShown_89 : decode cL_refusesShown 89 = .ok (.bipush (-11), 2) := by decide +kernel
theorem dL_refusesShown_91 : decode cL_refusesShown 91 = .ok (.if_icmp .ne 125, 3) := by decide +kernel
theorem dL_refusesShown_94 : decode cL_refusesShown 94 = .ok (.aload_n 0, 1) := by decide +kernel
theorem dL_refusesShown_95 : decode cL_refusesShown 95 = .ok (.bipush 8, 2) := by decide +kernel
theorem dL_refusesShown_97 : decode cL_refusesShown 97 = .ok (.iconst 0, 1) := by decide +kernel
theorem dL_refusesShown_98 : decode cL_refusesShown 98 = .ok (.iload_n 1, 1) := by decide +kernel
theorem dL_refusesShown_99 : decode cL_refusesShown 99 = .ok (.iconst 0, 1) := by decide +kernel
theorem dL_refusesShown_100 : decode cL_refusesShown 100 = .ok (.aload_n 0, 1) := by decide +kernel
theorem dL_refusesShown_101 : decode cL_refusesShown 101 = .ok (.iconst 0, 1) := by decide +kernel
theorem dL_refusesShown_102 : decode cL_refusesShown 102 = .ok (.invokevirtual 81, 3) := by decide +kernel
theorem dL_refusesShown_105 : decode cL_refusesShown 105 = .ok (.iconst 1, 1) := by decide +kernel
theorem dL_refusesShown_106 : decode cL_refusesShown 106 = .ok (.isub, 1) := by decide +kernel
theorem dL_refusesShown_107 : decode cL_refusesShown 107 = .ok (.invokestatic 114, 3) := by decide +kernel
theorem dL_refusesShown_110 : decode cL_refusesShown 110 = .ok (.bipush 99, 2) := by decide +kernel
theorem dL_refusesShown_112 : decode cL_refusesShown 112 = .ok (.lconst 0, 1) := by decide +kernel
theorem dL_refusesShown_113 : decode cL_refusesShown 113 = .ok (.invokestatic 119, 3) := by decide +kernel
theorem dL_refusesShown_116 : decode cL_refusesShown 116 = .ok (.bipush (-11), 2) := by decide +kernel
theorem dL_refusesShown_118 : decode cL_refusesShown 118 = .ok (.if_icmp .ne 98, 3) := by decide +kernel
theorem dL_refusesShown_121 : decode cL_refusesShown 121 = .ok (.aload_n 0, 1) := by decide +kernel
theorem dL_refusesShown_122 : decode cL_refusesShown 122 = .ok (.bipush 15, 2) := by decide +kernel
theorem dL_refusesShown_124 : decode cL_refusesShown 124 = .ok (.iload_n 2, 1) := by decide +kernel
theorem dL_refusesShown_125 : decode cL_refusesShown 125 = .ok (.bipush 9, 2) := by decide +kernel
theorem dL_refusesShown_127 : decode cL_refusesShown 127 = .ok (.iconst 0, 1) := by decide +kernel
theorem dL_refusesShown_128 : decode cL_refusesShown 128 = .ok (.lconst 0, 1) := by decide +kernel
theorem dL_refusesShown_129 : decode cL_refusesShown 129 = .ok (.invokestatic 119, 3) := by decide +kernel
theorem dL_refusesShown_132 : decode cL_refusesShown 132 = .ok (.bipush (-11), 2) := by decide +kernel
theorem dL_refusesShown_134 : decode cL_refusesShown 134 = .ok (.if_icmp .ne 82, 3) := by decide +kernel
theorem dL_refusesShown_137 : decode cL_refusesShown 137 = .ok (.aload_n 0, 1) := by decide +kernel
theorem dL_refusesShown_138 : decode cL_refusesShown 138 = .ok (.bipush 16, 2) := by decide +kernel
theorem dL_refusesShown_140 : decode cL_refusesShown 140 = .ok (.iload_n 2, 1) := by decide +kernel
theorem dL_refusesShown_141 : decode cL_refusesShown 141 = .ok (.bipush 9, 2) := by decide +kernel
theorem dL_refusesShown_143 : decode cL_refusesShown 143 = .ok (.iconst 0, 1) := by decide +kernel
theorem dL_refusesShown_144 : decode cL_refusesShown 144 = .ok (.lconst 0, 1) := by decide +kernel
theorem dL_refusesShown_145 : decode cL_refusesShown 145 = .ok (.invokestatic 119, 3) := by decide +kernel
theorem dL_refusesShown_148 : decode cL_refusesShown 148 = .ok (.bipush (-11), 2) := by decide +kernel
theorem dL_refusesShown_150 : decode cL_refusesShown 150 = .ok (.if_icmp .ne 66, 3) := by decide +kernel
theorem dL_refusesShown_153 : decode cL_refusesShown 153 = .ok (.aload_n 0, 1) := by decide +kernel
theorem dL_refusesShown_154 : decode cL_refusesShown 154 = .ok (.bipush 19, 2) := by decide +kernel
theorem dL_refusesShown_156 : decode cL_refusesShown 156 = .ok (.iload_n 1, 1) := by decide +kernel
theorem dL_refusesShown_157 : decode cL_refusesShown 157 = .ok (.iconst 0, 1) := by decide +kernel
theorem dL_refusesShown_158 : decode cL_refusesShown 158 = .ok (.aload_n 0, 1) := by decide +kernel
theorem dL_refusesShown_159 : decode cL_refusesShown 159 = .ok (.iconst 2, 1) := by decide +kernel
theorem dL_refusesShown_160 : decode cL_refusesShown 160 = .ok (.invokevirtual 81, 3) := by decide +kernel
theorem dL_refusesShown_163 : decode cL_refusesShown 163 = .ok (.iconst 1, 1) := by decide +kernel
theorem dL_refusesShown_164 : decode cL_refusesShown 164 = .ok (.isub, 1) := by decide +kernel
theorem dL_refusesShown_165 : decode cL_refusesShown 165 = .ok (.invokestatic 114, 3) := by decide +kernel
theorem dL_refusesShown_168 : decode cL_refusesShown 168 = .ok (.bipush 9, 2) := by decide +kernel
theorem dL_refusesShown_170 : decode cL_refusesShown 170 = .ok (.iconst 0, 1) := by decide +kernel
theorem dL_refusesShown_171 : decode cL_refusesShown 171 = .ok (.lconst 0, 1) := by decide +kernel
theorem dL_refusesShown_172 : decode cL_refusesShown 172 = .ok (.invokestatic 119, 3) := by decide +kernel
theorem dL_refusesShown_175 : decode cL_refusesShown 175 = .ok (.bipush (-11), 2) := by decide +kernel
theorem dL_refusesShown_177 : decode cL_refusesShown 177 = .ok (.if_icmp .ne 39, 3) := by decide +kernel
theorem dL_refusesShown_180 : decode cL_refusesShown 180 = .ok (.aload_n 0, 1) := by decide +kernel
theorem dL_refusesShown_181 : decode cL_refusesShown 181 = .ok (.bipush 20, 2) := by decide +kernel
theorem dL_refusesShown_183 : decode cL_refusesShown 183 = .ok (.iload_n 3, 1) := by decide +kernel
theorem dL_refusesShown_184 : decode cL_refusesShown 184 = .ok (.bipush 9, 2) := by decide +kernel
theorem dL_refusesShown_186 : decode cL_refusesShown 186 = .ok (.iconst 0, 1) := by decide +kernel
theorem dL_refusesShown_187 : decode cL_refusesShown 187 = .ok (.lconst 0, 1) := by decide +kernel
theorem dL_refusesShown_188 : decode cL_refusesShown 188 = .ok (.invokestatic 119, 3) := by decide +kernel
theorem dL_refusesShown_191 : decode cL_refusesShown 191 = .ok (.bipush (-11), 2) := by decide +kernel
theorem dL_refusesShown_193 : decode cL_refusesShown 193 = .ok (.if_icmp .ne 23, 3) := by decide +kernel
theorem dL_refusesShown_196 : decode cL_refusesShown 196 = .ok (.aload_n 0, 1) := by decide +kernel
theorem dL_refusesShown_197 : decode cL_refusesShown 197 = .ok (.bipush 20, 2) := by decide +kernel
theorem dL_refusesShown_199 : decode cL_refusesShown 199 = .ok (.iconst 2, 1) := by decide +kernel
theorem dL_refusesShown_200 : decode cL_refusesShown 200 = .ok (.iload_n 1, 1) := by decide +kernel
theorem dL_refusesShown_201 : decode cL_refusesShown 201 = .ok (.iconst 0, 1) := by decide +kernel
theorem dL_refusesShown_202 : decode cL_refusesShown 202 = .ok (.iconst 2, 1) := by decide +kernel
theorem dL_refusesShown_203 : decode cL_refusesShown 203 = .ok (.invokestatic 114, 3) := by decide +kernel
theorem dL_refusesShown_206 : decode cL_refusesShown 206 = .ok (.iconst 0, 1) := by decide +kernel
theorem dL_refusesShown_207 : decode cL_refusesShown 207 = .ok (.lconst 0, 1) := by decide +kernel
theorem dL_refusesShown_208 : decode cL_refusesShown 208 = .ok (.invokestatic 119, 3) := by decide +kernel
theorem dL_refusesShown_211 : decode cL_refusesShown 211 = .ok (.bipush (-12), 2) := by decide +kernel
theorem dL_refusesShown_213 : decode cL_refusesShown 213 = .ok (.if_icmp .eq 5, 3) := by decide +kernel
theorem dL_refusesShown_216 : decode cL_refusesShown 216 = .ok (.iconst 0, 1) := by decide +kernel
theorem dL_refusesShown_217 : decode cL_refusesShown 217 = .ok (.ireturn, 1) := by decide +kernel
theorem dL_refusesShown_218 : decode cL_refusesShown 218 = .ok (.aload_n 0, 1) := by decide +kernel
theorem dL_refusesShown_219 : decode cL_refusesShown 219 = .ok (.iconst 0, 1) := by decide +kernel
theorem dL_refusesShown_220 : decode cL_refusesShown 220 = .ok (.invokevirtual 81, 3) := by decide +kernel
theorem dL_refusesShown_223 : decode cL_refusesShown 223 = .ok (.ifCond .le 24, 3) := by decide +kernel
theorem dL_refusesShown_226 : decode cL_refusesShown 226 = .ok (.aload_n 0, 1) := by decide +kernel
theorem dL_refusesShown_227 : decode cL_refusesShown 227 = .ok (.bipush 8, 2) := by decide +kernel
theorem dL_refusesShown_229 : decode cL_refusesShown 229 = .ok (.iconst 0, 1) := by decide +kernel
theorem dL_refusesShown_230 : decode cL_refusesShown 230 = .ok (.iconst 0, 1) := by decide +kernel
theorem dL_refusesShown_231 : decode cL_refusesShown 231 = .ok (.iload_n 1, 1) := by decide +kernel
theorem dL_refusesShown_232 : decode cL_refusesShown 232 = .ok (.iconst 0, 1) := by decide +kernel
theorem dL_refusesShown_233 : decode cL_refusesShown 233 = .ok (.bipush 10, 2) := by decide +kernel
theorem dL_refusesShown_235 : decode cL_refusesShown 235 = .ok (.invokestatic 114, 3) := by decide +kernel
theorem dL_refusesShown_238 : decode cL_refusesShown 238 = .ok (.lconst 0, 1) := by decide +kernel
theorem dL_refusesShown_239 : decode cL_refusesShown 239 = .ok (.invokestatic 119, 3) := by decide +kernel
theorem dL_refusesShown_242 : decode cL_refusesShown 242 = .ok (.bipush (-12), 2) := by decide +kernel
theorem dL_refusesShown_244 : decode cL_refusesShown 244 = .ok (.if_icmp .ne 31, 3) := by decide +kernel
theorem dL_refusesShown_247 : decode cL_refusesShown 247 = .ok (.aload_n 0, 1) := by decide +kernel
theorem dL_refusesShown_248 : decode cL_refusesShown 248 = .ok (.iconst 2, 1) := by decide +kernel
theorem dL_refusesShown_249 : decode cL_refusesShown 249 = .ok (.invokevirtual 81, 3) := by decide +kernel
theorem dL_refusesShown_252 : decode cL_refusesShown 252 = .ok (.ifCond .le 25, 3) := by decide +kernel
theorem dL_refusesShown_255 : decode cL_refusesShown 255 = .ok (.aload_n 0, 1) := by decide +kernel
theorem dL_refusesShown_256 : decode cL_refusesShown 256 = .ok (.bipush 19, 2) := by decide +kernel
theorem dL_refusesShown_258 : decode cL_refusesShown 258 = .ok (.iconst 0, 1) := by decide +kernel
theorem dL_refusesShown_259 : decode cL_refusesShown 259 = .ok (.iload_n 1, 1) := by decide +kernel
theorem dL_refusesShown_260 : decode cL_refusesShown 260 = .ok (.iconst 0, 1) := by decide +kernel
theorem dL_refusesShown_261 : decode cL_refusesShown 261 = .ok (.iconst 3, 1) := by decide +kernel
theorem dL_refusesShown_262 : decode cL_refusesShown 262 = .ok (.invokestatic 114, 3) := by decide +kernel
theorem dL_refusesShown_265 : decode cL_refusesShown 265 = .ok (.iconst 0, 1) := by decide +kernel
theorem dL_refusesShown_266 : decode cL_refusesShown 266 = .ok (.lconst 0, 1) := by decide +kernel
theorem dL_refusesShown_267 : decode cL_refusesShown 267 = .ok (.invokestatic 119, 3) := by decide +kernel
theorem dL_refusesShown_270 : decode cL_refusesShown 270 = .ok (.bipush (-12), 2) := by decide +kernel
theorem dL_refusesShown_272 : decode cL_refusesShown 272 = .ok (.if_icmp .eq 5, 3) := by decide +kernel
theorem dL_refusesShown_275 : decode cL_refusesShown 275 = .ok (.iconst 0, 1) := by decide +kernel
theorem dL_refusesShown_276 : decode cL_refusesShown 276 = .ok (.ireturn, 1) := by decide +kernel
theorem dL_refusesShown_277 : decode cL_refusesShown 277 = .ok (.aload_n 0, 1) := by decide +kernel
theorem dL_refusesShown_278 : decode cL_refusesShown 278 = .ok (.iconst 1, 1) := by decide +kernel
theorem dL_refusesShown_279 : decode cL_refusesShown 279 = .ok (.invokevirtual 81, 3) := by decide +kernel
theorem dL_refusesShown_282 : decode cL_refusesShown 282 = .ok (.ifCond .eq 64, 3) := by decide +kernel
theorem dL_refusesShown_285 : decode cL_refusesShown 285 = .ok (.aload_n 0, 1) := by decide +kernel
theorem dL_refusesShown_286 : decode cL_refusesShown 286 = .ok (.iconst 5, 1) := by decide +kernel
theorem dL_refusesShown_287 : decode cL_refusesShown 287 = .ok (.iconst 0, 1) := by decide +kernel
theorem dL_refusesShown_288 : decode cL_refusesShown 288 = .ok (.iload_n 1, 1) := by decide +kernel
theorem dL_refusesShown_289 : decode cL_refusesShown 289 = .ok (.iconst 0, 1) := by decide +kernel
theorem dL_refusesShown_290 : decode cL_refusesShown 290 = .ok (.sipush 1999, 3) := by decide +kernel
theorem dL_refusesShown_293 : decode cL_refusesShown 293 = .ok (.invokestatic 114, 3) := by decide +kernel
theorem dL_refusesShown_296 : decode cL_refusesShown 296 = .ok (.iconst 0, 1) := by decide +kernel
theorem dL_refusesShown_297 : decode cL_refusesShown 297 = .ok (.lconst 0, 1) := by decide +kernel
theorem dL_refusesShown_298 : decode cL_refusesShown 298 = .ok (.invokestatic 119, 3) := by decide +kernel
theorem dL_refusesShown_301 : decode cL_refusesShown 301 = .ok (.bipush (-12), 2) := by decide +kernel
theorem dL_refusesShown_303 : decode cL_refusesShown 303 = .ok (.if_icmp .ne 47, 3) := by decide +kernel
theorem dL_refusesShown_306 : decode cL_refusesShown 306 = .ok (.aload_n 0, 1) := by decide +kernel
theorem dL_refusesShown_307 : decode cL_refusesShown 307 = .ok (.bipush 15, 2) := by decide +kernel
theorem dL_refusesShown_309 : decode cL_refusesShown 309 = .ok (.iconst 0, 1) := by decide +kernel
theorem dL_refusesShown_310 : decode cL_refusesShown 310 = .ok (.iload_n 1, 1) := by decide +kernel
theorem dL_refusesShown_311 : decode cL_refusesShown 311 = .ok (.iconst 0, 1) := by decide +kernel
theorem dL_refusesShown_312 : decode cL_refusesShown 312 = .ok (.iconst 5, 1) := by decide +kernel
theorem dL_refusesShown_313 : decode cL_refusesShown 313 = .ok (.invokestatic 114, 3) := by decide +kernel
theorem dL_refusesShown_316 : decode cL_refusesShown 316 = .ok (.iconst 0, 1) := by decide +kernel
theorem dL_refusesShown_317 : decode cL_refusesShown 317 = .ok (.lconst 0, 1) := by decide +kernel
theorem dL_refusesShown_318 : decode cL_refusesShown 318 = .ok (.invokestatic 119, 3) := by decide +kernel
theorem dL_refusesShown_321 : decode cL_refusesShown 321 = .ok (.bipush (-12), 2) := by decide +kernel
theorem dL_refusesShown_323 : decode cL_refusesShown 323 = .ok (.if_icmp .ne 27, 3) := by decide +kernel
theorem dL_refusesShown_326 : decode cL_refusesShown 326 = .ok (.aload_n 0, 1) := by decide +kernel
theorem dL_refusesShown_327 : decode cL_refusesShown 327 = .ok (.bipush 16, 2) := by decide +kernel
theorem dL_refusesShown_329 : decode cL_refusesShown 329 = .ok (.iconst 0, 1) := by decide +kernel
theorem dL_refusesShown_330 : decode cL_refusesShown 330 = .ok (.iload_n 1, 1) := by decide +kernel
theorem dL_refusesShown_331 : decode cL_refusesShown 331 = .ok (.iconst 0, 1) := by decide +kernel
theorem dL_refusesShown_332 : decode cL_refusesShown 332 = .ok (.iconst 5, 1) := by decide +kernel
theorem dL_refusesShown_333 : decode cL_refusesShown 333 = .ok (.invokestatic 114, 3) := by decide +kernel
theorem dL_refusesShown_336 : decode cL_refusesShown 336 = .ok (.iconst 0, 1) := by decide +kernel
theorem dL_refusesShown_337 : decode cL_refusesShown 337 = .ok (.lconst 0, 1) := by decide +kernel
theorem dL_refusesShown_338 : decode cL_refusesShown 338 = .ok (.invokestatic 119, 3) := by decide +kernel
theorem dL_refusesShown_341 : decode cL_refusesShown 341 = .ok (.bipush (-12), 2) := by decide +kernel
theorem dL_refusesShown_343 : decode cL_refusesShown 343 = .ok (.if_icmp .ne 7, 3) := by decide +kernel
theorem dL_refusesShown_346 : decode cL_refusesShown 346 = .ok (.iconst 1, 1) := by decide +kernel
theorem dL_refusesShown_347 : decode cL_refusesShown 347 = .ok (.goto 4, 3) := by decide +kernel
theorem dL_refusesShown_350 : decode cL_refusesShown 350 = .ok (.iconst 0, 1) := by decide +kernel
theorem dL_refusesShown_351 : decode cL_refusesShown 351 = .ok (.ireturn, 1) := by decide +kernel
theorem dL_refused_0 : decode cL_refused 0 = .ok (.aload_n 0, 1) := by decide +kernel
theorem dL_refused_1 : decode cL_refused 1 = .ok (.invokestatic 131, 3) := by decide +kernel
theorem dL_refused_4 : decode cL_refused 4 = .ok (.lstore_n 1, 1) := by decide +kernel
theorem dL_refused_5 : decode cL_refused 5 = .ok (.aload_n 0, 1) := by decide +kernel
theorem dL_refused_6 : decode cL_refused 6 = .ok (.bipush 11, 2) := by decide +kernel
theorem dL_refused_8 : decode cL_refused 8 = .ok (.invokevirtual 81, 3) := by decide +kernel
theorem dL_refused_11 : decode cL_refused 11 = .ok (.istore_n 3, 1) := by decide +kernel
theorem dL_refused_12 : decode cL_refused 12 = .ok (.iconst 0, 1) := by decide +kernel
theorem dL_refused_13 : decode cL_refused 13 = .ok (.istore 4, 2) := by decide +kernel
theorem dL_refused_15 : decode cL_refused 15 = .ok (.iload 4, 2) := by decide +kernel
theorem dL_refused_17 : decode cL_refused 17 = .ok (.iconst 4, 1) := by decide +kernel
theorem dL_refused_18 : decode cL_refused 18 = .ok (.if_icmp .ge 29, 3) := by decide +kernel
theorem dL_refused_21 : decode cL_refused 21 = .ok (.aload_n 0, 1) := by decide +kernel
theorem dL_refused_22 : decode cL_refused 22 = .ok (.iload 4, 2) := by decide +kernel
theorem dL_refused_24 : decode cL_refused 24 = .ok (.invokestatic 135, 3) := by decide +kernel
theorem dL_refused_27 : decode cL_refused 27 = .ok (.ifCond .eq 12, 3) := by decide +kernel
theorem dL_refused_30 : decode cL_refused 30 = .ok (.aload_n 0, 1) := by decide +kernel
theorem dL_refused_31 : decode cL_refused 31 = .ok (.iload 4, 2) := by decide +kernel
theorem dL_refused_33 : decode cL_refused 33 = .ok (.invokestatic 139, 3) := by decide +kernel
theorem dL_refused_36 : decode cL_refused 36 = .ok (.ifCond .ne 5, 3) := by decide +kernel
theorem dL_refused_39 : decode cL_refused 39 = .ok (.iconst 0, 1) := by decide +kernel
theorem dL_refused_40 : decode cL_refused 40 = .ok (.ireturn, 1) := by decide +kernel
theorem dL_refused_41 : decode cL_refused 41 = .ok (.iinc 4 1, 3) := by decide +kernel
theorem dL_refused_44 : decode cL_refused 44 = .ok (.goto (-29), 3) := by decide +kernel
theorem dL_refused_47 : decode cL_refused 47 = .ok (.aload_n 0, 1) := by decide +kernel
theorem dL_refused_48 : decode cL_refused 48 = .ok (.invokestatic 131, 3) := by decide +kernel
theorem dL_refused_51 : decode cL_refused 51 = .ok (.lload_n 1, 1) := by decide +kernel
theorem dL_refused_52 : decode cL_refused 52 = .ok (.lcmp, 1) := by decide +kernel
theorem dL_refused_53 : decode cL_refused 53 = .ok (.ifCond .ne 17, 3) := by decide +kernel
theorem dL_refused_56 : decode cL_refused 56 = .ok (.aload_n 0, 1) := by decide +kernel
theorem dL_refused_57 : decode cL_refused 57 = .ok (.bipush 11, 2) := by decide +kernel
theorem dL_refused_59 : decode cL_refused 59 = .ok (.invokevirtual 81, 3) := by decide +kernel
theorem dL_refused_62 : decode cL_refused 62 = .ok (.iload_n 3, 1) := by decide +kernel
theorem dL_refused_63 : decode cL_refused 63 = .ok (.if_icmp .ne 7, 3) := by decide +kernel
theorem dL_refused_66 : decode cL_refused 66 = .ok (.iconst 1, 1) := by decide +kernel
theorem dL_refused_67 : decode cL_refused 67 = .ok (.goto 4, 3) := by decide +kernel
theorem dL_refused_70 : decode cL_refused 70 = .ok (.iconst 0, 1) := by decide +kernel
theorem dL_refused_71 : decode cL_refused 71 = .ok (.ireturn, 1) := by decide +kernel
theorem dL_two_0 : decode cL_two 0 = .ok (.new 12, 3) := by decide +kernel
theorem dL_two_3 : decode cL_two 3 = .ok (.dup, 1) := by decide +kernel
theorem dL_two_4 : decode cL_two 4 = .ok (.invokespecial 142, 3) := by decide +kernel
theorem dL_two_7 : decode cL_two 7 = .ok (.astore_n 0, 1) := by decide +kernel
theorem dL_two_8 : decode cL_two 8 = .ok (.aload_n 0, 1) := by decide +kernel
theorem dL_two_9 : decode cL_two 9 = .ok (.bipush 12, 2) := by decide +kernel
theorem dL_two_11 : decode cL_two 11 = .ok (.iconst 0, 1) := by decide +kernel
theorem dL_two_12 : decode cL_two 12 = .ok (.iconst 0, 1) := by decide +kernel
theorem dL_two_13 : decode cL_two 13 = .ok (.iconst 0, 1) := by decide +kernel
theorem dL_two_14 : decode cL_two 14 = .ok (.lconst 0, 1) := by decide +kernel
theorem dL_two_15 : decode cL_two 15 = .ok (.invokestatic 119, 3) := by decide +kernel
theorem dL_two_18 : decode cL_two 18 = .ok (.bipush (-13), 2) := by decide +kernel
theorem dL_two_20 : decode cL_two 20 = .ok (.if_icmp .ne 220, 3) := by decide +kernel
theorem dL_two_23 : decode cL_two 23 = .ok (.aload_n 0, 1) := by decide +kernel
theorem dL_two_24 : decode cL_two 24 = .ok (.bipush 13, 2) := by decide +kernel
theorem dL_two_26 : decode cL_two 26 = .ok (.iconst 0, 1) := by decide +kernel
theorem dL_two_27 : decode cL_two 27 = .ok (.iconst 0, 1) := by decide +kernel
theorem dL_two_28 : decode cL_two 28 = .ok (.iconst 0, 1) := by decide +kernel
theorem dL_two_29 : decode cL_two 29 = .ok (.lconst 0, 1) := by decide +kernel
theorem dL_two_30 : decode cL_two 30 = .ok (.invokestatic 119, 3) := by decide +kernel
theorem dL_two_33 : decode cL_two 33 = .ok (.bipush (-13), 2) := by decide +kernel
theorem dL_two_35 : decode cL_two 35 = .ok (.if_icmp .ne 205, 3) := by decide +kernel
theorem dL_two_38 : decode cL_two 38 = .ok (.aload_n 0, 1) := by decide +kernel
theorem dL_two_39 : decode cL_two 39 = .ok (.bipush 6, 2) := by decide +kernel
theorem dL_two_41 : decode cL_two 41 = .ok (.invokevirtual 81, 3) := by decide +kernel
theorem dL_two_44 : decode cL_two 44 = .ok (.iconst (-1), 1) := by decide +kernel
theorem dL_two_45 : decode cL_two 45 = .ok (.if_icmp .ne 195, 3) := by decide +kernel
theorem dL_two_48 : decode cL_two 48 = .ok (.aload_n 0, 1) := by decide +kernel
theorem dL_two_49 : decode cL_two 49 = .ok (.iconst 0, 1) := by decide +kernel
theorem dL_two_50 : decode cL_two 50 = .ok (.invokevirtual 51, 3) := by decide +kernel
theorem dL_two_53 : decode cL_two 53 = .ok (.iconst (-1), 1) := by decide +kernel
theorem dL_two_54 : decode cL_two 54 = .ok (.if_icmp .ne 186, 3) := by decide +kernel
theorem dL_two_57 : decode cL_two 57 = .ok (.aload_n 0, 1) := by decide +kernel
theorem dL_two_58 : decode cL_two 58 = .ok (.iconst 0, 1) := by decide +kernel
theorem dL_two_59 : decode cL_two 59 = .ok (.iconst 4, 1) := by decide +kernel
theorem dL_two_60 : decode cL_two 60 = .ok (.invokevirtual 72, 3) := by decide +kernel
theorem dL_two_63 : decode cL_two 63 = .ok (.iconst (-1), 1) := by decide +kernel
theorem dL_two_64 : decode cL_two 64 = .ok (.if_icmp .ne 176, 3) := by decide +kernel
theorem dL_two_67 : decode cL_two 67 = .ok (.aload_n 0, 1) := by decide +kernel
theorem dL_two_68 : decode cL_two 68 = .ok (.iconst 2, 1) := by decide +kernel
theorem dL_two_69 : decode cL_two 69 = .ok (.invokevirtual 97, 3) := by decide +kernel
theorem dL_two_72 : decode cL_two 72 = .ok (.dconst 0, 1) := by decide +kernel
theorem dL_two_73 : decode cL_two 73 = .ok (.dcmp .l, 1) := by decide +kernel
theorem dL_two_74 : decode cL_two 74 = .ok (.ifCond .ne 166, 3) := by decide +kernel
theorem dL_two_77 : decode cL_two 77 = .ok (.aload_n 0, 1) := by decide +kernel
theorem dL_two_78 : decode cL_two 78 = .ok (.invokestatic 143, 3) := by decide +kernel
theorem dL_two_81 : decode cL_two 81 = .ok (.ifCond .eq 159, 3) := by decide +kernel
theorem dL_two_84 : decode cL_two 84 = .ok (.aload_n 0, 1) := by decide +kernel
theorem dL_two_85 : decode cL_two 85 = .ok (.iconst 3, 1) := by decide +kernel
theorem dL_two_86 : decode cL_two 86 = .ok (.bipush 10, 2) := by decide +kernel
theorem dL_two_88 : decode cL_two 88 = .ok (.invokevirtual 11, 3) := by decide +kernel
theorem dL_two_91 : decode cL_two 91 = .ok (.ifCond .ne 149, 3) := by decide +kernel
theorem dL_two_94 : decode cL_two 94 = .ok (.aload_n 0, 1) := by decide +kernel
theorem dL_two_95 : decode cL_two 95 = .ok (.iconst 2, 1) := by decide +kernel
theorem dL_two_96 : decode cL_two 96 = .ok (.bipush 20, 2) := by decide +kernel
theorem dL_two_98 : decode cL_two 98 = .ok (.invokevirtual 11, 3) := by decide +kernel
theorem dL_two_101 : decode cL_two 101 = .ok (.iconst 1, 1) := by decide +kernel
theorem dL_two_102 : decode cL_two 102 = .ok (.if_icmp .ne 138, 3) := by decide +kernel
theorem dL_two_105 : decode cL_two 105 = .ok (.aload_n 0, 1) := by decide +kernel
theorem dL_two_106 : decode cL_two 106 = .ok (.iconst 0, 1) := by decide +kernel
theorem dL_two_107 : decode cL_two 107 = .ok (.iconst 0, 1) := by decide +kernel
theorem dL_two_108 : decode cL_two 108 = .ok (.bipush 100, 2) := by decide +kernel
theorem dL_two_110 : decode cL_two 110 = .ok (.iconst 5, 1) := by decide +kernel
theorem dL_two_111 : decode cL_two 111 = .ok (.invokevirtual 23, 3) := by decide +kernel
theorem dL_two_114 : decode cL_two 114 = .ok (.ifCond .ne 126, 3) := by decide +kernel
theorem dL_two_117 : decode cL_two 117 = .ok (.aload_n 0, 1) := by decide +kernel
theorem dL_two_118 : decode cL_two 118 = .ok (.iconst 0, 1) := by decide +kernel
theorem dL_two_119 : decode cL_two 119 = .ok (.iconst 3, 1) := by decide +kernel
theorem dL_two_120 : decode cL_two 120 = .ok (.invokevirtual 63, 3) := by decide +kernel
theorem dL_two_123 : decode cL_two 123 = .ok (.sipush 135, 3) := by decide +kernel
theorem dL_two_126 : decode cL_two 126 = .ok (.if_icmp .ne 114, 3) := by decide +kernel
theorem dL_two_129 : decode cL_two 129 = .ok (.aload_n 0, 1) := by decide +kernel
theorem dL_two_130 : decode cL_two 130 = .ok (.iconst 0, 1) := by decide +kernel
theorem dL_two_131 : decode cL_two 131 = .ok (.iconst 1, 1) := by decide +kernel
theorem dL_two_132 : decode cL_two 132 = .ok (.invokevirtual 66, 3) := by decide +kernel
theorem dL_two_135 : decode cL_two 135 = .ok (.bipush 110, 2) := by decide +kernel
theorem dL_two_137 : decode cL_two 137 = .ok (.if_icmp .ne 103, 3) := by decide +kernel
theorem dL_two_140 : decode cL_two 140 = .ok (.aload_n 0, 1) := by decide +kernel
theorem dL_two_141 : decode cL_two 141 = .ok (.iconst 0, 1) := by decide +kernel

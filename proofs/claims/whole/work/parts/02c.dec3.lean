theorem dX3_mixPeople_32 : decode cX3_mixPeople 32 = .ok (.lload_n 3, 1) := by decide +kernel
theorem dX3_mixPeople_33 : decode cX3_mixPeople 33 = .ok (.lmul, 1) := by decide +kernel
theorem dX3_mixPeople_34 : decode cX3_mixPeople 34 = .ok (.aload_n 0, 1) := by decide +kernel
theorem dX3_mixPeople_35 : decode cX3_mixPeople 35 = .ok (.getfield 10, 3) := by decide +kernel
theorem dX3_mixPeople_38 : decode cX3_mixPeople 38 = .ok (.iload 5, 2) := by decide +kernel
theorem dX3_mixPeople_40 : decode cX3_mixPeople 40 = .ok (.iload 6, 2) := by decide +kernel
theorem dX3_mixPeople_42 : decode cX3_mixPeople 42 = .ok (.invokevirtual 210, 3) := by decide +kernel
theorem dX3_mixPeople_45 : decode cX3_mixPeople 45 = .ok (.i2l, 1) := by decide +kernel
theorem dX3_mixPeople_46 : decode cX3_mixPeople 46 = .ok (.ladd, 1) := by decide +kernel
theorem dX3_mixPeople_47 : decode cX3_mixPeople 47 = .ok (.lstore_n 3, 1) := by decide +kernel
theorem dX3_mixPeople_48 : decode cX3_mixPeople 48 = .ok (.iinc 6 1, 3) := by decide +kernel
theorem dX3_mixPeople_51 : decode cX3_mixPeople 51 = .ok (.goto (-28), 3) := by decide +kernel
theorem dX3_mixPeople_54 : decode cX3_mixPeople 54 = .ok (.iinc 5 1, 3) := by decide +kernel
theorem dX3_mixPeople_57 : decode cX3_mixPeople 57 = .ok (.goto (-52), 3) := by decide +kernel
theorem dX3_mixPeople_60 : decode cX3_mixPeople 60 = .ok (.iconst 0, 1) := by decide +kernel
theorem dX3_mixPeople_61 : decode cX3_mixPeople 61 = .ok (.istore 5, 2) := by decide +kernel
theorem dX3_mixPeople_63 : decode cX3_mixPeople 63 = .ok (.iload 5, 2) := by decide +kernel
theorem dX3_mixPeople_65 : decode cX3_mixPeople 65 = .ok (.iconst 3, 1) := by decide +kernel
theorem dX3_mixPeople_66 : decode cX3_mixPeople 66 = .ok (.if_icmp .ge 43, 3) := by decide +kernel
theorem dX3_mixPeople_69 : decode cX3_mixPeople 69 = .ok (.iconst 0, 1) := by decide +kernel
theorem dX3_mixPeople_70 : decode cX3_mixPeople 70 = .ok (.istore 6, 2) := by decide +kernel
theorem dX3_mixPeople_72 : decode cX3_mixPeople 72 = .ok (.iload 6, 2) := by decide +kernel
theorem dX3_mixPeople_74 : decode cX3_mixPeople 74 = .ok (.iconst 2, 1) := by decide +kernel
theorem dX3_mixPeople_75 : decode cX3_mixPeople 75 = .ok (.if_icmp .gt 28, 3) := by decide +kernel
theorem dX3_mixPeople_78 : decode cX3_mixPeople 78 = .ok (.ldc2_w 240, 3) := by decide +kernel
theorem dX3_mixPeople_81 : decode cX3_mixPeople 81 = .ok (.lload_n 3, 1) := by decide +kernel
theorem dX3_mixPeople_82 : decode cX3_mixPeople 82 = .ok (.lmul, 1) := by decide +kernel
theorem dX3_mixPeople_83 : decode cX3_mixPeople 83 = .ok (.aload_n 0, 1) := by decide +kernel
theorem dX3_mixPeople_84 : decode cX3_mixPeople 84 = .ok (.getfield 10, 3) := by decide +kernel
theorem dX3_mixPeople_87 : decode cX3_mixPeople 87 = .ok (.iload 5, 2) := by decide +kernel
theorem dX3_mixPeople_89 : decode cX3_mixPeople 89 = .ok (.iload 6, 2) := by decide +kernel
theorem dX3_mixPeople_91 : decode cX3_mixPeople 91 = .ok (.invokevirtual 213, 3) := by decide +kernel
theorem dX3_mixPeople_94 : decode cX3_mixPeople 94 = .ok (.i2l, 1) := by decide +kernel
theorem dX3_mixPeople_95 : decode cX3_mixPeople 95 = .ok (.ladd, 1) := by decide +kernel
theorem dX3_mixPeople_96 : decode cX3_mixPeople 96 = .ok (.lstore_n 3, 1) := by decide +kernel
theorem dX3_mixPeople_97 : decode cX3_mixPeople 97 = .ok (.iinc 6 1, 3) := by decide +kernel
theorem dX3_mixPeople_100 : decode cX3_mixPeople 100 = .ok (.goto (-28), 3) := by decide +kernel
theorem dX3_mixPeople_103 : decode cX3_mixPeople 103 = .ok (.iinc 5 1, 3) := by decide +kernel
theorem dX3_mixPeople_106 : decode cX3_mixPeople 106 = .ok (.goto (-43), 3) := by decide +kernel
theorem dX3_mixPeople_109 : decode cX3_mixPeople 109 = .ok (.lload_n 3, 1) := by decide +kernel
theorem dX3_mixPeople_110 : decode cX3_mixPeople 110 = .ok (.lreturn, 1) := by decide +kernel
theorem dX3_mixTexts_0 : decode cX3_mixTexts 0 = .ok (.lload_n 1, 1) := by decide +kernel
theorem dX3_mixTexts_1 : decode cX3_mixTexts 1 = .ok (.lstore_n 3, 1) := by decide +kernel
theorem dX3_mixTexts_2 : decode cX3_mixTexts 2 = .ok (.iconst 0, 1) := by decide +kernel
theorem dX3_mixTexts_3 : decode cX3_mixTexts 3 = .ok (.istore 5, 2) := by decide +kernel
theorem dX3_mixTexts_5 : decode cX3_mixTexts 5 = .ok (.iload 5, 2) := by decide +kernel
theorem dX3_mixTexts_7 : decode cX3_mixTexts 7 = .ok (.iconst 2, 1) := by decide +kernel
theorem dX3_mixTexts_8 : decode cX3_mixTexts 8 = .ok (.if_icmp .gt 26, 3) := by decide +kernel
theorem dX3_mixTexts_11 : decode cX3_mixTexts 11 = .ok (.ldc2_w 240, 3) := by decide +kernel
theorem dX3_mixTexts_14 : decode cX3_mixTexts 14 = .ok (.lload_n 3, 1) := by decide +kernel
theorem dX3_mixTexts_15 : decode cX3_mixTexts 15 = .ok (.lmul, 1) := by decide +kernel
theorem dX3_mixTexts_16 : decode cX3_mixTexts 16 = .ok (.aload_n 0, 1) := by decide +kernel
theorem dX3_mixTexts_17 : decode cX3_mixTexts 17 = .ok (.getfield 10, 3) := by decide +kernel
theorem dX3_mixTexts_20 : decode cX3_mixTexts 20 = .ok (.iload 5, 2) := by decide +kernel
theorem dX3_mixTexts_22 : decode cX3_mixTexts 22 = .ok (.invokevirtual 175, 3) := by decide +kernel
theorem dX3_mixTexts_25 : decode cX3_mixTexts 25 = .ok (.i2l, 1) := by decide +kernel
theorem dX3_mixTexts_26 : decode cX3_mixTexts 26 = .ok (.ladd, 1) := by decide +kernel
theorem dX3_mixTexts_27 : decode cX3_mixTexts 27 = .ok (.lstore_n 3, 1) := by decide +kernel
theorem dX3_mixTexts_28 : decode cX3_mixTexts 28 = .ok (.iinc 5 1, 3) := by decide +kernel
theorem dX3_mixTexts_31 : decode cX3_mixTexts 31 = .ok (.goto (-26), 3) := by decide +kernel
theorem dX3_mixTexts_34 : decode cX3_mixTexts 34 = .ok (.ldc2_w 240, 3) := by decide +kernel
theorem dX3_mixTexts_37 : decode cX3_mixTexts 37 = .ok (.lload_n 3, 1) := by decide +kernel
theorem dX3_mixTexts_38 : decode cX3_mixTexts 38 = .ok (.lmul, 1) := by decide +kernel
theorem dX3_mixTexts_39 : decode cX3_mixTexts 39 = .ok (.aload_n 0, 1) := by decide +kernel
theorem dX3_mixTexts_40 : decode cX3_mixTexts 40 = .ok (.getfield 155, 3) := by decide +kernel
theorem dX3_mixTexts_43 : decode cX3_mixTexts 43 = .ok (.i2l, 1) := by decide +kernel
theorem dX3_mixTexts_44 : decode cX3_mixTexts 44 = .ok (.ladd, 1) := by decide +kernel
theorem dX3_mixTexts_45 : decode cX3_mixTexts 45 = .ok (.lstore_n 3, 1) := by decide +kernel
theorem dX3_mixTexts_46 : decode cX3_mixTexts 46 = .ok (.iconst 0, 1) := by decide +kernel
theorem dX3_mixTexts_47 : decode cX3_mixTexts 47 = .ok (.istore 5, 2) := by decide +kernel
theorem dX3_mixTexts_49 : decode cX3_mixTexts 49 = .ok (.iload 5, 2) := by decide +kernel
theorem dX3_mixTexts_51 : decode cX3_mixTexts 51 = .ok (.aload_n 0, 1) := by decide +kernel
theorem dX3_mixTexts_52 : decode cX3_mixTexts 52 = .ok (.getfield 155, 3) := by decide +kernel
theorem dX3_mixTexts_55 : decode cX3_mixTexts 55 = .ok (.if_icmp .ge 34, 3) := by decide +kernel
theorem dX3_mixTexts_58 : decode cX3_mixTexts 58 = .ok (.iload 5, 2) := by decide +kernel
theorem dX3_mixTexts_60 : decode cX3_mixTexts 60 = .ok (.aload_n 0, 1) := by decide +kernel
theorem dX3_mixTexts_61 : decode cX3_mixTexts 61 = .ok (.getfield 30, 3) := by decide +kernel
theorem dX3_mixTexts_64 : decode cX3_mixTexts 64 = .ok (.arraylength, 1) := by decide +kernel
theorem dX3_mixTexts_65 : decode cX3_mixTexts 65 = .ok (.if_icmp .ge 24, 3) := by decide +kernel
theorem dX3_mixTexts_68 : decode cX3_mixTexts 68 = .ok (.ldc2_w 240, 3) := by decide +kernel
theorem dX3_mixTexts_71 : decode cX3_mixTexts 71 = .ok (.lload_n 3, 1) := by decide +kernel
theorem dX3_mixTexts_72 : decode cX3_mixTexts 72 = .ok (.lmul, 1) := by decide +kernel
theorem dX3_mixTexts_73 : decode cX3_mixTexts 73 = .ok (.aload_n 0, 1) := by decide +kernel
theorem dX3_mixTexts_74 : decode cX3_mixTexts 74 = .ok (.getfield 30, 3) := by decide +kernel
theorem dX3_mixTexts_77 : decode cX3_mixTexts 77 = .ok (.iload 5, 2) := by decide +kernel
theorem dX3_mixTexts_79 : decode cX3_mixTexts 79 = .ok (.iaload, 1) := by decide +kernel
theorem dX3_mixTexts_80 : decode cX3_mixTexts 80 = .ok (.i2l, 1) := by decide +kernel
theorem dX3_mixTexts_81 : decode cX3_mixTexts 81 = .ok (.ladd, 1) := by decide +kernel
theorem dX3_mixTexts_82 : decode cX3_mixTexts 82 = .ok (.lstore_n 3, 1) := by decide +kernel
theorem dX3_mixTexts_83 : decode cX3_mixTexts 83 = .ok (.iinc 5 1, 3) := by decide +kernel
theorem dX3_mixTexts_86 : decode cX3_mixTexts 86 = .ok (.goto (-37), 3) := by decide +kernel
theorem dX3_mixTexts_89 : decode cX3_mixTexts 89 = .ok (.lload_n 3, 1) := by decide +kernel
theorem dX3_mixTexts_90 : decode cX3_mixTexts 90 = .ok (.lreturn, 1) := by decide +kernel
theorem dX3_bitsOf_0 : decode cX3_bitsOf 0 = .ok (.dload_n 0, 1) := by decide +kernel
theorem dX3_bitsOf_1 : decode cX3_bitsOf 1 = .ok (.dconst 0, 1) := by decide +kernel
theorem dX3_bitsOf_2 : decode cX3_bitsOf 2 = .ok (.dcmp .g, 1) := by decide +kernel
theorem dX3_bitsOf_3 : decode cX3_bitsOf 3 = .ok (.ifCond .gt 5, 3) := by decide +kernel
theorem dX3_bitsOf_6 : decode cX3_bitsOf 6 = .ok (.lconst 0, 1) := by decide +kernel
theorem dX3_bitsOf_7 : decode cX3_bitsOf 7 = .ok (.lreturn, 1) := by decide +kernel
theorem dX3_bitsOf_8 : decode cX3_bitsOf 8 = .ok (.dload_n 0, 1) := by decide +kernel
theorem dX3_bitsOf_9 : decode cX3_bitsOf 9 = .ok (.dstore_n 2, 1) := by decide +kernel
theorem dX3_bitsOf_10 : decode cX3_bitsOf 10 = .ok (.ldc2_w 262, 3) := by decide +kernel
theorem dX3_bitsOf_13 : decode cX3_bitsOf 13 = .ok (.lstore 4, 2) := by decide +kernel
theorem dX3_bitsOf_15 : decode cX3_bitsOf 15 = .ok (.iconst 0, 1) := by decide +kernel
theorem dX3_bitsOf_16 : decode cX3_bitsOf 16 = .ok (.istore 6, 2) := by decide +kernel
theorem dX3_bitsOf_18 : decode cX3_bitsOf 18 = .ok (.iload 6, 2) := by decide +kernel
theorem dX3_bitsOf_20 : decode cX3_bitsOf 20 = .ok (.bipush 64, 2) := by decide +kernel
theorem dX3_bitsOf_22 : decode cX3_bitsOf 22 = .ok (.if_icmp .ge 27, 3) := by decide +kernel
theorem dX3_bitsOf_25 : decode cX3_bitsOf 25 = .ok (.dload_n 2, 1) := by decide +kernel
theorem dX3_bitsOf_26 : decode cX3_bitsOf 26 = .ok (.dconst 1, 1) := by decide +kernel
theorem dX3_bitsOf_27 : decode cX3_bitsOf 27 = .ok (.dcmp .g, 1) := by decide +kernel
theorem dX3_bitsOf_28 : decode cX3_bitsOf 28 = .ok (.ifCond .ge 21, 3) := by decide +kernel
theorem dX3_bitsOf_31 : decode cX3_bitsOf 31 = .ok (.dload_n 2, 1) := by decide +kernel
theorem dX3_bitsOf_32 : decode cX3_bitsOf 32 = .ok (.ldc2_w 264, 3) := by decide +kernel
theorem dX3_bitsOf_35 : decode cX3_bitsOf 35 = .ok (.dmul, 1) := by decide +kernel
theorem dX3_bitsOf_36 : decode cX3_bitsOf 36 = .ok (.dstore_n 2, 1) := by decide +kernel
theorem dX3_bitsOf_37 : decode cX3_bitsOf 37 = .ok (.lload 4, 2) := by decide +kernel
theorem dX3_bitsOf_39 : decode cX3_bitsOf 39 = .ok (.lconst 1, 1) := by decide +kernel
theorem dX3_bitsOf_40 : decode cX3_bitsOf 40 = .ok (.lsub, 1) := by decide +kernel
theorem dX3_bitsOf_41 : decode cX3_bitsOf 41 = .ok (.lstore 4, 2) := by decide +kernel
theorem dX3_bitsOf_43 : decode cX3_bitsOf 43 = .ok (.iinc 6 1, 3) := by decide +kernel
theorem dX3_bitsOf_46 : decode cX3_bitsOf 46 = .ok (.goto (-28), 3) := by decide +kernel
theorem dX3_bitsOf_49 : decode cX3_bitsOf 49 = .ok (.dload_n 2, 1) := by decide +kernel
theorem dX3_bitsOf_50 : decode cX3_bitsOf 50 = .ok (.dconst 1, 1) := by decide +kernel
theorem dX3_bitsOf_51 : decode cX3_bitsOf 51 = .ok (.dsub, 1) := by decide +kernel
theorem dX3_bitsOf_52 : decode cX3_bitsOf 52 = .ok (.ldc2_w 266, 3) := by decide +kernel
theorem dX3_bitsOf_55 : decode cX3_bitsOf 55 = .ok (.dmul, 1) := by decide +kernel
theorem dX3_bitsOf_56 : decode cX3_bitsOf 56 = .ok (.d2l, 1) := by decide +kernel
theorem dX3_bitsOf_57 : decode cX3_bitsOf 57 = .ok (.lstore 6, 2) := by decide +kernel
theorem dX3_bitsOf_59 : decode cX3_bitsOf 59 = .ok (.lload 4, 2) := by decide +kernel
theorem dX3_bitsOf_61 : decode cX3_bitsOf 61 = .ok (.bipush 52, 2) := by decide +kernel
theorem dX3_bitsOf_63 : decode cX3_bitsOf 63 = .ok (.lshl, 1) := by decide +kernel
theorem dX3_bitsOf_64 : decode cX3_bitsOf 64 = .ok (.lload 6, 2) := by decide +kernel
theorem dX3_bitsOf_66 : decode cX3_bitsOf 66 = .ok (.lor, 1) := by decide +kernel
theorem dX3_bitsOf_67 : decode cX3_bitsOf 67 = .ok (.lreturn, 1) := by decide +kernel
theorem dX3_countNumber_0 : decode cX3_countNumber 0 = .ok (.iload_n 1, 1) := by decide +kernel
theorem dX3_countNumber_1 : decode cX3_countNumber 1 = .ok (.tableswitch 133 0 11 #[63, 74, 85, 96, 104, 112, 120, 133, 133, 133, 133, 128], 63) := by decide +kernel
theorem dX3_countNumber_64 : decode cX3_countNumber 64 = .ok (.aload_n 0, 1) := by decide +kernel
theorem dX3_countNumber_65 : decode cX3_countNumber 65 = .ok (.getfield 10, 3) := by decide +kernel
theorem dX3_countNumber_68 : decode cX3_countNumber 68 = .ok (.getfield 42, 3) := by decide +kernel
theorem dX3_countNumber_71 : decode cX3_countNumber 71 = .ok (.getfield 46, 3) := by decide +kernel
theorem dX3_countNumber_74 : decode cX3_countNumber 74 = .ok (.ireturn, 1) := by decide +kernel
theorem dX3_countNumber_75 : decode cX3_countNumber 75 = .ok (.aload_n 0, 1) := by decide +kernel
theorem dX3_countNumber_76 : decode cX3_countNumber 76 = .ok (.getfield 10, 3) := by decide +kernel
theorem dX3_countNumber_79 : decode cX3_countNumber 79 = .ok (.getfield 108, 3) := by decide +kernel
theorem dX3_countNumber_82 : decode cX3_countNumber 82 = .ok (.getfield 46, 3) := by decide +kernel
theorem dX3_countNumber_85 : decode cX3_countNumber 85 = .ok (.ireturn, 1) := by decide +kernel
theorem dX3_countNumber_86 : decode cX3_countNumber 86 = .ok (.aload_n 0, 1) := by decide +kernel
theorem dX3_countNumber_87 : decode cX3_countNumber 87 = .ok (.getfield 10, 3) := by decide +kernel
theorem dX3_countNumber_90 : decode cX3_countNumber 90 = .ok (.getfield 121, 3) := by decide +kernel
theorem dX3_countNumber_93 : decode cX3_countNumber 93 = .ok (.getfield 46, 3) := by decide +kernel
theorem dX3_countNumber_96 : decode cX3_countNumber 96 = .ok (.ireturn, 1) := by decide +kernel
theorem dX3_countNumber_97 : decode cX3_countNumber 97 = .ok (.aload_n 0, 1) := by decide +kernel
theorem dX3_countNumber_98 : decode cX3_countNumber 98 = .ok (.getfield 10, 3) := by decide +kernel
theorem dX3_countNumber_101 : decode cX3_countNumber 101 = .ok (.invokevirtual 268, 3) := by decide +kernel
theorem dX3_countNumber_104 : decode cX3_countNumber 104 = .ok (.ireturn, 1) := by decide +kernel
theorem dX3_countNumber_105 : decode cX3_countNumber 105 = .ok (.aload_n 0, 1) := by decide +kernel
theorem dX3_countNumber_106 : decode cX3_countNumber 106 = .ok (.getfield 10, 3) := by decide +kernel
theorem dX3_countNumber_109 : decode cX3_countNumber 109 = .ok (.invokevirtual 271, 3) := by decide +kernel
theorem dX3_countNumber_112 : decode cX3_countNumber 112 = .ok (.ireturn, 1) := by decide +kernel
theorem dX3_countNumber_113 : decode cX3_countNumber 113 = .ok (.aload_n 0, 1) := by decide +kernel
theorem dX3_countNumber_114 : decode cX3_countNumber 114 = .ok (.getfield 10, 3) := by decide +kernel
theorem dX3_countNumber_117 : decode cX3_countNumber 117 = .ok (.getfield 274, 3) := by decide +kernel
theorem dX3_countNumber_120 : decode cX3_countNumber 120 = .ok (.ireturn, 1) := by decide +kernel
theorem dX3_countNumber_121 : decode cX3_countNumber 121 = .ok (.aload_n 0, 1) := by decide +kernel
theorem dX3_countNumber_122 : decode cX3_countNumber 122 = .ok (.getfield 10, 3) := by decide +kernel
theorem dX3_countNumber_125 : decode cX3_countNumber 125 = .ok (.invokevirtual 277, 3) := by decide +kernel
theorem dX3_countNumber_128 : decode cX3_countNumber 128 = .ok (.ireturn, 1) := by decide +kernel
theorem dX3_countNumber_129 : decode cX3_countNumber 129 = .ok (.aload_n 0, 1) := by decide +kernel
theorem dX3_countNumber_130 : decode cX3_countNumber 130 = .ok (.getfield 178, 3) := by decide +kernel
theorem dX3_countNumber_133 : decode cX3_countNumber 133 = .ok (.ireturn, 1) := by decide +kernel
theorem dX3_countNumber_134 : decode cX3_countNumber 134 = .ok (.aload_n 0, 1) := by decide +kernel
theorem dX3_countNumber_135 : decode cX3_countNumber 135 = .ok (.getfield 10, 3) := by decide +kernel
theorem dX3_countNumber_138 : decode cX3_countNumber 138 = .ok (.getfield 82, 3) := by decide +kernel
theorem dX3_countNumber_141 : decode cX3_countNumber 141 = .ok (.iload_n 1, 1) := by decide +kernel
theorem dX3_countNumber_142 : decode cX3_countNumber 142 = .ok (.bipush 7, 2) := by decide +kernel
theorem dX3_countNumber_144 : decode cX3_countNumber 144 = .ok (.isub, 1) := by decide +kernel
theorem dX3_countNumber_145 : decode cX3_countNumber 145 = .ok (.iconst 0, 1) := by decide +kernel
theorem dX3_countNumber_146 : decode cX3_countNumber 146 = .ok (.invokevirtual 111, 3) := by decide +kernel
theorem dX3_countNumber_149 : decode cX3_countNumber 149 = .ok (.ireturn, 1) := by decide +kernel
theorem dX3_requireFilm_0 : decode cX3_requireFilm 0 = .ok (.iload_n 1, 1) := by decide +kernel
theorem dX3_requireFilm_1 : decode cX3_requireFilm 1 = .ok (.iconst 0, 1) := by decide +kernel
theorem dX3_requireFilm_2 : decode cX3_requireFilm 2 = .ok (.aload_n 0, 1) := by decide +kernel
theorem dX3_requireFilm_3 : decode cX3_requireFilm 3 = .ok (.getfield 10, 3) := by decide +kernel
theorem dX3_requireFilm_6 : decode cX3_requireFilm 6 = .ok (.getfield 42, 3) := by decide +kernel
theorem dX3_requireFilm_9 : decode cX3_requireFilm 9 = .ok (.getfield 46, 3) := by decide +kernel
theorem dX3_requireFilm_12 : decode cX3_requireFilm 12 = .ok (.iconst 1, 1) := by decide +kernel
theorem dX3_requireFilm_13 : decode cX3_requireFilm 13 = .ok (.isub, 1) := by decide +kernel
theorem dX3_requireFilm_14 : decode cX3_requireFilm 14 = .ok (.invokestatic 34, 3) := by decide +kernel
theorem dX3_requireFilm_17 : decode cX3_requireFilm 17 = .ok (.ifCond .ne 14, 3) := by decide +kernel
theorem dX3_requireFilm_20 : decode cX3_requireFilm 20 = .ok (.new 77, 3) := by decide +kernel
theorem dX3_requireFilm_23 : decode cX3_requireFilm 23 = .ok (.dup, 1) := by decide +kernel
theorem dX3_requireFilm_24 : decode cX3_requireFilm 24 = .ok (.ldc_w 280, 3) := by decide +kernel
theorem dX3_requireFilm_27 : decode cX3_requireFilm 27 = .ok (.invokespecial 81, 3) := by decide +kernel
theorem dX3_requireFilm_30 : decode cX3_requireFilm 30 = .ok (.athrow, 1) := by decide +kernel
theorem dX3_requireFilm_31 : decode cX3_requireFilm 31 = .ok (.return_, 1) := by decide +kernel
theorem dX3_requireShowing_0 : decode cX3_requireShowing 0 = .ok (.iload_n 1, 1) := by decide +kernel
theorem dX3_requireShowing_1 : decode cX3_requireShowing 1 = .ok (.iconst 0, 1) := by decide +kernel
theorem dX3_requireShowing_2 : decode cX3_requireShowing 2 = .ok (.aload_n 0, 1) := by decide +kernel
theorem dX3_requireShowing_3 : decode cX3_requireShowing 3 = .ok (.getfield 10, 3) := by decide +kernel
theorem dX3_requireShowing_6 : decode cX3_requireShowing 6 = .ok (.getfield 108, 3) := by decide +kernel
theorem dX3_requireShowing_9 : decode cX3_requireShowing 9 = .ok (.getfield 46, 3) := by decide +kernel
theorem dX3_requireShowing_12 : decode cX3_requireShowing 12 = .ok (.iconst 1, 1) := by decide +kernel
theorem dX3_requireShowing_13 : decode cX3_requireShowing 13 = .ok (.isub, 1) := by decide +kernel
theorem dX3_requireShowing_14 : decode cX3_requireShowing 14 = .ok (.invokestatic 34, 3) := by decide +kernel
theorem dX3_requireShowing_17 : decode cX3_requireShowing 17 = .ok (.ifCond .ne 14, 3) := by decide +kernel
theorem dX3_requireShowing_20 : decode cX3_requireShowing 20 = .ok (.new 77, 3) := by decide +kernel
theorem dX3_requireShowing_23 : decode cX3_requireShowing 23 = .ok (.dup, 1) := by decide +kernel
theorem dX3_requireShowing_24 : decode cX3_requireShowing 24 = .ok (.ldc_w 282, 3) := by decide +kernel
theorem dX3_requireShowing_27 : decode cX3_requireShowing 27 = .ok (.invokespecial 81, 3) := by decide +kernel
theorem dX3_requireShowing_30 : decode cX3_requireShowing 30 = .ok (.athrow, 1) := by decide +kernel
theorem dX3_requireShowing_31 : decode cX3_requireShowing 31 = .ok (.return_, 1) := by decide +kernel
theorem dX3_requireScreen_0 : decode cX3_requireScreen 0 = .ok (.iload_n 0, 1) := by decide +kernel
theorem dX3_requireScreen_1 : decode cX3_requireScreen 1 = .ok (.iconst 0, 1) := by decide +kernel
theorem dX3_requireScreen_2 : decode cX3_requireScreen 2 = .ok (.iconst 2, 1) := by decide +kernel
theorem dX3_requireScreen_3 : decode cX3_requireScreen 3 = .ok (.invokestatic 34, 3) := by decide +kernel
theorem dX3_requireScreen_6 : decode cX3_requireScreen 6 = .ok (.ifCond .ne 14, 3) := by decide +kernel
theorem dX3_requireScreen_9 : decode cX3_requireScreen 9 = .ok (.new 77, 3) := by decide +kernel
theorem dX3_requireScreen_12 : decode cX3_requireScreen 12 = .ok (.dup, 1) := by decide +kernel
theorem dX3_requireScreen_13 : decode cX3_requireScreen 13 = .ok (.ldc_w 284, 3) := by decide +kernel
theorem dX3_requireScreen_16 : decode cX3_requireScreen 16 = .ok (.invokespecial 81, 3) := by decide +kernel
theorem dX3_requireScreen_19 : decode cX3_requireScreen 19 = .ok (.athrow, 1) := by decide +kernel
theorem dX3_requireScreen_20 : decode cX3_requireScreen 20 = .ok (.return_, 1) := by decide +kernel
theorem dX3_requireJuror_0 : decode cX3_requireJuror 0 = .ok (.iload_n 0, 1) := by decide +kernel
theorem dX3_requireJuror_1 : decode cX3_requireJuror 1 = .ok (.iconst 0, 1) := by decide +kernel
theorem dX3_requireJuror_2 : decode cX3_requireJuror 2 = .ok (.iconst 2, 1) := by decide +kernel
theorem dX3_requireJuror_3 : decode cX3_requireJuror 3 = .ok (.invokestatic 34, 3) := by decide +kernel
theorem dX3_requireJuror_6 : decode cX3_requireJuror 6 = .ok (.ifCond .ne 14, 3) := by decide +kernel
theorem dX3_requireJuror_9 : decode cX3_requireJuror 9 = .ok (.new 77, 3) := by decide +kernel
theorem dX3_requireJuror_12 : decode cX3_requireJuror 12 = .ok (.dup, 1) := by decide +kernel
theorem dX3_requireJuror_13 : decode cX3_requireJuror 13 = .ok (.ldc_w 286, 3) := by decide +kernel
theorem dX3_requireJuror_16 : decode cX3_requireJuror 16 = .ok (.invokespecial 81, 3) := by decide +kernel
theorem dX3_requireJuror_19 : decode cX3_requireJuror 19 = .ok (.athrow, 1) := by decide +kernel
theorem dX3_requireJuror_20 : decode cX3_requireJuror 20 = .ok (.return_, 1) := by decide +kernel
theorem dX3_requireMinute_0 : decode cX3_requireMinute 0 = .ok (.iload_n 0, 1) := by decide +kernel
theorem dX3_requireMinute_1 : decode cX3_requireMinute 1 = .ok (.iconst 0, 1) := by decide +kernel
theorem dX3_requireMinute_2 : decode cX3_requireMinute 2 = .ok (.sipush 1999, 3) := by decide +kernel
theorem dX3_requireMinute_5 : decode cX3_requireMinute 5 = .ok (.invokestatic 34, 3) := by decide +kernel
theorem dX3_requireMinute_8 : decode cX3_requireMinute 8 = .ok (.invokestatic 38, 3) := by decide +kernel
theorem dX3_requireMinute_11 : decode cX3_requireMinute 11 = .ok (.return_, 1) := by decide +kernel
theorem dX3_requireWhat_0 : decode cX3_requireWhat 0 = .ok (.iload_n 0, 1) := by decide +kernel
theorem dX3_requireWhat_1 : decode cX3_requireWhat 1 = .ok (.iconst 0, 1) := by decide +kernel
theorem dX3_requireWhat_2 : decode cX3_requireWhat 2 = .ok (.iload_n 1, 1) := by decide +kernel
theorem dX3_requireWhat_3 : decode cX3_requireWhat 3 = .ok (.invokestatic 34, 3) := by decide +kernel
theorem dX3_requireWhat_6 : decode cX3_requireWhat 6 = .ok (.invokestatic 38, 3) := by decide +kernel
theorem dX3_requireWhat_9 : decode cX3_requireWhat 9 = .ok (.return_, 1) := by decide +kernel
theorem dX3_requireArgument_0 : decode cX3_requireArgument 0 = .ok (.iload_n 0, 1) := by decide +kernel
theorem dX3_requireArgument_1 : decode cX3_requireArgument 1 = .ok (.ifCond .ne 14, 3) := by decide +kernel
theorem dX3_requireArgument_4 : decode cX3_requireArgument 4 = .ok (.new 288, 3) := by decide +kernel
theorem dX3_requireArgument_7 : decode cX3_requireArgument 7 = .ok (.dup, 1) := by decide +kernel
theorem dX3_requireArgument_8 : decode cX3_requireArgument 8 = .ok (.ldc_w 290, 3) := by decide +kernel
theorem dX3_requireArgument_11 : decode cX3_requireArgument 11 = .ok (.invokespecial 292, 3) := by decide +kernel
theorem dX3_requireArgument_14 : decode cX3_requireArgument 14 = .ok (.athrow, 1) := by decide +kernel
theorem dX3_requireArgument_15 : decode cX3_requireArgument 15 = .ok (.return_, 1) := by decide +kernel
theorem dX3_requireNotRefused_0 : decode cX3_requireNotRefused 0 = .ok (.iload_n 0, 1) := by decide +kernel
theorem dX3_requireNotRefused_1 : decode cX3_requireNotRefused 1 = .ok (.ifCond .eq 14, 3) := by decide +kernel
theorem dX3_requireNotRefused_4 : decode cX3_requireNotRefused 4 = .ok (.new 52, 3) := by decide +kernel
theorem dX3_requireNotRefused_7 : decode cX3_requireNotRefused 7 = .ok (.dup, 1) := by decide +kernel
theorem dX3_requireNotRefused_8 : decode cX3_requireNotRefused 8 = .ok (.ldc_w 293, 3) := by decide +kernel
theorem dX3_requireNotRefused_11 : decode cX3_requireNotRefused 11 = .ok (.invokespecial 56, 3) := by decide +kernel
theorem dX3_requireNotRefused_14 : decode cX3_requireNotRefused 14 = .ok (.athrow, 1) := by decide +kernel
theorem dX3_requireNotRefused_15 : decode cX3_requireNotRefused 15 = .ok (.return_, 1) := by decide +kernel
theorem dX3_isWithin_0 : decode cX3_isWithin 0 = .ok (.iload_n 0, 1) := by decide +kernel
theorem dX3_isWithin_1 : decode cX3_isWithin 1 = .ok (.iload_n 1, 1) := by decide +kernel
theorem dX3_isWithin_2 : decode cX3_isWithin 2 = .ok (.if_icmp .lt 12, 3) := by decide +kernel
theorem dX3_isWithin_5 : decode cX3_isWithin 5 = .ok (.iload_n 0, 1) := by decide +kernel
theorem dX3_isWithin_6 : decode cX3_isWithin 6 = .ok (.iload_n 2, 1) := by decide +kernel
theorem dX3_isWithin_7 : decode cX3_isWithin 7 = .ok (.if_icmp .gt 7, 3) := by decide +kernel
theorem dX3_isWithin_10 : decode cX3_isWithin 10 = .ok (.iconst 1, 1) := by decide +kernel
theorem dX3_isWithin_11 : decode cX3_isWithin 11 = .ok (.goto 4, 3) := by decide +kernel
theorem dX3_isWithin_14 : decode cX3_isWithin 14 = .ok (.iconst 0, 1) := by decide +kernel
theorem dX3_isWithin_15 : decode cX3_isWithin 15 = .ok (.ireturn, 1) := by decide +kernel
theorem dX3_hasBit_0 : decode cX3_hasBit 0 = .ok (.iload_n 0, 1) := by decide +kernel
theorem dX3_hasBit_1 : decode cX3_hasBit 1 = .ok (.iload_n 1, 1) := by decide +kernel
theorem dX3_hasBit_2 : decode cX3_hasBit 2 = .ok (.ishr, 1) := by decide +kernel
theorem dX3_hasBit_3 : decode cX3_hasBit 3 = .ok (.iconst 1, 1) := by decide +kernel
theorem dX3_hasBit_4 : decode cX3_hasBit 4 = .ok (.iand, 1) := by decide +kernel
theorem dX3_hasBit_5 : decode cX3_hasBit 5 = .ok (.iconst 1, 1) := by decide +kernel
theorem dX3_hasBit_6 : decode cX3_hasBit 6 = .ok (.if_icmp .ne 7, 3) := by decide +kernel
theorem dX3_hasBit_9 : decode cX3_hasBit 9 = .ok (.iconst 1, 1) := by decide +kernel
theorem dX3_hasBit_10 : decode cX3_hasBit 10 = .ok (.goto 4, 3) := by decide +kernel
theorem dX3_hasBit_13 : decode cX3_hasBit 13 = .ok (.iconst 0, 1) := by decide +kernel
theorem dX3_hasBit_14 : decode cX3_hasBit 14 = .ok (.ireturn, 1) := by decide +kernel
theorem dX3_save_0 : decode cX3_save 0 = .ok (.aload_n 0, 1) := by decide +kernel
theorem dX3_save_1 : decode cX3_save 1 = .ok (.getfield 178, 3) := by decide +kernel
theorem dX3_save_4 : decode cX3_save 4 = .ok (.aload_n 0, 1) := by decide +kernel
theorem dX3_save_5 : decode cX3_save 5 = .ok (.getfield 19, 3) := by decide +kernel
theorem dX3_save_8 : decode cX3_save 8 = .ok (.arraylength, 1) := by decide +kernel
theorem dX3_save_9 : decode cX3_save 9 = .ok (.if_icmp .lt 7, 3) := by decide +kernel
theorem dX3_save_12 : decode cX3_save 12 = .ok (.aload_n 0, 1) := by decide +kernel
theorem dX3_save_13 : decode cX3_save 13 = .ok (.invokevirtual 295, 3) := by decide +kernel
theorem dX3_save_16 : decode cX3_save 16 = .ok (.aload_n 0, 1) := by decide +kernel
theorem dX3_save_17 : decode cX3_save 17 = .ok (.getfield 178, 3) := by decide +kernel
theorem dX3_save_20 : decode cX3_save 20 = .ok (.ifCond .lt 41, 3) := by decide +kernel
theorem dX3_save_23 : decode cX3_save 23 = .ok (.aload_n 0, 1) := by decide +kernel
theorem dX3_save_24 : decode cX3_save 24 = .ok (.getfield 178, 3) := by decide +kernel
theorem dX3_save_27 : decode cX3_save 27 = .ok (.aload_n 0, 1) := by decide +kernel
theorem dX3_save_28 : decode cX3_save 28 = .ok (.getfield 19, 3) := by decide +kernel
theorem dX3_save_31 : decode cX3_save 31 = .ok (.arraylength, 1) := by decide +kernel
theorem dX3_save_32 : decode cX3_save 32 = .ok (.if_icmp .ge 29, 3) := by decide +kernel
theorem dX3_save_35 : decode cX3_save 35 = .ok (.aload_n 0, 1) := by decide +kernel
theorem dX3_save_36 : decode cX3_save 36 = .ok (.getfield 10, 3) := by decide +kernel
theorem dX3_save_39 : decode cX3_save 39 = .ok (.aload_n 0, 1) := by decide +kernel
theorem dX3_save_40 : decode cX3_save 40 = .ok (.getfield 19, 3) := by decide +kernel
theorem dX3_save_43 : decode cX3_save 43 = .ok (.aload_n 0, 1) := by decide +kernel
theorem dX3_save_44 : decode cX3_save 44 = .ok (.getfield 178, 3) := by decide +kernel
theorem dX3_save_47 : decode cX3_save 47 = .ok (.aaload, 1) := by decide +kernel
theorem dX3_save_48 : decode cX3_save 48 = .ok (.invokestatic 183, 3) := by decide +kernel
theorem dX3_save_51 : decode cX3_save 51 = .ok (.aload_n 0, 1) := by decide +kernel
theorem dX3_save_52 : decode cX3_save 52 = .ok (.dup, 1) := by decide +kernel
theorem dX3_save_53 : decode cX3_save 53 = .ok (.getfield 178, 3) := by decide +kernel
theorem dX3_save_56 : decode cX3_save 56 = .ok (.iconst 1, 1) := by decide +kernel
theorem dX3_save_57 : decode cX3_save 57 = .ok (.iadd, 1) := by decide +kernel
theorem dX3_save_58 : decode cX3_save 58 = .ok (.putfield 178, 3) := by decide +kernel
theorem dX3_save_61 : decode cX3_save 61 = .ok (.return_, 1) := by decide +kernel
theorem dX3_dropOldest_0 : decode cX3_dropOldest 0 = .ok (.aload_n 0, 1) := by decide +kernel
theorem dX3_dropOldest_1 : decode cX3_dropOldest 1 = .ok (.getfield 19, 3) := by decide +kernel
theorem dX3_dropOldest_4 : decode cX3_dropOldest 4 = .ok (.arraylength, 1) := by decide +kernel
theorem dX3_dropOldest_5 : decode cX3_dropOldest 5 = .ok (.ifCond .ne 4, 3) := by decide +kernel
theorem dX3_dropOldest_8 : decode cX3_dropOldest 8 = .ok (.return_, 1) := by decide +kernel
theorem dX3_dropOldest_9 : decode cX3_dropOldest 9 = .ok (.aload_n 0, 1) := by decide +kernel
theorem dX3_dropOldest_10 : decode cX3_dropOldest 10 = .ok (.getfield 19, 3) := by decide +kernel
theorem dX3_dropOldest_13 : decode cX3_dropOldest 13 = .ok (.iconst 0, 1) := by decide +kernel
theorem dX3_dropOldest_14 : decode cX3_dropOldest 14 = .ok (.aaload, 1) := by decide +kernel
theorem dX3_dropOldest_15 : decode cX3_dropOldest 15 = .ok (.astore_n 1, 1) := by decide +kernel
theorem dX3_dropOldest_16 : decode cX3_dropOldest 16 = .ok (.iconst 1, 1) := by decide +kernel
theorem dX3_dropOldest_17 : decode cX3_dropOldest 17 = .ok (.istore_n 2, 1) := by decide +kernel
theorem dX3_dropOldest_18 : decode cX3_dropOldest 18 = .ok (.iload_n 2, 1) := by decide +kernel
theorem dX3_dropOldest_19 : decode cX3_dropOldest 19 = .ok (.aload_n 0, 1) := by decide +kernel
theorem dX3_dropOldest_20 : decode cX3_dropOldest 20 = .ok (.getfield 19, 3) := by decide +kernel
theorem dX3_dropOldest_23 : decode cX3_dropOldest 23 = .ok (.arraylength, 1) := by decide +kernel
theorem dX3_dropOldest_24 : decode cX3_dropOldest 24 = .ok (.if_icmp .ge 23, 3) := by decide +kernel
theorem dX3_dropOldest_27 : decode cX3_dropOldest 27 = .ok (.aload_n 0, 1) := by decide +kernel
theorem dX3_dropOldest_28 : decode cX3_dropOldest 28 = .ok (.getfield 19, 3) := by decide +kernel
theorem dX3_dropOldest_31 : decode cX3_dropOldest 31 = .ok (.iload_n 2, 1) := by decide +kernel
theorem dX3_dropOldest_32 : decode cX3_dropOldest 32 = .ok (.iconst 1, 1) := by decide +kernel
theorem dX3_dropOldest_33 : decode cX3_dropOldest 33 = .ok (.isub, 1) := by decide +kernel
theorem dX3_dropOldest_34 : decode cX3_dropOldest 34 = .ok (.aload_n 0, 1) := by decide +kernel
theorem dX3_dropOldest_35 : decode cX3_dropOldest 35 = .ok (.getfield 19, 3) := by decide +kernel
theorem dX3_dropOldest_38 : decode cX3_dropOldest 38 = .ok (.iload_n 2, 1) := by decide +kernel
theorem dX3_dropOldest_39 : decode cX3_dropOldest 39 = .ok (.aaload, 1) := by decide +kernel
theorem dX3_dropOldest_40 : decode cX3_dropOldest 40 = .ok (.aastore, 1) := by decide +kernel
theorem dX3_dropOldest_41 : decode cX3_dropOldest 41 = .ok (.iinc 2 1, 3) := by decide +kernel
theorem dX3_dropOldest_44 : decode cX3_dropOldest 44 = .ok (.goto (-26), 3) := by decide +kernel
theorem dX3_dropOldest_47 : decode cX3_dropOldest 47 = .ok (.aload_n 0, 1) := by decide +kernel
theorem dX3_dropOldest_48 : decode cX3_dropOldest 48 = .ok (.getfield 19, 3) := by decide +kernel
theorem dX3_dropOldest_51 : decode cX3_dropOldest 51 = .ok (.aload_n 0, 1) := by decide +kernel
theorem dX3_dropOldest_52 : decode cX3_dropOldest 52 = .ok (.getfield 19, 3) := by decide +kernel
theorem dX3_dropOldest_55 : decode cX3_dropOldest 55 = .ok (.arraylength, 1) := by decide +kernel
theorem dX3_dropOldest_56 : decode cX3_dropOldest 56 = .ok (.iconst 1, 1) := by decide +kernel
theorem dX3_dropOldest_57 : decode cX3_dropOldest 57 = .ok (.isub, 1) := by decide +kernel
theorem dX3_dropOldest_58 : decode cX3_dropOldest 58 = .ok (.aload_n 1, 1) := by decide +kernel
theorem dX3_dropOldest_59 : decode cX3_dropOldest 59 = .ok (.aastore, 1) := by decide +kernel
theorem dX3_dropOldest_60 : decode cX3_dropOldest 60 = .ok (.aload_n 0, 1) := by decide +kernel
theorem dX3_dropOldest_61 : decode cX3_dropOldest 61 = .ok (.aload_n 0, 1) := by decide +kernel
theorem dX3_dropOldest_62 : decode cX3_dropOldest 62 = .ok (.getfield 19, 3) := by decide +kernel
theorem dX3_dropOldest_65 : decode cX3_dropOldest 65 = .ok (.arraylength, 1) := by decide +kernel
theorem dX3_dropOldest_66 : decode cX3_dropOldest 66 = .ok (.iconst 1, 1) := by decide +kernel
theorem dX3_dropOldest_67 : decode cX3_dropOldest 67 = .ok (.isub, 1) := by decide +kernel
theorem dX3_dropOldest_68 : decode cX3_dropOldest 68 = .ok (.putfield 178, 3) := by decide +kernel
theorem dX3_dropOldest_71 : decode cX3_dropOldest 71 = .ok (.return_, 1) := by decide +kernel
theorem dX3_copyState_0 : decode cX3_copyState 0 = .ok (.aload_n 0, 1) := by decide +kernel
theorem dX3_copyState_1 : decode cX3_copyState 1 = .ok (.ifnull 12, 3) := by decide +kernel
theorem dX3_copyState_4 : decode cX3_copyState 4 = .ok (.aload_n 1, 1) := by decide +kernel
theorem dX3_copyState_5 : decode cX3_copyState 5 = .ok (.ifnull 8, 3) := by decide +kernel
theorem dX3_copyState_8 : decode cX3_copyState 8 = .ok (.aload_n 1, 1) := by decide +kernel
theorem dX3_copyState_9 : decode cX3_copyState 9 = .ok (.aload_n 0, 1) := by decide +kernel
theorem dX3_copyState_10 : decode cX3_copyState 10 = .ok (.invokevirtual 298, 3) := by decide +kernel
theorem dX3_copyState_13 : decode cX3_copyState 13 = .ok (.return_, 1) := by decide +kernel
theorem dX3_readBuffer_0 : decode cX3_readBuffer 0 = .ok (.aload_n 0, 1) := by decide +kernel
theorem dX3_readBuffer_1 : decode cX3_readBuffer 1 = .ok (.getfield 26, 3) := by decide +kernel
theorem dX3_readBuffer_4 : decode cX3_readBuffer 4 = .ok (.invokevirtual 302, 3) := by decide +kernel
theorem dX3_readBuffer_7 : decode cX3_readBuffer 7 = .ok (.iconst 0, 1) := by decide +kernel
theorem dX3_readBuffer_8 : decode cX3_readBuffer 8 = .ok (.istore_n 1, 1) := by decide +kernel
theorem dX3_readBuffer_9 : decode cX3_readBuffer 9 = .ok (.iload_n 1, 1) := by decide +kernel
theorem dX3_readBuffer_10 : decode cX3_readBuffer 10 = .ok (.aload_n 0, 1) := by decide +kernel
theorem dX3_readBuffer_11 : decode cX3_readBuffer 11 = .ok (.getfield 155, 3) := by decide +kernel
theorem dX3_readBuffer_14 : decode cX3_readBuffer 14 = .ok (.if_icmp .ge 36, 3) := by decide +kernel
theorem dX3_readBuffer_17 : decode cX3_readBuffer 17 = .ok (.iload_n 1, 1) := by decide +kernel
theorem dX3_readBuffer_18 : decode cX3_readBuffer 18 = .ok (.aload_n 0, 1) := by decide +kernel
theorem dX3_readBuffer_19 : decode cX3_readBuffer 19 = .ok (.getfield 30, 3) := by decide +kernel
theorem dX3_readBuffer_22 : decode cX3_readBuffer 22 = .ok (.arraylength, 1) := by decide +kernel
theorem dX3_readBuffer_23 : decode cX3_readBuffer 23 = .ok (.if_icmp .ge 27, 3) := by decide +kernel
theorem dX3_readBuffer_26 : decode cX3_readBuffer 26 = .ok (.aload_n 0, 1) := by decide +kernel
theorem dX3_readBuffer_27 : decode cX3_readBuffer 27 = .ok (.getfield 26, 3) := by decide +kernel
theorem dX3_readBuffer_30 : decode cX3_readBuffer 30 = .ok (.aload_n 0, 1) := by decide +kernel
theorem dX3_readBuffer_31 : decode cX3_readBuffer 31 = .ok (.getfield 30, 3) := by decide +kernel
theorem dX3_readBuffer_34 : decode cX3_readBuffer 34 = .ok (.iload_n 1, 1) := by decide +kernel
theorem dX3_readBuffer_35 : decode cX3_readBuffer 35 = .ok (.iaload, 1) := by decide +kernel
theorem dX3_readBuffer_36 : decode cX3_readBuffer 36 = .ok (.invokevirtual 305, 3) := by decide +kernel
theorem dX3_readBuffer_39 : decode cX3_readBuffer 39 = .ok (.ifCond .ne 5, 3) := by decide +kernel
theorem dX3_readBuffer_42 : decode cX3_readBuffer 42 = .ok (.iload_n 1, 1) := by decide +kernel
theorem dX3_readBuffer_43 : decode cX3_readBuffer 43 = .ok (.ireturn, 1) := by decide +kernel
theorem dX3_readBuffer_44 : decode cX3_readBuffer 44 = .ok (.iinc 1 1, 3) := by decide +kernel
theorem dX3_readBuffer_47 : decode cX3_readBuffer 47 = .ok (.goto (-38), 3) := by decide +kernel
theorem dX3_readBuffer_50 : decode cX3_readBuffer 50 = .ok (.aload_n 0, 1) := by decide +kernel
theorem dX3_readBuffer_51 : decode cX3_readBuffer 51 = .ok (.getfield 155, 3) := by decide +kernel
theorem dX3_readBuffer_54 : decode cX3_readBuffer 54 = .ok (.ireturn, 1) := by decide +kernel
theorem dX3_makeShowings_0 : decode cX3_makeShowings 0 = .ok (.aload_n 0, 1) := by decide +kernel
theorem dX3_makeShowings_1 : decode cX3_makeShowings 1 = .ok (.getfield 10, 3) := by decide +kernel
theorem dX3_makeShowings_4 : decode cX3_makeShowings 4 = .ok (.iconst (-1), 1) := by decide +kernel
theorem dX3_makeShowings_5 : decode cX3_makeShowings 5 = .ok (.iconst (-1), 1) := by decide +kernel
theorem dX3_makeShowings_6 : decode cX3_makeShowings 6 = .ok (.iconst (-1), 1) := by decide +kernel
theorem dX3_makeShowings_7 : decode cX3_makeShowings 7 = .ok (.invokevirtual 309, 3) := by decide +kernel
theorem dX3_makeShowings_10 : decode cX3_makeShowings 10 = .ok (.aload_n 0, 1) := by decide +kernel
theorem dX3_makeShowings_11 : decode cX3_makeShowings 11 = .ok (.getfield 26, 3) := by decide +kernel
theorem dX3_makeShowings_14 : decode cX3_makeShowings 14 = .ok (.invokevirtual 302, 3) := by decide +kernel
theorem dX3_makeShowings_17 : decode cX3_makeShowings 17 = .ok (.iconst 0, 1) := by decide +kernel
theorem dX3_makeShowings_18 : decode cX3_makeShowings 18 = .ok (.istore_n 1, 1) := by decide +kernel
theorem dX3_makeShowings_19 : decode cX3_makeShowings 19 = .ok (.iconst 0, 1) := by decide +kernel
theorem dX3_makeShowings_20 : decode cX3_makeShowings 20 = .ok (.istore_n 2, 1) := by decide +kernel
theorem dX3_makeShowings_21 : decode cX3_makeShowings 21 = .ok (.iload_n 2, 1) := by decide +kernel
theorem dX3_makeShowings_22 : decode cX3_makeShowings 22 = .ok (.aload_n 0, 1) := by decide +kernel
theorem dX3_makeShowings_23 : decode cX3_makeShowings 23 = .ok (.getfield 155, 3) := by decide +kernel
theorem dX3_makeShowings_26 : decode cX3_makeShowings 26 = .ok (.if_icmp .gt 87, 3) := by decide +kernel
theorem dX3_makeShowings_29 : decode cX3_makeShowings 29 = .ok (.iload_n 2, 1) := by decide +kernel
theorem dX3_makeShowings_30 : decode cX3_makeShowings 30 = .ok (.aload_n 0, 1) := by decide +kernel
theorem dX3_makeShowings_31 : decode cX3_makeShowings 31 = .ok (.getfield 30, 3) := by decide +kernel
theorem dX3_makeShowings_34 : decode cX3_makeShowings 34 = .ok (.arraylength, 1) := by decide +kernel
theorem dX3_makeShowings_35 : decode cX3_makeShowings 35 = .ok (.if_icmp .gt 78, 3) := by decide +kernel
theorem dX3_makeShowings_38 : decode cX3_makeShowings 38 = .ok (.iload_n 2, 1) := by decide +kernel
theorem dX3_makeShowings_39 : decode cX3_makeShowings 39 = .ok (.aload_n 0, 1) := by decide +kernel
theorem dX3_makeShowings_40 : decode cX3_makeShowings 40 = .ok (.getfield 155, 3) := by decide +kernel
theorem dX3_makeShowings_43 : decode cX3_makeShowings 43 = .ok (.if_icmp .ge 12, 3) := by decide +kernel
theorem dX3_makeShowings_46 : decode cX3_makeShowings 46 = .ok (.iload_n 2, 1) := by decide +kernel
theorem dX3_makeShowings_47 : decode cX3_makeShowings 47 = .ok (.aload_n 0, 1) := by decide +kernel
theorem dX3_makeShowings_48 : decode cX3_makeShowings 48 = .ok (.getfield 30, 3) := by decide +kernel
theorem dX3_makeShowings_51 : decode cX3_makeShowings 51 = .ok (.arraylength, 1) := by decide +kernel
theorem dX3_makeShowings_52 : decode cX3_makeShowings 52 = .ok (.if_icmp .lt 7, 3) := by decide +kernel
theorem dX3_makeShowings_55 : decode cX3_makeShowings 55 = .ok (.iconst 1, 1) := by decide +kernel
theorem dX3_makeShowings_56 : decode cX3_makeShowings 56 = .ok (.goto 4, 3) := by decide +kernel
theorem dX3_makeShowings_59 : decode cX3_makeShowings 59 = .ok (.iconst 0, 1) := by decide +kernel
theorem dX3_makeShowings_60 : decode cX3_makeShowings 60 = .ok (.istore_n 3, 1) := by decide +kernel
theorem dX3_makeShowings_61 : decode cX3_makeShowings 61 = .ok (.iload_n 3, 1) := by decide +kernel
theorem dX3_makeShowings_62 : decode cX3_makeShowings 62 = .ok (.ifCond .ne 14, 3) := by decide +kernel
theorem dX3_makeShowings_65 : decode cX3_makeShowings 65 = .ok (.aload_n 0, 1) := by decide +kernel
theorem dX3_makeShowings_66 : decode cX3_makeShowings 66 = .ok (.getfield 30, 3) := by decide +kernel
theorem dX3_makeShowings_69 : decode cX3_makeShowings 69 = .ok (.iload_n 2, 1) := by decide +kernel
theorem dX3_makeShowings_70 : decode cX3_makeShowings 70 = .ok (.iaload, 1) := by decide +kernel
theorem dX3_makeShowings_71 : decode cX3_makeShowings 71 = .ok (.bipush 59, 2) := by decide +kernel
theorem dX3_makeShowings_73 : decode cX3_makeShowings 73 = .ok (.if_icmp .ne 16, 3) := by decide +kernel
theorem dX3_makeShowings_76 : decode cX3_makeShowings 76 = .ok (.aload_n 0, 1) := by decide +kernel
theorem dX3_makeShowings_77 : decode cX3_makeShowings 77 = .ok (.iload_n 1, 1) := by decide +kernel
theorem dX3_makeShowings_78 : decode cX3_makeShowings 78 = .ok (.invokevirtual 313, 3) := by decide +kernel
theorem dX3_makeShowings_81 : decode cX3_makeShowings 81 = .ok (.ifCond .ne 5, 3) := by decide +kernel
theorem dX3_makeShowings_84 : decode cX3_makeShowings 84 = .ok (.iload_n 1, 1) := by decide +kernel
theorem dX3_makeShowings_85 : decode cX3_makeShowings 85 = .ok (.ireturn, 1) := by decide +kernel
theorem dX3_makeShowings_86 : decode cX3_makeShowings 86 = .ok (.iinc 1 1, 3) := by decide +kernel
theorem dX3_makeShowings_89 : decode cX3_makeShowings 89 = .ok (.iload_n 3, 1) := by decide +kernel
theorem dX3_makeShowings_90 : decode cX3_makeShowings 90 = .ok (.ifCond .ne 17, 3) := by decide +kernel
theorem dX3_makeShowings_93 : decode cX3_makeShowings 93 = .ok (.aload_n 0, 1) := by decide +kernel
theorem dX3_makeShowings_94 : decode cX3_makeShowings 94 = .ok (.getfield 26, 3) := by decide +kernel
theorem dX3_makeShowings_97 : decode cX3_makeShowings 97 = .ok (.aload_n 0, 1) := by decide +kernel
theorem dX3_makeShowings_98 : decode cX3_makeShowings 98 = .ok (.getfield 30, 3) := by decide +kernel
theorem dX3_makeShowings_101 : decode cX3_makeShowings 101 = .ok (.iload_n 2, 1) := by decide +kernel
theorem dX3_makeShowings_102 : decode cX3_makeShowings 102 = .ok (.iaload, 1) := by decide +kernel
theorem dX3_makeShowings_103 : decode cX3_makeShowings 103 = .ok (.invokevirtual 305, 3) := by decide +kernel
theorem dX3_makeShowings_106 : decode cX3_makeShowings 106 = .ok (.pop, 1) := by decide +kernel
theorem dX3_makeShowings_107 : decode cX3_makeShowings 107 = .ok (.iinc 2 1, 3) := by decide +kernel
theorem dX3_makeShowings_110 : decode cX3_makeShowings 110 = .ok (.goto (-89), 3) := by decide +kernel
theorem dX3_makeShowings_113 : decode cX3_makeShowings 113 = .ok (.iload_n 1, 1) := by decide +kernel
theorem dX3_makeShowings_114 : decode cX3_makeShowings 114 = .ok (.ireturn, 1) := by decide +kernel
theorem dX3_makePart_0 : decode cX3_makePart 0 = .ok (.aload_n 0, 1) := by decide +kernel
theorem dX3_makePart_1 : decode cX3_makePart 1 = .ok (.getfield 26, 3) := by decide +kernel
theorem dX3_makePart_4 : decode cX3_makePart 4 = .ok (.getfield 316, 3) := by decide +kernel
theorem dX3_makePart_7 : decode cX3_makePart 7 = .ok (.aload_n 0, 1) := by decide +kernel
theorem dX3_makePart_8 : decode cX3_makePart 8 = .ok (.getfield 10, 3) := by decide +kernel
theorem dX3_makePart_11 : decode cX3_makePart 11 = .ok (.getfield 42, 3) := by decide +kernel
theorem dX3_makePart_14 : decode cX3_makePart 14 = .ok (.getfield 46, 3) := by decide +kernel
theorem dX3_makePart_17 : decode cX3_makePart 17 = .ok (.if_icmp .lt 15, 3) := by decide +kernel
theorem dX3_makePart_20 : decode cX3_makePart 20 = .ok (.aload_n 0, 1) := by decide +kernel
theorem dX3_makePart_21 : decode cX3_makePart 21 = .ok (.getfield 10, 3) := by decide +kernel
theorem dX3_makePart_24 : decode cX3_makePart 24 = .ok (.iload_n 1, 1) := by decide +kernel
theorem dX3_makePart_25 : decode cX3_makePart 25 = .ok (.iconst 5, 1) := by decide +kernel
theorem dX3_makePart_26 : decode cX3_makePart 26 = .ok (.iconst (-1), 1) := by decide +kernel
theorem dX3_makePart_27 : decode cX3_makePart 27 = .ok (.invokevirtual 309, 3) := by decide +kernel
theorem dX3_makePart_30 : decode cX3_makePart 30 = .ok (.iconst 0, 1) := by decide +kernel
theorem dX3_makePart_31 : decode cX3_makePart 31 = .ok (.ireturn, 1) := by decide +kernel
theorem dX3_makePart_32 : decode cX3_makePart 32 = .ok (.aload_n 0, 1) := by decide +kernel
theorem dX3_makePart_33 : decode cX3_makePart 33 = .ok (.getfield 10, 3) := by decide +kernel
theorem dX3_makePart_36 : decode cX3_makePart 36 = .ok (.aload_n 0, 1) := by decide +kernel
theorem dX3_makePart_37 : decode cX3_makePart 37 = .ok (.getfield 26, 3) := by decide +kernel
theorem dX3_makePart_40 : decode cX3_makePart 40 = .ok (.getfield 316, 3) := by decide +kernel
theorem dX3_makePart_43 : decode cX3_makePart 43 = .ok (.aload_n 0, 1) := by decide +kernel
theorem dX3_makePart_44 : decode cX3_makePart 44 = .ok (.getfield 26, 3) := by decide +kernel
theorem dX3_makePart_47 : decode cX3_makePart 47 = .ok (.getfield 319, 3) := by decide +kernel
theorem dX3_makePart_50 : decode cX3_makePart 50 = .ok (.aload_n 0, 1) := by decide +kernel
theorem dX3_makePart_51 : decode cX3_makePart 51 = .ok (.getfield 26, 3) := by decide +kernel
theorem dX3_makePart_54 : decode cX3_makePart 54 = .ok (.getfield 322, 3) := by decide +kernel
theorem dX3_makePart_57 : decode cX3_makePart 57 = .ok (.aload_n 0, 1) := by decide +kernel
theorem dX3_makePart_58 : decode cX3_makePart 58 = .ok (.getfield 26, 3) := by decide +kernel
theorem dX3_makePart_61 : decode cX3_makePart 61 = .ok (.getfield 325, 3) := by decide +kernel
theorem dX3_makePart_64 : decode cX3_makePart 64 = .ok (.invokevirtual 91, 3) := by decide +kernel
theorem dX3_makePart_67 : decode cX3_makePart 67 = .ok (.istore_n 2, 1) := by decide +kernel
theorem dX3_makePart_68 : decode cX3_makePart 68 = .ok (.iload_n 2, 1) := by decide +kernel
theorem dX3_makePart_69 : decode cX3_makePart 69 = .ok (.ifCond .eq 50, 3) := by decide +kernel
theorem dX3_makePart_72 : decode cX3_makePart 72 = .ok (.aload_n 0, 1) := by decide +kernel
theorem dX3_makePart_73 : decode cX3_makePart 73 = .ok (.getfield 10, 3) := by decide +kernel
theorem dX3_makePart_76 : decode cX3_makePart 76 = .ok (.iload_n 1, 1) := by decide +kernel
theorem dX3_makePart_77 : decode cX3_makePart 77 = .ok (.iload_n 2, 1) := by decide +kernel
theorem dX3_makePart_78 : decode cX3_makePart 78 = .ok (.aload_n 0, 1) := by decide +kernel
theorem dX3_makePart_79 : decode cX3_makePart 79 = .ok (.getfield 10, 3) := by decide +kernel
theorem dX3_makePart_82 : decode cX3_makePart 82 = .ok (.aload_n 0, 1) := by decide +kernel
theorem dX3_makePart_83 : decode cX3_makePart 83 = .ok (.getfield 26, 3) := by decide +kernel
theorem dX3_makePart_86 : decode cX3_makePart 86 = .ok (.getfield 316, 3) := by decide +kernel
theorem dX3_makePart_89 : decode cX3_makePart 89 = .ok (.aload_n 0, 1) := by decide +kernel
theorem dX3_makePart_90 : decode cX3_makePart 90 = .ok (.getfield 26, 3) := by decide +kernel
theorem dX3_makePart_93 : decode cX3_makePart 93 = .ok (.getfield 319, 3) := by decide +kernel
theorem dX3_makePart_96 : decode cX3_makePart 96 = .ok (.aload_n 0, 1) := by decide +kernel
theorem dX3_makePart_97 : decode cX3_makePart 97 = .ok (.getfield 26, 3) := by decide +kernel
theorem dX3_makePart_100 : decode cX3_makePart 100 = .ok (.getfield 322, 3) := by decide +kernel
theorem dX3_makePart_103 : decode cX3_makePart 103 = .ok (.aload_n 0, 1) := by decide +kernel
theorem dX3_makePart_104 : decode cX3_makePart 104 = .ok (.getfield 26, 3) := by decide +kernel
theorem dX3_makePart_107 : decode cX3_makePart 107 = .ok (.getfield 325, 3) := by decide +kernel
theorem dX3_makePart_110 : decode cX3_makePart 110 = .ok (.iload_n 2, 1) := by decide +kernel
theorem dX3_makePart_111 : decode cX3_makePart 111 = .ok (.invokevirtual 219, 3) := by decide +kernel
theorem dX3_makePart_114 : decode cX3_makePart 114 = .ok (.invokevirtual 309, 3) := by decide +kernel
theorem dX3_makePart_117 : decode cX3_makePart 117 = .ok (.iconst 0, 1) := by decide +kernel
theorem dX3_makePart_118 : decode cX3_makePart 118 = .ok (.ireturn, 1) := by decide +kernel
theorem dX3_makePart_119 : decode cX3_makePart 119 = .ok (.aload_n 0, 1) := by decide +kernel
theorem dX3_makePart_120 : decode cX3_makePart 120 = .ok (.getfield 10, 3) := by decide +kernel
theorem dX3_makePart_123 : decode cX3_makePart 123 = .ok (.aload_n 0, 1) := by decide +kernel
theorem dX3_makePart_124 : decode cX3_makePart 124 = .ok (.getfield 26, 3) := by decide +kernel
theorem dX3_makePart_127 : decode cX3_makePart 127 = .ok (.getfield 316, 3) := by decide +kernel
theorem dX3_makePart_130 : decode cX3_makePart 130 = .ok (.aload_n 0, 1) := by decide +kernel
theorem dX3_makePart_131 : decode cX3_makePart 131 = .ok (.getfield 26, 3) := by decide +kernel
theorem dX3_makePart_134 : decode cX3_makePart 134 = .ok (.getfield 319, 3) := by decide +kernel
theorem dX3_makePart_137 : decode cX3_makePart 137 = .ok (.aload_n 0, 1) := by decide +kernel
theorem dX3_makePart_138 : decode cX3_makePart 138 = .ok (.getfield 26, 3) := by decide +kernel
theorem dX3_makePart_141 : decode cX3_makePart 141 = .ok (.getfield 322, 3) := by decide +kernel
theorem dX3_makePart_144 : decode cX3_makePart 144 = .ok (.aload_n 0, 1) := by decide +kernel
theorem dX3_makePart_145 : decode cX3_makePart 145 = .ok (.getfield 26, 3) := by decide +kernel
theorem dX3_makePart_148 : decode cX3_makePart 148 = .ok (.getfield 325, 3) := by decide +kernel
theorem dX3_makePart_151 : decode cX3_makePart 151 = .ok (.invokevirtual 98, 3) := by decide +kernel
theorem dX3_makePart_154 : decode cX3_makePart 154 = .ok (.pop, 1) := by decide +kernel
theorem dX3_makePart_155 : decode cX3_makePart 155 = .ok (.iconst 1, 1) := by decide +kernel
theorem dX3_makePart_156 : decode cX3_makePart 156 = .ok (.ireturn, 1) := by decide +kernel
theorem dX4_init_0 : decode cX4_init 0 = .ok (.aload_n 0, 1) := by decide +kernel
theorem dX4_init_1 : decode cX4_init 1 = .ok (.invokespecial 1, 3) := by decide +kernel
theorem dX4_init_4 : decode cX4_init 4 = .ok (.aload_n 0, 1) := by decide +kernel
theorem dX4_init_5 : decode cX4_init 5 = .ok (.sipush 132, 3) := by decide +kernel
theorem dX4_init_8 : decode cX4_init 8 = .ok (.newarray .int, 2) := by decide +kernel
theorem dX4_init_10 : decode cX4_init 10 = .ok (.putfield 7, 3) := by decide +kernel
theorem dX4_init_13 : decode cX4_init 13 = .ok (.aload_n 0, 1) := by decide +kernel
theorem dX4_init_14 : decode cX4_init 14 = .ok (.sipush 792, 3) := by decide +kernel
theorem dX4_init_17 : decode cX4_init 17 = .ok (.newarray .int, 2) := by decide +kernel
theorem dX4_init_19 : decode cX4_init 19 = .ok (.putfield 13, 3) := by decide +kernel
theorem dX4_init_22 : decode cX4_init 22 = .ok (.aload_n 0, 1) := by decide +kernel
theorem dX4_init_23 : decode cX4_init 23 = .ok (.sipush 132, 3) := by decide +kernel
theorem dX4_init_26 : decode cX4_init 26 = .ok (.newarray .int, 2) := by decide +kernel
theorem dX4_init_28 : decode cX4_init 28 = .ok (.putfield 16, 3) := by decide +kernel
theorem dX4_init_31 : decode cX4_init 31 = .ok (.aload_n 0, 1) := by decide +kernel
theorem dX4_init_32 : decode cX4_init 32 = .ok (.bipush 60, 2) := by decide +kernel
theorem dX4_init_34 : decode cX4_init 34 = .ok (.newarray .int, 2) := by decide +kernel
theorem dX4_init_36 : decode cX4_init 36 = .ok (.putfield 19, 3) := by decide +kernel
theorem dX4_init_39 : decode cX4_init 39 = .ok (.aload_n 0, 1) := by decide +kernel
theorem dX4_init_40 : decode cX4_init 40 = .ok (.bipush 48, 2) := by decide +kernel
theorem dX4_init_42 : decode cX4_init 42 = .ok (.newarray .int, 2) := by decide +kernel
theorem dX4_init_44 : decode cX4_init 44 = .ok (.putfield 22, 3) := by decide +kernel
theorem dX4_init_47 : decode cX4_init 47 = .ok (.aload_n 0, 1) := by decide +kernel
theorem dX4_init_48 : decode cX4_init 48 = .ok (.getfield 7, 3) := by decide +kernel
theorem dX4_init_51 : decode cX4_init 51 = .ok (.iconst 3, 1) := by decide +kernel
theorem dX4_init_52 : decode cX4_init 52 = .ok (.bipush 10, 2) := by decide +kernel
theorem dX4_init_54 : decode cX4_init 54 = .ok (.iastore, 1) := by decide +kernel
theorem dX4_init_55 : decode cX4_init 55 = .ok (.aload_n 0, 1) := by decide +kernel
theorem dX4_init_56 : decode cX4_init 56 = .ok (.getfield 7, 3) := by decide +kernel
theorem dX4_init_59 : decode cX4_init 59 = .ok (.iconst 4, 1) := by decide +kernel
theorem dX4_init_60 : decode cX4_init 60 = .ok (.bipush 15, 2) := by decide +kernel
theorem dX4_init_62 : decode cX4_init 62 = .ok (.iastore, 1) := by decide +kernel
theorem dX4_init_63 : decode cX4_init 63 = .ok (.aload_n 0, 1) := by decide +kernel
theorem dX4_init_64 : decode cX4_init 64 = .ok (.getfield 7, 3) := by decide +kernel
theorem dX4_init_67 : decode cX4_init 67 = .ok (.iconst 5, 1) := by decide +kernel
theorem dX4_init_68 : decode cX4_init 68 = .ok (.bipush 10, 2) := by decide +kernel
theorem dX4_init_70 : decode cX4_init 70 = .ok (.iastore, 1) := by decide +kernel
theorem dX4_init_71 : decode cX4_init 71 = .ok (.aload_n 0, 1) := by decide +kernel
theorem dX4_init_72 : decode cX4_init 72 = .ok (.getfield 7, 3) := by decide +kernel
theorem dX4_init_75 : decode cX4_init 75 = .ok (.bipush 6, 2) := by decide +kernel
theorem dX4_init_77 : decode cX4_init 77 = .ok (.iconst 5, 1) := by decide +kernel
theorem dX4_init_78 : decode cX4_init 78 = .ok (.iastore, 1) := by decide +kernel
theorem dX4_init_79 : decode cX4_init 79 = .ok (.iconst 0, 1) := by decide +kernel
theorem dX4_init_80 : decode cX4_init 80 = .ok (.istore_n 1, 1) := by decide +kernel
theorem dX4_init_81 : decode cX4_init 81 = .ok (.iload_n 1, 1) := by decide +kernel
theorem dX4_init_82 : decode cX4_init 82 = .ok (.iconst 3, 1) := by decide +kernel
theorem dX4_init_83 : decode cX4_init 83 = .ok (.if_icmp .ge 24, 3) := by decide +kernel
theorem dX4_init_86 : decode cX4_init 86 = .ok (.aload_n 0, 1) := by decide +kernel
theorem dX4_init_87 : decode cX4_init 87 = .ok (.getfield 7, 3) := by decide +kernel
theorem dX4_init_90 : decode cX4_init 90 = .ok (.bipush 7, 2) := by decide +kernel
theorem dX4_init_92 : decode cX4_init 92 = .ok (.iload_n 1, 1) := by decide +kernel
theorem dX4_init_93 : decode cX4_init 93 = .ok (.iadd, 1) := by decide +kernel
theorem dX4_init_94 : decode cX4_init 94 = .ok (.bipush 100, 2) := by decide +kernel
theorem dX4_init_96 : decode cX4_init 96 = .ok (.iload_n 1, 1) := by decide +kernel
theorem dX4_init_97 : decode cX4_init 97 = .ok (.iconst 1, 1) := by decide +kernel
theorem dX4_init_98 : decode cX4_init 98 = .ok (.iadd, 1) := by decide +kernel
theorem dX4_init_99 : decode cX4_init 99 = .ok (.imul, 1) := by decide +kernel
theorem dX4_init_100 : decode cX4_init 100 = .ok (.iastore, 1) := by decide +kernel
theorem dX4_init_101 : decode cX4_init 101 = .ok (.iinc 1 1, 3) := by decide +kernel
theorem dX4_init_104 : decode cX4_init 104 = .ok (.goto (-23), 3) := by decide +kernel
theorem dX4_init_107 : decode cX4_init 107 = .ok (.aload_n 0, 1) := by decide +kernel
theorem dX4_init_108 : decode cX4_init 108 = .ok (.iconst (-1), 1) := by decide +kernel
theorem dX4_init_109 : decode cX4_init 109 = .ok (.iconst (-1), 1) := by decide +kernel
theorem dX4_init_110 : decode cX4_init 110 = .ok (.iconst (-1), 1) := by decide +kernel
theorem dX4_init_111 : decode cX4_init 111 = .ok (.invokevirtual 25, 3) := by decide +kernel
theorem dX4_init_114 : decode cX4_init 114 = .ok (.return_, 1) := by decide +kernel
theorem dX4_thrown_0 : decode cX4_thrown 0 = .ok (.aload_n 0, 1) := by decide +kernel
theorem dX4_thrown_1 : decode cX4_thrown 1 = .ok (.getfield 29, 3) := by decide +kernel
theorem dX4_thrown_4 : decode cX4_thrown 4 = .ok (.ireturn, 1) := by decide +kernel
theorem dX4_refuses_0 : decode cX4_refuses 0 = .ok (.aload_n 0, 1) := by decide +kernel
theorem dX4_refuses_1 : decode cX4_refuses 1 = .ok (.iload_n 1, 1) := by decide +kernel
theorem dX4_refuses_2 : decode cX4_refuses 2 = .ok (.putfield 29, 3) := by decide +kernel
theorem dX4_refuses_5 : decode cX4_refuses 5 = .ok (.iconst 0, 1) := by decide +kernel
theorem dX4_refuses_6 : decode cX4_refuses 6 = .ok (.ireturn, 1) := by decide +kernel
theorem dX4_in_0 : decode cX4_in 0 = .ok (.iload_n 0, 1) := by decide +kernel
theorem dX4_in_1 : decode cX4_in 1 = .ok (.iload_n 1, 1) := by decide +kernel
theorem dX4_in_2 : decode cX4_in 2 = .ok (.if_icmp .lt 12, 3) := by decide +kernel
theorem dX4_in_5 : decode cX4_in 5 = .ok (.iload_n 0, 1) := by decide +kernel
theorem dX4_in_6 : decode cX4_in 6 = .ok (.iload_n 2, 1) := by decide +kernel
theorem dX4_in_7 : decode cX4_in 7 = .ok (.if_icmp .gt 7, 3) := by decide +kernel
theorem dX4_in_10 : decode cX4_in 10 = .ok (.iconst 1, 1) := by decide +kernel
theorem dX4_in_11 : decode cX4_in 11 = .ok (.goto 4, 3) := by decide +kernel
theorem dX4_in_14 : decode cX4_in 14 = .ok (.iconst 0, 1) := by decide +kernel
theorem dX4_in_15 : decode cX4_in 15 = .ok (.ireturn, 1) := by decide +kernel
theorem dX4_lays_0 : decode cX4_lays 0 = .ok (.iconst 0, 1) := by decide +kernel
theorem dX4_lays_1 : decode cX4_lays 1 = .ok (.istore 4, 2) := by decide +kernel
theorem dX4_lays_3 : decode cX4_lays 3 = .ok (.iload 4, 2) := by decide +kernel
theorem dX4_lays_5 : decode cX4_lays 5 = .ok (.sipush 132, 3) := by decide +kernel
theorem dX4_lays_8 : decode cX4_lays 8 = .ok (.if_icmp .ge 21, 3) := by decide +kernel
theorem dX4_lays_11 : decode cX4_lays 11 = .ok (.aload_n 2, 1) := by decide +kernel
theorem dX4_lays_12 : decode cX4_lays 12 = .ok (.iload_n 3, 1) := by decide +kernel
theorem dX4_lays_13 : decode cX4_lays 13 = .ok (.iload 4, 2) := by decide +kernel
theorem dX4_lays_15 : decode cX4_lays 15 = .ok (.iadd, 1) := by decide +kernel
theorem dX4_lays_16 : decode cX4_lays 16 = .ok (.aload_n 0, 1) := by decide +kernel
theorem dX4_lays_17 : decode cX4_lays 17 = .ok (.iload_n 1, 1) := by decide +kernel
theorem dX4_lays_18 : decode cX4_lays 18 = .ok (.iload 4, 2) := by decide +kernel
theorem dX4_lays_20 : decode cX4_lays 20 = .ok (.iadd, 1) := by decide +kernel
theorem dX4_lays_21 : decode cX4_lays 21 = .ok (.iaload, 1) := by decide +kernel
theorem dX4_lays_22 : decode cX4_lays 22 = .ok (.iastore, 1) := by decide +kernel
theorem dX4_lays_23 : decode cX4_lays 23 = .ok (.iinc 4 1, 3) := by decide +kernel
theorem dX4_lays_26 : decode cX4_lays 26 = .ok (.goto (-23), 3) := by decide +kernel
theorem dX4_lays_29 : decode cX4_lays 29 = .ok (.return_, 1) := by decide +kernel
theorem dX4_saves_0 : decode cX4_saves 0 = .ok (.aload_n 0, 1) := by decide +kernel
theorem dX4_saves_1 : decode cX4_saves 1 = .ok (.getfield 33, 3) := by decide +kernel
theorem dX4_saves_4 : decode cX4_saves 4 = .ok (.bipush 6, 2) := by decide +kernel
theorem dX4_saves_6 : decode cX4_saves 6 = .ok (.if_icmp .ne 44, 3) := by decide +kernel
theorem dX4_saves_9 : decode cX4_saves 9 = .ok (.iconst 0, 1) := by decide +kernel
theorem dX4_saves_10 : decode cX4_saves 10 = .ok (.istore_n 1, 1) := by decide +kernel
theorem dX4_saves_11 : decode cX4_saves 11 = .ok (.iload_n 1, 1) := by decide +kernel
theorem dX4_saves_12 : decode cX4_saves 12 = .ok (.sipush 660, 3) := by decide +kernel
theorem dX4_saves_15 : decode cX4_saves 15 = .ok (.if_icmp .ge 25, 3) := by decide +kernel
theorem dX4_saves_18 : decode cX4_saves 18 = .ok (.aload_n 0, 1) := by decide +kernel
theorem dX4_saves_19 : decode cX4_saves 19 = .ok (.getfield 13, 3) := by decide +kernel
theorem dX4_saves_22 : decode cX4_saves 22 = .ok (.iload_n 1, 1) := by decide +kernel
theorem dX4_saves_23 : decode cX4_saves 23 = .ok (.aload_n 0, 1) := by decide +kernel
theorem dX4_saves_24 : decode cX4_saves 24 = .ok (.getfield 13, 3) := by decide +kernel
theorem dX4_saves_27 : decode cX4_saves 27 = .ok (.iload_n 1, 1) := by decide +kernel
theorem dX4_saves_28 : decode cX4_saves 28 = .ok (.sipush 132, 3) := by decide +kernel
theorem dX4_saves_31 : decode cX4_saves 31 = .ok (.iadd, 1) := by decide +kernel
theorem dX4_saves_32 : decode cX4_saves 32 = .ok (.iaload, 1) := by decide +kernel
theorem dX4_saves_33 : decode cX4_saves 33 = .ok (.iastore, 1) := by decide +kernel
theorem dX4_saves_34 : decode cX4_saves 34 = .ok (.iinc 1 1, 3) := by decide +kernel
theorem dX4_saves_37 : decode cX4_saves 37 = .ok (.goto (-26), 3) := by decide +kernel
theorem dX4_saves_40 : decode cX4_saves 40 = .ok (.aload_n 0, 1) := by decide +kernel
theorem dX4_saves_41 : decode cX4_saves 41 = .ok (.dup, 1) := by decide +kernel
theorem dX4_saves_42 : decode cX4_saves 42 = .ok (.getfield 33, 3) := by decide +kernel
theorem dX4_saves_45 : decode cX4_saves 45 = .ok (.iconst 1, 1) := by decide +kernel
theorem dX4_saves_46 : decode cX4_saves 46 = .ok (.isub, 1) := by decide +kernel
theorem dX4_saves_47 : decode cX4_saves 47 = .ok (.putfield 33, 3) := by decide +kernel
theorem dX4_saves_50 : decode cX4_saves 50 = .ok (.aload_n 0, 1) := by decide +kernel
theorem dX4_saves_51 : decode cX4_saves 51 = .ok (.getfield 7, 3) := by decide +kernel
theorem dX4_saves_54 : decode cX4_saves 54 = .ok (.iconst 0, 1) := by decide +kernel
theorem dX4_saves_55 : decode cX4_saves 55 = .ok (.aload_n 0, 1) := by decide +kernel
theorem dX4_saves_56 : decode cX4_saves 56 = .ok (.getfield 13, 3) := by decide +kernel
theorem dX4_saves_59 : decode cX4_saves 59 = .ok (.sipush 132, 3) := by decide +kernel
theorem dX4_saves_62 : decode cX4_saves 62 = .ok (.aload_n 0, 1) := by decide +kernel
theorem dX4_saves_63 : decode cX4_saves 63 = .ok (.getfield 33, 3) := by decide +kernel
theorem dX4_saves_66 : decode cX4_saves 66 = .ok (.imul, 1) := by decide +kernel
theorem dX4_saves_67 : decode cX4_saves 67 = .ok (.invokestatic 36, 3) := by decide +kernel
theorem dX4_saves_70 : decode cX4_saves 70 = .ok (.aload_n 0, 1) := by decide +kernel
theorem dX4_saves_71 : decode cX4_saves 71 = .ok (.dup, 1) := by decide +kernel
theorem dX4_saves_72 : decode cX4_saves 72 = .ok (.getfield 33, 3) := by decide +kernel
theorem dX4_saves_75 : decode cX4_saves 75 = .ok (.iconst 1, 1) := by decide +kernel
theorem dX4_saves_76 : decode cX4_saves 76 = .ok (.iadd, 1) := by decide +kernel
theorem dX4_saves_77 : decode cX4_saves 77 = .ok (.putfield 33, 3) := by decide +kernel
theorem dX4_saves_80 : decode cX4_saves 80 = .ok (.return_, 1) := by decide +kernel
theorem dX4_stops_0 : decode cX4_stops 0 = .ok (.aload_n 0, 1) := by decide +kernel
theorem dX4_stops_1 : decode cX4_stops 1 = .ok (.getfield 7, 3) := by decide +kernel
theorem dX4_stops_4 : decode cX4_stops 4 = .ok (.sipush 129, 3) := by decide +kernel
theorem dX4_stops_7 : decode cX4_stops 7 = .ok (.iload_n 1, 1) := by decide +kernel
theorem dX4_stops_8 : decode cX4_stops 8 = .ok (.iastore, 1) := by decide +kernel
theorem dX4_stops_9 : decode cX4_stops 9 = .ok (.aload_n 0, 1) := by decide +kernel
theorem dX4_stops_10 : decode cX4_stops 10 = .ok (.getfield 7, 3) := by decide +kernel
theorem dX4_stops_13 : decode cX4_stops 13 = .ok (.sipush 130, 3) := by decide +kernel
theorem dX4_stops_16 : decode cX4_stops 16 = .ok (.iload_n 2, 1) := by decide +kernel
theorem dX4_stops_17 : decode cX4_stops 17 = .ok (.iastore, 1) := by decide +kernel
theorem dX4_stops_18 : decode cX4_stops 18 = .ok (.aload_n 0, 1) := by decide +kernel
theorem dX4_stops_19 : decode cX4_stops 19 = .ok (.getfield 7, 3) := by decide +kernel
theorem dX4_stops_22 : decode cX4_stops 22 = .ok (.sipush 131, 3) := by decide +kernel
theorem dX4_stops_25 : decode cX4_stops 25 = .ok (.iload_n 3, 1) := by decide +kernel
theorem dX4_stops_26 : decode cX4_stops 26 = .ok (.iastore, 1) := by decide +kernel
theorem dX4_stops_27 : decode cX4_stops 27 = .ok (.return_, 1) := by decide +kernel
theorem dX4_reels_0 : decode cX4_reels 0 = .ok (.aload_n 0, 1) := by decide +kernel
theorem dX4_reels_1 : decode cX4_reels 1 = .ok (.getfield 7, 3) := by decide +kernel
theorem dX4_reels_4 : decode cX4_reels 4 = .ok (.bipush 10, 2) := by decide +kernel
theorem dX4_reels_6 : decode cX4_reels 6 = .ok (.iconst 2, 1) := by decide +kernel
theorem dX4_reels_7 : decode cX4_reels 7 = .ok (.iload_n 1, 1) := by decide +kernel
theorem dX4_reels_8 : decode cX4_reels 8 = .ok (.imul, 1) := by decide +kernel
theorem dX4_reels_9 : decode cX4_reels 9 = .ok (.iadd, 1) := by decide +kernel
theorem dX4_reels_10 : decode cX4_reels 10 = .ok (.iaload, 1) := by decide +kernel
theorem dX4_reels_11 : decode cX4_reels 11 = .ok (.ireturn, 1) := by decide +kernel
theorem dX4_minutes_0 : decode cX4_minutes 0 = .ok (.aload_n 0, 1) := by decide +kernel
theorem dX4_minutes_1 : decode cX4_minutes 1 = .ok (.getfield 7, 3) := by decide +kernel
theorem dX4_minutes_4 : decode cX4_minutes 4 = .ok (.bipush 10, 2) := by decide +kernel
theorem dX4_minutes_6 : decode cX4_minutes 6 = .ok (.iconst 2, 1) := by decide +kernel
theorem dX4_minutes_7 : decode cX4_minutes 7 = .ok (.iload_n 1, 1) := by decide +kernel
theorem dX4_minutes_8 : decode cX4_minutes 8 = .ok (.imul, 1) := by decide +kernel
theorem dX4_minutes_9 : decode cX4_minutes 9 = .ok (.iadd, 1) := by decide +kernel
theorem dX4_minutes_10 : decode cX4_minutes 10 = .ok (.iconst 1, 1) := by decide +kernel
theorem dX4_minutes_11 : decode cX4_minutes 11 = .ok (.iadd, 1) := by decide +kernel
theorem dX4_minutes_12 : decode cX4_minutes 12 = .ok (.iaload, 1) := by decide +kernel
theorem dX4_minutes_13 : decode cX4_minutes 13 = .ok (.ireturn, 1) := by decide +kernel
theorem dX4_of_0 : decode cX4_of 0 = .ok (.aload_n 0, 1) := by decide +kernel
theorem dX4_of_1 : decode cX4_of 1 = .ok (.getfield 7, 3) := by decide +kernel
theorem dX4_of_4 : decode cX4_of 4 = .ok (.bipush 26, 2) := by decide +kernel
theorem dX4_of_6 : decode cX4_of 6 = .ok (.iconst 5, 1) := by decide +kernel
theorem dX4_of_7 : decode cX4_of 7 = .ok (.iload_n 1, 1) := by decide +kernel
theorem dX4_of_8 : decode cX4_of 8 = .ok (.imul, 1) := by decide +kernel
theorem dX4_of_9 : decode cX4_of 9 = .ok (.iadd, 1) := by decide +kernel
theorem dX4_of_10 : decode cX4_of 10 = .ok (.iload_n 2, 1) := by decide +kernel
theorem dX4_of_11 : decode cX4_of 11 = .ok (.iadd, 1) := by decide +kernel
theorem dX4_of_12 : decode cX4_of 12 = .ok (.iaload, 1) := by decide +kernel
theorem dX4_of_13 : decode cX4_of 13 = .ok (.ireturn, 1) := by decide +kernel
theorem dX4_becomes_0 : decode cX4_becomes 0 = .ok (.aload_n 0, 1) := by decide +kernel
theorem dX4_becomes_1 : decode cX4_becomes 1 = .ok (.getfield 7, 3) := by decide +kernel
theorem dX4_becomes_4 : decode cX4_becomes 4 = .ok (.bipush 26, 2) := by decide +kernel
theorem dX4_becomes_6 : decode cX4_becomes 6 = .ok (.iconst 5, 1) := by decide +kernel
theorem dX4_becomes_7 : decode cX4_becomes 7 = .ok (.iload_n 1, 1) := by decide +kernel
theorem dX4_becomes_8 : decode cX4_becomes 8 = .ok (.imul, 1) := by decide +kernel
theorem dX4_becomes_9 : decode cX4_becomes 9 = .ok (.iadd, 1) := by decide +kernel
theorem dX4_becomes_10 : decode cX4_becomes 10 = .ok (.iload_n 2, 1) := by decide +kernel
theorem dX4_becomes_11 : decode cX4_becomes 11 = .ok (.iadd, 1) := by decide +kernel
theorem dX4_becomes_12 : decode cX4_becomes 12 = .ok (.iload_n 3, 1) := by decide +kernel
theorem dX4_becomes_13 : decode cX4_becomes 13 = .ok (.iastore, 1) := by decide +kernel
theorem dX4_becomes_14 : decode cX4_becomes 14 = .ok (.return_, 1) := by decide +kernel
theorem dX4_begins_0 : decode cX4_begins 0 = .ok (.iload_n 2, 1) := by decide +kernel
theorem dX4_begins_1 : decode cX4_begins 1 = .ok (.iload 4, 2) := by decide +kernel
theorem dX4_begins_3 : decode cX4_begins 3 = .ok (.aload_n 0, 1) := by decide +kernel
theorem dX4_begins_4 : decode cX4_begins 4 = .ok (.iload_n 1, 1) := by decide +kernel
theorem dX4_begins_5 : decode cX4_begins 5 = .ok (.invokevirtual 40, 3) := by decide +kernel
theorem dX4_begins_8 : decode cX4_begins 8 = .ok (.imul, 1) := by decide +kernel
theorem dX4_begins_9 : decode cX4_begins 9 = .ok (.iadd, 1) := by decide +kernel
theorem dX4_begins_10 : decode cX4_begins 10 = .ok (.iload 4, 2) := by decide +kernel
theorem dX4_begins_12 : decode cX4_begins 12 = .ok (.aload_n 0, 1) := by decide +kernel
theorem dX4_begins_13 : decode cX4_begins 13 = .ok (.iload_n 1, 1) := by decide +kernel
theorem dX4_begins_14 : decode cX4_begins 14 = .ok (.invokevirtual 44, 3) := by decide +kernel
theorem dX4_begins_17 : decode cX4_begins 17 = .ok (.iconst 1, 1) := by decide +kernel
theorem dX4_begins_18 : decode cX4_begins 18 = .ok (.iadd, 1) := by decide +kernel
theorem dX4_begins_19 : decode cX4_begins 19 = .ok (.iconst 2, 1) := by decide +kernel
theorem dX4_begins_20 : decode cX4_begins 20 = .ok (.idiv, 1) := by decide +kernel
theorem dX4_begins_21 : decode cX4_begins 21 = .ok (.if_icmp .lt 7, 3) := by decide +kernel
theorem dX4_begins_24 : decode cX4_begins 24 = .ok (.iload_n 3, 1) := by decide +kernel
theorem dX4_begins_25 : decode cX4_begins 25 = .ok (.goto 4, 3) := by decide +kernel
theorem dX4_begins_28 : decode cX4_begins 28 = .ok (.iconst 0, 1) := by decide +kernel
theorem dX4_begins_29 : decode cX4_begins 29 = .ok (.iadd, 1) := by decide +kernel
theorem dX4_begins_30 : decode cX4_begins 30 = .ok (.ireturn, 1) := by decide +kernel
theorem dX4_ends_0 : decode cX4_ends 0 = .ok (.iload_n 2, 1) := by decide +kernel
theorem dX4_ends_1 : decode cX4_ends 1 = .ok (.aload_n 0, 1) := by decide +kernel
theorem dX4_ends_2 : decode cX4_ends 2 = .ok (.iload_n 1, 1) := by decide +kernel
theorem dX4_ends_3 : decode cX4_ends 3 = .ok (.invokevirtual 44, 3) := by decide +kernel
theorem dX4_ends_6 : decode cX4_ends 6 = .ok (.aload_n 0, 1) := by decide +kernel
theorem dX4_ends_7 : decode cX4_ends 7 = .ok (.iload_n 1, 1) := by decide +kernel
theorem dX4_ends_8 : decode cX4_ends 8 = .ok (.invokevirtual 40, 3) := by decide +kernel
theorem dX4_ends_11 : decode cX4_ends 11 = .ok (.imul, 1) := by decide +kernel
theorem dX4_ends_12 : decode cX4_ends 12 = .ok (.iadd, 1) := by decide +kernel
theorem dX4_ends_13 : decode cX4_ends 13 = .ok (.iload_n 3, 1) := by decide +kernel
theorem dX4_ends_14 : decode cX4_ends 14 = .ok (.iadd, 1) := by decide +kernel
theorem dX4_ends_15 : decode cX4_ends 15 = .ok (.ireturn, 1) := by decide +kernel
theorem dX4_end_0 : decode cX4_end 0 = .ok (.aload_n 0, 1) := by decide +kernel
theorem dX4_end_1 : decode cX4_end 1 = .ok (.aload_n 0, 1) := by decide +kernel
theorem dX4_end_2 : decode cX4_end 2 = .ok (.iload_n 1, 1) := by decide +kernel
theorem dX4_end_3 : decode cX4_end 3 = .ok (.iconst 0, 1) := by decide +kernel
theorem dX4_end_4 : decode cX4_end 4 = .ok (.invokevirtual 47, 3) := by decide +kernel
theorem dX4_end_7 : decode cX4_end 7 = .ok (.aload_n 0, 1) := by decide +kernel
theorem dX4_end_8 : decode cX4_end 8 = .ok (.iload_n 1, 1) := by decide +kernel
theorem dX4_end_9 : decode cX4_end 9 = .ok (.iconst 2, 1) := by decide +kernel
theorem dX4_end_10 : decode cX4_end 10 = .ok (.invokevirtual 47, 3) := by decide +kernel
theorem dX4_end_13 : decode cX4_end 13 = .ok (.aload_n 0, 1) := by decide +kernel
theorem dX4_end_14 : decode cX4_end 14 = .ok (.iload_n 1, 1) := by decide +kernel
theorem dX4_end_15 : decode cX4_end 15 = .ok (.iconst 3, 1) := by decide +kernel
theorem dX4_end_16 : decode cX4_end 16 = .ok (.invokevirtual 47, 3) := by decide +kernel
theorem dX4_end_19 : decode cX4_end 19 = .ok (.invokevirtual 51, 3) := by decide +kernel
theorem dX4_end_22 : decode cX4_end 22 = .ok (.ireturn, 1) := by decide +kernel
theorem dX4_isNear_0 : decode cX4_isNear 0 = .ok (.iload_n 3, 1) := by decide +kernel
theorem dX4_isNear_1 : decode cX4_isNear 1 = .ok (.iload 4, 2) := by decide +kernel
theorem dX4_isNear_3 : decode cX4_isNear 3 = .ok (.iadd, 1) := by decide +kernel
theorem dX4_isNear_4 : decode cX4_isNear 4 = .ok (.iload_n 0, 1) := by decide +kernel
theorem dX4_isNear_5 : decode cX4_isNear 5 = .ok (.if_icmp .le 15, 3) := by decide +kernel
theorem dX4_isNear_8 : decode cX4_isNear 8 = .ok (.iload_n 1, 1) := by decide +kernel
theorem dX4_isNear_9 : decode cX4_isNear 9 = .ok (.iload 4, 2) := by decide +kernel
theorem dX4_isNear_11 : decode cX4_isNear 11 = .ok (.iadd, 1) := by decide +kernel
theorem dX4_isNear_12 : decode cX4_isNear 12 = .ok (.iload_n 2, 1) := by decide +kernel
theorem dX4_isNear_13 : decode cX4_isNear 13 = .ok (.if_icmp .le 7, 3) := by decide +kernel
theorem dX4_isNear_16 : decode cX4_isNear 16 = .ok (.iconst 1, 1) := by decide +kernel
theorem dX4_isNear_17 : decode cX4_isNear 17 = .ok (.goto 4, 3) := by decide +kernel
theorem dX4_isNear_20 : decode cX4_isNear 20 = .ok (.iconst 0, 1) := by decide +kernel
theorem dX4_isNear_21 : decode cX4_isNear 21 = .ok (.ireturn, 1) := by decide +kernel
theorem dX4_finds_0 : decode cX4_finds 0 = .ok (.aload_n 0, 1) := by decide +kernel
theorem dX4_finds_1 : decode cX4_finds 1 = .ok (.iload_n 1, 1) := by decide +kernel
theorem dX4_finds_2 : decode cX4_finds 2 = .ok (.putfield 55, 3) := by decide +kernel
theorem dX4_finds_5 : decode cX4_finds 5 = .ok (.aload_n 0, 1) := by decide +kernel
theorem dX4_finds_6 : decode cX4_finds 6 = .ok (.iload_n 2, 1) := by decide +kernel
theorem dX4_finds_7 : decode cX4_finds 7 = .ok (.putfield 58, 3) := by decide +kernel
theorem dX4_finds_10 : decode cX4_finds 10 = .ok (.aload_n 0, 1) := by decide +kernel
theorem dX4_finds_11 : decode cX4_finds 11 = .ok (.iload_n 3, 1) := by decide +kernel
theorem dX4_finds_12 : decode cX4_finds 12 = .ok (.putfield 61, 3) := by decide +kernel
theorem dX4_finds_15 : decode cX4_finds 15 = .ok (.return_, 1) := by decide +kernel
theorem dX4_clash_0 : decode cX4_clash 0 = .ok (.iconst 0, 1) := by decide +kernel
theorem dX4_clash_1 : decode cX4_clash 1 = .ok (.istore 5, 2) := by decide +kernel
theorem dX4_clash_3 : decode cX4_clash 3 = .ok (.iload 5, 2) := by decide +kernel
theorem dX4_clash_5 : decode cX4_clash 5 = .ok (.aload_n 0, 1) := by decide +kernel
theorem dX4_clash_6 : decode cX4_clash 6 = .ok (.iload_n 2, 1) := by decide +kernel
theorem dX4_clash_7 : decode cX4_clash 7 = .ok (.invokevirtual 44, 3) := by decide +kernel
theorem dX4_clash_10 : decode cX4_clash 10 = .ok (.if_icmp .ge 77, 3) := by decide +kernel
theorem dX4_clash_13 : decode cX4_clash 13 = .ok (.aload_n 0, 1) := by decide +kernel
theorem dX4_clash_14 : decode cX4_clash 14 = .ok (.iload_n 2, 1) := by decide +kernel
theorem dX4_clash_15 : decode cX4_clash 15 = .ok (.iload_n 3, 1) := by decide +kernel
theorem dX4_clash_16 : decode cX4_clash 16 = .ok (.iload 4, 2) := by decide +kernel
theorem dX4_clash_18 : decode cX4_clash 18 = .ok (.iload 5, 2) := by decide +kernel
theorem dX4_clash_20 : decode cX4_clash 20 = .ok (.invokevirtual 64, 3) := by decide +kernel
theorem dX4_clash_23 : decode cX4_clash 23 = .ok (.istore 6, 2) := by decide +kernel
theorem dX4_clash_25 : decode cX4_clash 25 = .ok (.aload_n 0, 1) := by decide +kernel
theorem dX4_clash_26 : decode cX4_clash 26 = .ok (.iload_n 2, 1) := by decide +kernel
theorem dX4_clash_27 : decode cX4_clash 27 = .ok (.aload_n 0, 1) := by decide +kernel
theorem dX4_clash_28 : decode cX4_clash 28 = .ok (.iload_n 1, 1) := by decide +kernel
theorem dX4_clash_29 : decode cX4_clash 29 = .ok (.iconst 2, 1) := by decide +kernel
theorem dX4_clash_30 : decode cX4_clash 30 = .ok (.invokevirtual 47, 3) := by decide +kernel
theorem dX4_clash_33 : decode cX4_clash 33 = .ok (.aload_n 0, 1) := by decide +kernel
theorem dX4_clash_34 : decode cX4_clash 34 = .ok (.iload_n 1, 1) := by decide +kernel
theorem dX4_clash_35 : decode cX4_clash 35 = .ok (.iconst 3, 1) := by decide +kernel
theorem dX4_clash_36 : decode cX4_clash 36 = .ok (.invokevirtual 47, 3) := by decide +kernel
theorem dX4_clash_39 : decode cX4_clash 39 = .ok (.iload 5, 2) := by decide +kernel
theorem dX4_clash_41 : decode cX4_clash 41 = .ok (.invokevirtual 64, 3) := by decide +kernel
theorem dX4_clash_44 : decode cX4_clash 44 = .ok (.istore 7, 2) := by decide +kernel
theorem dX4_clash_46 : decode cX4_clash 46 = .ok (.iload 6, 2) := by decide +kernel
theorem dX4_clash_48 : decode cX4_clash 48 = .ok (.iload 6, 2) := by decide +kernel
theorem dX4_clash_50 : decode cX4_clash 50 = .ok (.aload_n 0, 1) := by decide +kernel
theorem dX4_clash_51 : decode cX4_clash 51 = .ok (.iload_n 2, 1) := by decide +kernel
theorem dX4_clash_52 : decode cX4_clash 52 = .ok (.invokevirtual 40, 3) := by decide +kernel
theorem dX4_clash_55 : decode cX4_clash 55 = .ok (.iadd, 1) := by decide +kernel
theorem dX4_clash_56 : decode cX4_clash 56 = .ok (.iload 7, 2) := by decide +kernel
theorem dX4_clash_58 : decode cX4_clash 58 = .ok (.iload 7, 2) := by decide +kernel
theorem dX4_clash_60 : decode cX4_clash 60 = .ok (.aload_n 0, 1) := by decide +kernel
theorem dX4_clash_61 : decode cX4_clash 61 = .ok (.iload_n 2, 1) := by decide +kernel
theorem dX4_clash_62 : decode cX4_clash 62 = .ok (.invokevirtual 40, 3) := by decide +kernel
theorem dX4_clash_65 : decode cX4_clash 65 = .ok (.iadd, 1) := by decide +kernel
theorem dX4_clash_66 : decode cX4_clash 66 = .ok (.aload_n 0, 1) := by decide +kernel
theorem dX4_clash_67 : decode cX4_clash 67 = .ok (.getfield 7, 3) := by decide +kernel
theorem dX4_clash_70 : decode cX4_clash 70 = .ok (.iconst 3, 1) := by decide +kernel
theorem dX4_clash_71 : decode cX4_clash 71 = .ok (.iaload, 1) := by decide +kernel
theorem dX4_clash_72 : decode cX4_clash 72 = .ok (.invokestatic 68, 3) := by decide +kernel
theorem dX4_clash_75 : decode cX4_clash 75 = .ok (.ifCond .eq 6, 3) := by decide +kernel
theorem dX4_clash_78 : decode cX4_clash 78 = .ok (.iload 5, 2) := by decide +kernel
theorem dX4_clash_80 : decode cX4_clash 80 = .ok (.ireturn, 1) := by decide +kernel
theorem dX4_clash_81 : decode cX4_clash 81 = .ok (.iinc 5 1, 3) := by decide +kernel
theorem dX4_clash_84 : decode cX4_clash 84 = .ok (.goto (-81), 3) := by decide +kernel
theorem dX4_clash_87 : decode cX4_clash 87 = .ok (.iconst (-1), 1) := by decide +kernel
theorem dX4_clash_88 : decode cX4_clash 88 = .ok (.ireturn, 1) := by decide +kernel
theorem dX4_looks_0 : decode cX4_looks 0 = .ok (.aload_n 0, 1) := by decide +kernel
theorem dX4_looks_1 : decode cX4_looks 1 = .ok (.iload_n 1, 1) := by decide +kernel
theorem dX4_looks_2 : decode cX4_looks 2 = .ok (.iload_n 3, 1) := by decide +kernel
theorem dX4_looks_3 : decode cX4_looks 3 = .ok (.iload 4, 2) := by decide +kernel
theorem dX4_looks_5 : decode cX4_looks 5 = .ok (.invokevirtual 51, 3) := by decide +kernel
theorem dX4_looks_8 : decode cX4_looks 8 = .ok (.istore 6, 2) := by decide +kernel
theorem dX4_looks_10 : decode cX4_looks 10 = .ok (.aload_n 0, 1) := by decide +kernel
theorem dX4_looks_11 : decode cX4_looks 11 = .ok (.iconst 0, 1) := by decide +kernel
theorem dX4_looks_12 : decode cX4_looks 12 = .ok (.iconst (-1), 1) := by decide +kernel
theorem dX4_looks_13 : decode cX4_looks 13 = .ok (.iconst (-1), 1) := by decide +kernel
theorem dX4_looks_14 : decode cX4_looks 14 = .ok (.invokevirtual 72, 3) := by decide +kernel
theorem dX4_looks_17 : decode cX4_looks 17 = .ok (.iload 6, 2) := by decide +kernel
theorem dX4_looks_19 : decode cX4_looks 19 = .ok (.sipush 2000, 3) := by decide +kernel
theorem dX4_looks_22 : decode cX4_looks 22 = .ok (.if_icmp .le 10, 3) := by decide +kernel
theorem dX4_looks_25 : decode cX4_looks 25 = .ok (.aload_n 0, 1) := by decide +kernel
theorem dX4_looks_26 : decode cX4_looks 26 = .ok (.iconst 2, 1) := by decide +kernel
theorem dX4_looks_27 : decode cX4_looks 27 = .ok (.iconst (-1), 1) := by decide +kernel
theorem dX4_looks_28 : decode cX4_looks 28 = .ok (.iconst (-1), 1) := by decide +kernel
theorem dX4_looks_29 : decode cX4_looks 29 = .ok (.invokevirtual 72, 3) := by decide +kernel
theorem dX4_looks_32 : decode cX4_looks 32 = .ok (.iconst 0, 1) := by decide +kernel
theorem dX4_looks_33 : decode cX4_looks 33 = .ok (.istore 7, 2) := by decide +kernel
theorem dX4_looks_35 : decode cX4_looks 35 = .ok (.iload 7, 2) := by decide +kernel
theorem dX4_looks_37 : decode cX4_looks 37 = .ok (.aload_n 0, 1) := by decide +kernel
theorem dX4_looks_38 : decode cX4_looks 38 = .ok (.getfield 7, 3) := by decide +kernel
theorem dX4_looks_41 : decode cX4_looks 41 = .ok (.iconst 1, 1) := by decide +kernel
theorem dX4_looks_42 : decode cX4_looks 42 = .ok (.iaload, 1) := by decide +kernel
theorem dX4_looks_43 : decode cX4_looks 43 = .ok (.if_icmp .ge 70, 3) := by decide +kernel
theorem dX4_looks_46 : decode cX4_looks 46 = .ok (.aload_n 0, 1) := by decide +kernel
theorem dX4_looks_47 : decode cX4_looks 47 = .ok (.getfield 55, 3) := by decide +kernel
theorem dX4_looks_50 : decode cX4_looks 50 = .ok (.ifCond .ne 63, 3) := by decide +kernel
theorem dX4_looks_53 : decode cX4_looks 53 = .ok (.iload 7, 2) := by decide +kernel
theorem dX4_looks_55 : decode cX4_looks 55 = .ok (.iload 5, 2) := by decide +kernel
theorem dX4_looks_57 : decode cX4_looks 57 = .ok (.if_icmp .eq 50, 3) := by decide +kernel
theorem dX4_looks_60 : decode cX4_looks 60 = .ok (.aload_n 0, 1) := by decide +kernel
theorem dX4_looks_61 : decode cX4_looks 61 = .ok (.iload 7, 2) := by decide +kernel
theorem dX4_looks_63 : decode cX4_looks 63 = .ok (.iconst 1, 1) := by decide +kernel
theorem dX4_looks_64 : decode cX4_looks 64 = .ok (.invokevirtual 47, 3) := by decide +kernel
theorem dX4_looks_67 : decode cX4_looks 67 = .ok (.iload_n 2, 1) := by decide +kernel
theorem dX4_looks_68 : decode cX4_looks 68 = .ok (.if_icmp .ne 39, 3) := by decide +kernel
theorem dX4_looks_71 : decode cX4_looks 71 = .ok (.iload_n 3, 1) := by decide +kernel
theorem dX4_looks_72 : decode cX4_looks 72 = .ok (.iload 6, 2) := by decide +kernel
theorem dX4_looks_74 : decode cX4_looks 74 = .ok (.aload_n 0, 1) := by decide +kernel
theorem dX4_looks_75 : decode cX4_looks 75 = .ok (.iload 7, 2) := by decide +kernel
theorem dX4_looks_77 : decode cX4_looks 77 = .ok (.iconst 2, 1) := by decide +kernel
theorem dX4_looks_78 : decode cX4_looks 78 = .ok (.invokevirtual 47, 3) := by decide +kernel
theorem dX4_looks_81 : decode cX4_looks 81 = .ok (.aload_n 0, 1) := by decide +kernel
theorem dX4_looks_82 : decode cX4_looks 82 = .ok (.iload 7, 2) := by decide +kernel
theorem dX4_looks_84 : decode cX4_looks 84 = .ok (.invokevirtual 75, 3) := by decide +kernel
theorem dX4_looks_87 : decode cX4_looks 87 = .ok (.aload_n 0, 1) := by decide +kernel
theorem dX4_looks_88 : decode cX4_looks 88 = .ok (.getfield 7, 3) := by decide +kernel
theorem dX4_looks_91 : decode cX4_looks 91 = .ok (.iconst 4, 1) := by decide +kernel
theorem dX4_looks_92 : decode cX4_looks 92 = .ok (.iaload, 1) := by decide +kernel
theorem dX4_looks_93 : decode cX4_looks 93 = .ok (.invokestatic 68, 3) := by decide +kernel
theorem dX4_looks_96 : decode cX4_looks 96 = .ok (.ifCond .eq 11, 3) := by decide +kernel
theorem dX4_looks_99 : decode cX4_looks 99 = .ok (.aload_n 0, 1) := by decide +kernel
theorem dX4_looks_100 : decode cX4_looks 100 = .ok (.iconst 3, 1) := by decide +kernel
theorem dX4_looks_101 : decode cX4_looks 101 = .ok (.iload 7, 2) := by decide +kernel
theorem dX4_looks_103 : decode cX4_looks 103 = .ok (.iconst (-1), 1) := by decide +kernel
theorem dX4_looks_104 : decode cX4_looks 104 = .ok (.invokevirtual 72, 3) := by decide +kernel
theorem dX4_looks_107 : decode cX4_looks 107 = .ok (.iinc 7 1, 3) := by decide +kernel
theorem dX4_looks_110 : decode cX4_looks 110 = .ok (.goto (-75), 3) := by decide +kernel
theorem dX4_looks_113 : decode cX4_looks 113 = .ok (.iconst 0, 1) := by decide +kernel
theorem dX4_looks_114 : decode cX4_looks 114 = .ok (.istore 7, 2) := by decide +kernel
theorem dX4_looks_116 : decode cX4_looks 116 = .ok (.iload 7, 2) := by decide +kernel
theorem dX4_looks_118 : decode cX4_looks 118 = .ok (.aload_n 0, 1) := by decide +kernel
theorem dX4_looks_119 : decode cX4_looks 119 = .ok (.getfield 7, 3) := by decide +kernel
theorem dX4_looks_122 : decode cX4_looks 122 = .ok (.iconst 1, 1) := by decide +kernel
theorem dX4_looks_123 : decode cX4_looks 123 = .ok (.iaload, 1) := by decide +kernel
theorem dX4_looks_124 : decode cX4_looks 124 = .ok (.if_icmp .ge 88, 3) := by decide +kernel
theorem dX4_looks_127 : decode cX4_looks 127 = .ok (.aload_n 0, 1) := by decide +kernel
theorem dX4_looks_128 : decode cX4_looks 128 = .ok (.getfield 55, 3) := by decide +kernel
theorem dX4_looks_131 : decode cX4_looks 131 = .ok (.ifCond .ne 81, 3) := by decide +kernel
theorem dX4_looks_134 : decode cX4_looks 134 = .ok (.iload 7, 2) := by decide +kernel
theorem dX4_looks_136 : decode cX4_looks 136 = .ok (.iload 5, 2) := by decide +kernel
theorem dX4_looks_138 : decode cX4_looks 138 = .ok (.if_icmp .eq 29, 3) := by decide +kernel
theorem dX4_looks_141 : decode cX4_looks 141 = .ok (.aload_n 0, 1) := by decide +kernel
theorem dX4_looks_142 : decode cX4_looks 142 = .ok (.iload 7, 2) := by decide +kernel
theorem dX4_looks_144 : decode cX4_looks 144 = .ok (.iconst 1, 1) := by decide +kernel
theorem dX4_looks_145 : decode cX4_looks 145 = .ok (.invokevirtual 47, 3) := by decide +kernel
theorem dX4_looks_148 : decode cX4_looks 148 = .ok (.iload_n 2, 1) := by decide +kernel
theorem dX4_looks_149 : decode cX4_looks 149 = .ok (.if_icmp .eq 18, 3) := by decide +kernel
theorem dX4_looks_152 : decode cX4_looks 152 = .ok (.aload_n 0, 1) := by decide +kernel
theorem dX4_looks_153 : decode cX4_looks 153 = .ok (.iload 7, 2) := by decide +kernel
theorem dX4_looks_155 : decode cX4_looks 155 = .ok (.iconst 0, 1) := by decide +kernel
theorem dX4_looks_156 : decode cX4_looks 156 = .ok (.invokevirtual 47, 3) := by decide +kernel
theorem dX4_looks_159 : decode cX4_looks 159 = .ok (.iload_n 1, 1) := by decide +kernel
theorem dX4_looks_160 : decode cX4_looks 160 = .ok (.if_icmp .ne 7, 3) := by decide +kernel
theorem dX4_looks_163 : decode cX4_looks 163 = .ok (.iconst 1, 1) := by decide +kernel
theorem dX4_looks_164 : decode cX4_looks 164 = .ok (.goto 4, 3) := by decide +kernel
theorem dX4_looks_167 : decode cX4_looks 167 = .ok (.iconst 0, 1) := by decide +kernel
theorem dX4_looks_168 : decode cX4_looks 168 = .ok (.istore 8, 2) := by decide +kernel
theorem dX4_looks_170 : decode cX4_looks 170 = .ok (.iload 8, 2) := by decide +kernel
theorem dX4_looks_172 : decode cX4_looks 172 = .ok (.ifCond .eq 16, 3) := by decide +kernel
theorem dX4_looks_175 : decode cX4_looks 175 = .ok (.aload_n 0, 1) := by decide +kernel
theorem dX4_looks_176 : decode cX4_looks 176 = .ok (.iload 7, 2) := by decide +kernel
theorem dX4_looks_178 : decode cX4_looks 178 = .ok (.iload_n 1, 1) := by decide +kernel
theorem dX4_looks_179 : decode cX4_looks 179 = .ok (.iload_n 3, 1) := by decide +kernel
theorem dX4_looks_180 : decode cX4_looks 180 = .ok (.iload 4, 2) := by decide +kernel
theorem dX4_looks_182 : decode cX4_looks 182 = .ok (.invokevirtual 78, 3) := by decide +kernel
theorem dX4_looks_185 : decode cX4_looks 185 = .ok (.goto 4, 3) := by decide +kernel
theorem dX4_looks_188 : decode cX4_looks 188 = .ok (.iconst (-1), 1) := by decide +kernel
theorem dX4_looks_189 : decode cX4_looks 189 = .ok (.istore 9, 2) := by decide +kernel
theorem dX4_looks_191 : decode cX4_looks 191 = .ok (.iload 9, 2) := by decide +kernel
theorem dX4_looks_193 : decode cX4_looks 193 = .ok (.iconst (-1), 1) := by decide +kernel
theorem dX4_looks_194 : decode cX4_looks 194 = .ok (.if_icmp .eq 12, 3) := by decide +kernel
theorem dX4_looks_197 : decode cX4_looks 197 = .ok (.aload_n 0, 1) := by decide +kernel
theorem dX4_looks_198 : decode cX4_looks 198 = .ok (.iconst 4, 1) := by decide +kernel
theorem dX4_looks_199 : decode cX4_looks 199 = .ok (.iload 7, 2) := by decide +kernel
theorem dX4_looks_201 : decode cX4_looks 201 = .ok (.iload 9, 2) := by decide +kernel
theorem dX4_looks_203 : decode cX4_looks 203 = .ok (.invokevirtual 72, 3) := by decide +kernel
theorem dX4_looks_206 : decode cX4_looks 206 = .ok (.iinc 7 1, 3) := by decide +kernel
theorem dX4_looks_209 : decode cX4_looks 209 = .ok (.goto (-93), 3) := by decide +kernel
theorem dX4_looks_212 : decode cX4_looks 212 = .ok (.return_, 1) := by decide +kernel
theorem dX4_reason_0 : decode cX4_reason 0 = .ok (.aload_n 0, 1) := by decide +kernel
theorem dX4_reason_1 : decode cX4_reason 1 = .ok (.iload_n 1, 1) := by decide +kernel
theorem dX4_reason_2 : decode cX4_reason 2 = .ok (.iload_n 2, 1) := by decide +kernel
theorem dX4_reason_3 : decode cX4_reason 3 = .ok (.iload_n 3, 1) := by decide +kernel
theorem dX4_reason_4 : decode cX4_reason 4 = .ok (.iload 4, 2) := by decide +kernel
theorem dX4_reason_6 : decode cX4_reason 6 = .ok (.iconst (-1), 1) := by decide +kernel
theorem dX4_reason_7 : decode cX4_reason 7 = .ok (.invokevirtual 81, 3) := by decide +kernel
theorem dX4_reason_10 : decode cX4_reason 10 = .ok (.aload_n 0, 1) := by decide +kernel
theorem dX4_reason_11 : decode cX4_reason 11 = .ok (.getfield 7, 3) := by decide +kernel
theorem dX4_reason_14 : decode cX4_reason 14 = .ok (.iconst 1, 1) := by decide +kernel
theorem dX4_reason_15 : decode cX4_reason 15 = .ok (.iaload, 1) := by decide +kernel
theorem dX4_reason_16 : decode cX4_reason 16 = .ok (.bipush 12, 2) := by decide +kernel
theorem dX4_reason_18 : decode cX4_reason 18 = .ok (.if_icmp .ne 10, 3) := by decide +kernel
theorem dX4_reason_21 : decode cX4_reason 21 = .ok (.aload_n 0, 1) := by decide +kernel
theorem dX4_reason_22 : decode cX4_reason 22 = .ok (.iconst 1, 1) := by decide +kernel
theorem dX4_reason_23 : decode cX4_reason 23 = .ok (.iconst (-1), 1) := by decide +kernel
theorem dX4_reason_24 : decode cX4_reason 24 = .ok (.iconst (-1), 1) := by decide +kernel
theorem dX4_reason_25 : decode cX4_reason 25 = .ok (.invokevirtual 72, 3) := by decide +kernel
theorem dX4_reason_28 : decode cX4_reason 28 = .ok (.aload_n 0, 1) := by decide +kernel
theorem dX4_reason_29 : decode cX4_reason 29 = .ok (.getfield 55, 3) := by decide +kernel
theorem dX4_reason_32 : decode cX4_reason 32 = .ok (.ireturn, 1) := by decide +kernel
theorem dX4_makes_0 : decode cX4_makes 0 = .ok (.aload_n 0, 1) := by decide +kernel
theorem dX4_makes_1 : decode cX4_makes 1 = .ok (.getfield 7, 3) := by decide +kernel
theorem dX4_makes_4 : decode cX4_makes 4 = .ok (.iconst 1, 1) := by decide +kernel
theorem dX4_makes_5 : decode cX4_makes 5 = .ok (.iaload, 1) := by decide +kernel
theorem dX4_makes_6 : decode cX4_makes 6 = .ok (.istore 5, 2) := by decide +kernel
theorem dX4_makes_8 : decode cX4_makes 8 = .ok (.aload_n 0, 1) := by decide +kernel
theorem dX4_makes_9 : decode cX4_makes 9 = .ok (.iload 5, 2) := by decide +kernel
theorem dX4_makes_11 : decode cX4_makes 11 = .ok (.iconst 0, 1) := by decide +kernel
theorem dX4_makes_12 : decode cX4_makes 12 = .ok (.iload_n 1, 1) := by decide +kernel
theorem dX4_makes_13 : decode cX4_makes 13 = .ok (.invokevirtual 85, 3) := by decide +kernel
theorem dX4_makes_16 : decode cX4_makes 16 = .ok (.aload_n 0, 1) := by decide +kernel
theorem dX4_makes_17 : decode cX4_makes 17 = .ok (.iload 5, 2) := by decide +kernel
theorem dX4_makes_19 : decode cX4_makes 19 = .ok (.iconst 1, 1) := by decide +kernel
theorem dX4_makes_20 : decode cX4_makes 20 = .ok (.iload_n 2, 1) := by decide +kernel
theorem dX4_makes_21 : decode cX4_makes 21 = .ok (.invokevirtual 85, 3) := by decide +kernel
theorem dX4_makes_24 : decode cX4_makes 24 = .ok (.aload_n 0, 1) := by decide +kernel
theorem dX4_makes_25 : decode cX4_makes 25 = .ok (.iload 5, 2) := by decide +kernel
theorem dX4_makes_27 : decode cX4_makes 27 = .ok (.iconst 2, 1) := by decide +kernel
theorem dX4_makes_28 : decode cX4_makes 28 = .ok (.iload_n 3, 1) := by decide +kernel
theorem dX4_makes_29 : decode cX4_makes 29 = .ok (.invokevirtual 85, 3) := by decide +kernel
theorem dX4_makes_32 : decode cX4_makes 32 = .ok (.aload_n 0, 1) := by decide +kernel
theorem dX4_makes_33 : decode cX4_makes 33 = .ok (.iload 5, 2) := by decide +kernel
theorem dX4_makes_35 : decode cX4_makes 35 = .ok (.iconst 3, 1) := by decide +kernel
theorem dX4_makes_36 : decode cX4_makes 36 = .ok (.iload 4, 2) := by decide +kernel
theorem dX4_makes_38 : decode cX4_makes 38 = .ok (.invokevirtual 85, 3) := by decide +kernel
theorem dX4_makes_41 : decode cX4_makes 41 = .ok (.aload_n 0, 1) := by decide +kernel
theorem dX4_makes_42 : decode cX4_makes 42 = .ok (.iload 5, 2) := by decide +kernel
theorem dX4_makes_44 : decode cX4_makes 44 = .ok (.iconst 4, 1) := by decide +kernel
theorem dX4_makes_45 : decode cX4_makes 45 = .ok (.iconst 0, 1) := by decide +kernel
theorem dX4_makes_46 : decode cX4_makes 46 = .ok (.invokevirtual 85, 3) := by decide +kernel
theorem dX4_makes_49 : decode cX4_makes 49 = .ok (.aload_n 0, 1) := by decide +kernel
theorem dX4_makes_50 : decode cX4_makes 50 = .ok (.getfield 7, 3) := by decide +kernel
theorem dX4_makes_53 : decode cX4_makes 53 = .ok (.iconst 1, 1) := by decide +kernel
theorem dX4_makes_54 : decode cX4_makes 54 = .ok (.dup2, 1) := by decide +kernel
theorem dX4_makes_55 : decode cX4_makes 55 = .ok (.iaload, 1) := by decide +kernel
theorem dX4_makes_56 : decode cX4_makes 56 = .ok (.iconst 1, 1) := by decide +kernel
theorem dX4_makes_57 : decode cX4_makes 57 = .ok (.iadd, 1) := by decide +kernel
theorem dX4_makes_58 : decode cX4_makes 58 = .ok (.iastore, 1) := by decide +kernel
theorem dX4_makes_59 : decode cX4_makes 59 = .ok (.return_, 1) := by decide +kernel
theorem dX4_isFilm_0 : decode cX4_isFilm 0 = .ok (.iload_n 1, 1) := by decide +kernel
theorem dX4_isFilm_1 : decode cX4_isFilm 1 = .ok (.iconst 0, 1) := by decide +kernel
theorem dX4_isFilm_2 : decode cX4_isFilm 2 = .ok (.aload_n 0, 1) := by decide +kernel
theorem dX4_isFilm_3 : decode cX4_isFilm 3 = .ok (.getfield 7, 3) := by decide +kernel
theorem dX4_isFilm_6 : decode cX4_isFilm 6 = .ok (.iconst 0, 1) := by decide +kernel
theorem dX4_isFilm_7 : decode cX4_isFilm 7 = .ok (.iaload, 1) := by decide +kernel
theorem dX4_isFilm_8 : decode cX4_isFilm 8 = .ok (.iconst 1, 1) := by decide +kernel
theorem dX4_isFilm_9 : decode cX4_isFilm 9 = .ok (.isub, 1) := by decide +kernel
theorem dX4_isFilm_10 : decode cX4_isFilm 10 = .ok (.invokestatic 88, 3) := by decide +kernel
theorem dX4_isFilm_13 : decode cX4_isFilm 13 = .ok (.ireturn, 1) := by decide +kernel
theorem dX4_isScreen_0 : decode cX4_isScreen 0 = .ok (.iload_n 0, 1) := by decide +kernel
theorem dX4_isScreen_1 : decode cX4_isScreen 1 = .ok (.iconst 0, 1) := by decide +kernel
theorem dX4_isScreen_2 : decode cX4_isScreen 2 = .ok (.iconst 2, 1) := by decide +kernel
theorem dX4_isScreen_3 : decode cX4_isScreen 3 = .ok (.invokestatic 88, 3) := by decide +kernel
theorem dX4_isScreen_6 : decode cX4_isScreen 6 = .ok (.ireturn, 1) := by decide +kernel
theorem dX4_isShowing_0 : decode cX4_isShowing 0 = .ok (.iload_n 1, 1) := by decide +kernel
theorem dX4_isShowing_1 : decode cX4_isShowing 1 = .ok (.iconst 0, 1) := by decide +kernel
theorem dX4_isShowing_2 : decode cX4_isShowing 2 = .ok (.aload_n 0, 1) := by decide +kernel
theorem dX4_isShowing_3 : decode cX4_isShowing 3 = .ok (.getfield 7, 3) := by decide +kernel
theorem dX4_isShowing_6 : decode cX4_isShowing 6 = .ok (.iconst 1, 1) := by decide +kernel
theorem dX4_isShowing_7 : decode cX4_isShowing 7 = .ok (.iaload, 1) := by decide +kernel
theorem dX4_isShowing_8 : decode cX4_isShowing 8 = .ok (.iconst 1, 1) := by decide +kernel
theorem dX4_isShowing_9 : decode cX4_isShowing 9 = .ok (.isub, 1) := by decide +kernel
theorem dX4_isShowing_10 : decode cX4_isShowing 10 = .ok (.invokestatic 88, 3) := by decide +kernel
theorem dX4_isShowing_13 : decode cX4_isShowing 13 = .ok (.ireturn, 1) := by decide +kernel
theorem dX4_isMinute_0 : decode cX4_isMinute 0 = .ok (.iload_n 0, 1) := by decide +kernel
theorem dX4_isMinute_1 : decode cX4_isMinute 1 = .ok (.iconst 0, 1) := by decide +kernel
theorem dX4_isMinute_2 : decode cX4_isMinute 2 = .ok (.sipush 1999, 3) := by decide +kernel
theorem dX4_isMinute_5 : decode cX4_isMinute 5 = .ok (.invokestatic 88, 3) := by decide +kernel
theorem dX4_isMinute_8 : decode cX4_isMinute 8 = .ok (.ireturn, 1) := by decide +kernel
theorem dX4_film_0 : decode cX4_film 0 = .ok (.aload_n 0, 1) := by decide +kernel
theorem dX4_film_1 : decode cX4_film 1 = .ok (.iconst 0, 1) := by decide +kernel
theorem dX4_film_2 : decode cX4_film 2 = .ok (.putfield 29, 3) := by decide +kernel
theorem dX4_film_5 : decode cX4_film 5 = .ok (.iload_n 1, 1) := by decide +kernel
theorem dX4_film_6 : decode cX4_film 6 = .ok (.iconst 1, 1) := by decide +kernel
theorem dX4_film_7 : decode cX4_film 7 = .ok (.bipush 6, 2) := by decide +kernel
theorem dX4_film_9 : decode cX4_film 9 = .ok (.invokestatic 88, 3) := by decide +kernel
theorem dX4_film_12 : decode cX4_film 12 = .ok (.ifCond .eq 14, 3) := by decide +kernel
theorem dX4_film_15 : decode cX4_film 15 = .ok (.iload_n 2, 1) := by decide +kernel
theorem dX4_film_16 : decode cX4_film 16 = .ok (.bipush 10, 2) := by decide +kernel
theorem dX4_film_18 : decode cX4_film 18 = .ok (.bipush 25, 2) := by decide +kernel
theorem dX4_film_20 : decode cX4_film 20 = .ok (.invokestatic 88, 3) := by decide +kernel
theorem dX4_film_23 : decode cX4_film 23 = .ok (.ifCond .ne 9, 3) := by decide +kernel
theorem dX4_film_26 : decode cX4_film 26 = .ok (.aload_n 0, 1) := by decide +kernel
theorem dX4_film_27 : decode cX4_film 27 = .ok (.iconst 1, 1) := by decide +kernel
theorem dX4_film_28 : decode cX4_film 28 = .ok (.invokevirtual 92, 3) := by decide +kernel
theorem dX4_film_31 : decode cX4_film 31 = .ok (.ireturn, 1) := by decide +kernel
theorem dX4_film_32 : decode cX4_film 32 = .ok (.aload_n 0, 1) := by decide +kernel
theorem dX4_film_33 : decode cX4_film 33 = .ok (.getfield 7, 3) := by decide +kernel
theorem dX4_film_36 : decode cX4_film 36 = .ok (.iconst 0, 1) := by decide +kernel
theorem dX4_film_37 : decode cX4_film 37 = .ok (.iaload, 1) := by decide +kernel
theorem dX4_film_38 : decode cX4_film 38 = .ok (.bipush 8, 2) := by decide +kernel
theorem dX4_film_40 : decode cX4_film 40 = .ok (.if_icmp .ne 9, 3) := by decide +kernel
theorem dX4_film_43 : decode cX4_film 43 = .ok (.aload_n 0, 1) := by decide +kernel
theorem dX4_film_44 : decode cX4_film 44 = .ok (.iconst 2, 1) := by decide +kernel
theorem dX4_film_45 : decode cX4_film 45 = .ok (.invokevirtual 92, 3) := by decide +kernel
theorem dX4_film_48 : decode cX4_film 48 = .ok (.ireturn, 1) := by decide +kernel
theorem dX4_film_49 : decode cX4_film 49 = .ok (.aload_n 0, 1) := by decide +kernel
theorem dX4_film_50 : decode cX4_film 50 = .ok (.invokevirtual 95, 3) := by decide +kernel
theorem dX4_film_53 : decode cX4_film 53 = .ok (.aload_n 0, 1) := by decide +kernel
theorem dX4_film_54 : decode cX4_film 54 = .ok (.getfield 7, 3) := by decide +kernel
theorem dX4_film_57 : decode cX4_film 57 = .ok (.iconst 0, 1) := by decide +kernel
theorem dX4_film_58 : decode cX4_film 58 = .ok (.iaload, 1) := by decide +kernel
theorem dX4_film_59 : decode cX4_film 59 = .ok (.istore_n 3, 1) := by decide +kernel
theorem dX4_film_60 : decode cX4_film 60 = .ok (.aload_n 0, 1) := by decide +kernel
theorem dX4_film_61 : decode cX4_film 61 = .ok (.getfield 7, 3) := by decide +kernel
theorem dX4_film_64 : decode cX4_film 64 = .ok (.bipush 10, 2) := by decide +kernel
theorem dX4_film_66 : decode cX4_film 66 = .ok (.iconst 2, 1) := by decide +kernel
theorem dX4_film_67 : decode cX4_film 67 = .ok (.iload_n 3, 1) := by decide +kernel
theorem dX4_film_68 : decode cX4_film 68 = .ok (.imul, 1) := by decide +kernel
theorem dX4_film_69 : decode cX4_film 69 = .ok (.iadd, 1) := by decide +kernel
theorem dX4_film_70 : decode cX4_film 70 = .ok (.iload_n 1, 1) := by decide +kernel
theorem dX4_film_71 : decode cX4_film 71 = .ok (.iastore, 1) := by decide +kernel
theorem dX4_film_72 : decode cX4_film 72 = .ok (.aload_n 0, 1) := by decide +kernel
theorem dX4_film_73 : decode cX4_film 73 = .ok (.getfield 7, 3) := by decide +kernel
theorem dX4_film_76 : decode cX4_film 76 = .ok (.bipush 10, 2) := by decide +kernel
theorem dX4_film_78 : decode cX4_film 78 = .ok (.iconst 2, 1) := by decide +kernel
theorem dX4_film_79 : decode cX4_film 79 = .ok (.iload_n 3, 1) := by decide +kernel
theorem dX4_film_80 : decode cX4_film 80 = .ok (.imul, 1) := by decide +kernel
theorem dX4_film_81 : decode cX4_film 81 = .ok (.iadd, 1) := by decide +kernel
theorem dX4_film_82 : decode cX4_film 82 = .ok (.iconst 1, 1) := by decide +kernel
theorem dX4_film_83 : decode cX4_film 83 = .ok (.iadd, 1) := by decide +kernel
theorem dX4_film_84 : decode cX4_film 84 = .ok (.iload_n 2, 1) := by decide +kernel
theorem dX4_film_85 : decode cX4_film 85 = .ok (.iastore, 1) := by decide +kernel
theorem dX4_film_86 : decode cX4_film 86 = .ok (.aload_n 0, 1) := by decide +kernel
theorem dX4_film_87 : decode cX4_film 87 = .ok (.getfield 7, 3) := by decide +kernel
theorem dX4_film_90 : decode cX4_film 90 = .ok (.iconst 0, 1) := by decide +kernel
theorem dX4_film_91 : decode cX4_film 91 = .ok (.dup2, 1) := by decide +kernel
theorem dX4_film_92 : decode cX4_film 92 = .ok (.iaload, 1) := by decide +kernel
theorem dX4_film_93 : decode cX4_film 93 = .ok (.iconst 1, 1) := by decide +kernel
theorem dX4_film_94 : decode cX4_film 94 = .ok (.iadd, 1) := by decide +kernel
theorem dX4_film_95 : decode cX4_film 95 = .ok (.iastore, 1) := by decide +kernel
theorem dX4_film_96 : decode cX4_film 96 = .ok (.iload_n 3, 1) := by decide +kernel
theorem dX4_film_97 : decode cX4_film 97 = .ok (.ireturn, 1) := by decide +kernel
theorem dX4_seats_0 : decode cX4_seats 0 = .ok (.aload_n 0, 1) := by decide +kernel
theorem dX4_seats_1 : decode cX4_seats 1 = .ok (.iconst 0, 1) := by decide +kernel
theorem dX4_seats_2 : decode cX4_seats 2 = .ok (.putfield 29, 3) := by decide +kernel
theorem dX4_seats_5 : decode cX4_seats 5 = .ok (.iload_n 1, 1) := by decide +kernel
theorem dX4_seats_6 : decode cX4_seats 6 = .ok (.invokestatic 98, 3) := by decide +kernel
theorem dX4_seats_9 : decode cX4_seats 9 = .ok (.ifCond .ne 9, 3) := by decide +kernel
theorem dX4_seats_12 : decode cX4_seats 12 = .ok (.aload_n 0, 1) := by decide +kernel
theorem dX4_seats_13 : decode cX4_seats 13 = .ok (.iconst 1, 1) := by decide +kernel
theorem dX4_seats_14 : decode cX4_seats 14 = .ok (.invokevirtual 92, 3) := by decide +kernel
theorem dX4_seats_17 : decode cX4_seats 17 = .ok (.ireturn, 1) := by decide +kernel
theorem dX4_seats_18 : decode cX4_seats 18 = .ok (.iload_n 2, 1) := by decide +kernel
theorem dX4_seats_19 : decode cX4_seats 19 = .ok (.bipush 50, 2) := by decide +kernel
theorem dX4_seats_21 : decode cX4_seats 21 = .ok (.sipush 400, 3) := by decide +kernel
theorem dX4_seats_24 : decode cX4_seats 24 = .ok (.invokestatic 88, 3) := by decide +kernel
theorem dX4_seats_27 : decode cX4_seats 27 = .ok (.ifCond .ne 9, 3) := by decide +kernel
theorem dX4_seats_30 : decode cX4_seats 30 = .ok (.aload_n 0, 1) := by decide +kernel
theorem dX4_seats_31 : decode cX4_seats 31 = .ok (.iconst 2, 1) := by decide +kernel
theorem dX4_seats_32 : decode cX4_seats 32 = .ok (.invokevirtual 92, 3) := by decide +kernel
theorem dX4_seats_35 : decode cX4_seats 35 = .ok (.ireturn, 1) := by decide +kernel
theorem dX4_seats_36 : decode cX4_seats 36 = .ok (.aload_n 0, 1) := by decide +kernel
theorem dX4_seats_37 : decode cX4_seats 37 = .ok (.invokevirtual 95, 3) := by decide +kernel
theorem dX4_seats_40 : decode cX4_seats 40 = .ok (.aload_n 0, 1) := by decide +kernel
theorem dX4_seats_41 : decode cX4_seats 41 = .ok (.getfield 7, 3) := by decide +kernel
theorem dX4_seats_44 : decode cX4_seats 44 = .ok (.bipush 7, 2) := by decide +kernel
theorem dX4_seats_46 : decode cX4_seats 46 = .ok (.iload_n 1, 1) := by decide +kernel
theorem dX4_seats_47 : decode cX4_seats 47 = .ok (.iadd, 1) := by decide +kernel
theorem dX4_seats_48 : decode cX4_seats 48 = .ok (.iaload, 1) := by decide +kernel
theorem dX4_seats_49 : decode cX4_seats 49 = .ok (.istore_n 3, 1) := by decide +kernel
theorem dX4_seats_50 : decode cX4_seats 50 = .ok (.aload_n 0, 1) := by decide +kernel
theorem dX4_seats_51 : decode cX4_seats 51 = .ok (.getfield 7, 3) := by decide +kernel
theorem dX4_seats_54 : decode cX4_seats 54 = .ok (.bipush 7, 2) := by decide +kernel
theorem dX4_seats_56 : decode cX4_seats 56 = .ok (.iload_n 1, 1) := by decide +kernel
theorem dX4_seats_57 : decode cX4_seats 57 = .ok (.iadd, 1) := by decide +kernel
theorem dX4_seats_58 : decode cX4_seats 58 = .ok (.iload_n 2, 1) := by decide +kernel
theorem dX4_seats_59 : decode cX4_seats 59 = .ok (.iastore, 1) := by decide +kernel
theorem dX4_seats_60 : decode cX4_seats 60 = .ok (.iload_n 3, 1) := by decide +kernel
theorem dX4_seats_61 : decode cX4_seats 61 = .ok (.ireturn, 1) := by decide +kernel
theorem dX4_set_0 : decode cX4_set 0 = .ok (.aload_n 0, 1) := by decide +kernel
theorem dX4_set_1 : decode cX4_set 1 = .ok (.iconst 0, 1) := by decide +kernel
theorem dX4_set_2 : decode cX4_set 2 = .ok (.putfield 29, 3) := by decide +kernel
theorem dX4_set_5 : decode cX4_set 5 = .ok (.iload_n 1, 1) := by decide +kernel
theorem dX4_set_6 : decode cX4_set 6 = .ok (.iconst 0, 1) := by decide +kernel
theorem dX4_set_7 : decode cX4_set 7 = .ok (.iconst 3, 1) := by decide +kernel
theorem dX4_set_8 : decode cX4_set 8 = .ok (.invokestatic 88, 3) := by decide +kernel
theorem dX4_set_11 : decode cX4_set 11 = .ok (.ifCond .ne 9, 3) := by decide +kernel
theorem dX4_set_14 : decode cX4_set 14 = .ok (.aload_n 0, 1) := by decide +kernel
theorem dX4_set_15 : decode cX4_set 15 = .ok (.iconst 1, 1) := by decide +kernel
theorem dX4_set_16 : decode cX4_set 16 = .ok (.invokevirtual 92, 3) := by decide +kernel
theorem dX4_set_19 : decode cX4_set 19 = .ok (.ireturn, 1) := by decide +kernel
theorem dX4_set_20 : decode cX4_set 20 = .ok (.iload_n 2, 1) := by decide +kernel
theorem dX4_set_21 : decode cX4_set 21 = .ok (.iconst 0, 1) := by decide +kernel
theorem dX4_set_22 : decode cX4_set 22 = .ok (.bipush 60, 2) := by decide +kernel
theorem dX4_set_24 : decode cX4_set 24 = .ok (.invokestatic 88, 3) := by decide +kernel
theorem dX4_set_27 : decode cX4_set 27 = .ok (.ifCond .ne 9, 3) := by decide +kernel
theorem dX4_set_30 : decode cX4_set 30 = .ok (.aload_n 0, 1) := by decide +kernel
theorem dX4_set_31 : decode cX4_set 31 = .ok (.iconst 2, 1) := by decide +kernel
theorem dX4_set_32 : decode cX4_set 32 = .ok (.invokevirtual 92, 3) := by decide +kernel
theorem dX4_set_35 : decode cX4_set 35 = .ok (.ireturn, 1) := by decide +kernel
theorem dX4_set_36 : decode cX4_set 36 = .ok (.aload_n 0, 1) := by decide +kernel
theorem dX4_set_37 : decode cX4_set 37 = .ok (.invokevirtual 95, 3) := by decide +kernel
theorem dX4_set_40 : decode cX4_set 40 = .ok (.aload_n 0, 1) := by decide +kernel
theorem dX4_set_41 : decode cX4_set 41 = .ok (.getfield 7, 3) := by decide +kernel
theorem dX4_set_44 : decode cX4_set 44 = .ok (.iconst 3, 1) := by decide +kernel
theorem dX4_set_45 : decode cX4_set 45 = .ok (.iload_n 1, 1) := by decide +kernel
theorem dX4_set_46 : decode cX4_set 46 = .ok (.iadd, 1) := by decide +kernel
theorem dX4_set_47 : decode cX4_set 47 = .ok (.iaload, 1) := by decide +kernel
theorem dX4_set_48 : decode cX4_set 48 = .ok (.istore_n 3, 1) := by decide +kernel
theorem dX4_set_49 : decode cX4_set 49 = .ok (.aload_n 0, 1) := by decide +kernel
theorem dX4_set_50 : decode cX4_set 50 = .ok (.getfield 7, 3) := by decide +kernel
theorem dX4_set_53 : decode cX4_set 53 = .ok (.iconst 3, 1) := by decide +kernel
theorem dX4_set_54 : decode cX4_set 54 = .ok (.iload_n 1, 1) := by decide +kernel
theorem dX4_set_55 : decode cX4_set 55 = .ok (.iadd, 1) := by decide +kernel
theorem dX4_set_56 : decode cX4_set 56 = .ok (.iload_n 2, 1) := by decide +kernel
theorem dX4_set_57 : decode cX4_set 57 = .ok (.iastore, 1) := by decide +kernel
theorem dX4_set_58 : decode cX4_set 58 = .ok (.iload_n 3, 1) := by decide +kernel
theorem dX4_set_59 : decode cX4_set 59 = .ok (.ireturn, 1) := by decide +kernel
theorem dX4_show_0 : decode cX4_show 0 = .ok (.aload_n 0, 1) := by decide +kernel
theorem dX4_show_1 : decode cX4_show 1 = .ok (.iconst 0, 1) := by decide +kernel
theorem dX4_show_2 : decode cX4_show 2 = .ok (.putfield 29, 3) := by decide +kernel
theorem dX4_show_5 : decode cX4_show 5 = .ok (.aload_n 0, 1) := by decide +kernel
theorem dX4_show_6 : decode cX4_show 6 = .ok (.iload_n 1, 1) := by decide +kernel
theorem dX4_show_7 : decode cX4_show 7 = .ok (.invokevirtual 102, 3) := by decide +kernel
theorem dX4_show_10 : decode cX4_show 10 = .ok (.ifCond .eq 10, 3) := by decide +kernel
theorem dX4_show_13 : decode cX4_show 13 = .ok (.iload_n 2, 1) := by decide +kernel
theorem dX4_show_14 : decode cX4_show 14 = .ok (.invokestatic 98, 3) := by decide +kernel
theorem dX4_show_17 : decode cX4_show 17 = .ok (.ifCond .ne 9, 3) := by decide +kernel
theorem dX4_show_20 : decode cX4_show 20 = .ok (.aload_n 0, 1) := by decide +kernel
theorem dX4_show_21 : decode cX4_show 21 = .ok (.iconst 1, 1) := by decide +kernel
theorem dX4_show_22 : decode cX4_show 22 = .ok (.invokevirtual 92, 3) := by decide +kernel
theorem dX4_show_25 : decode cX4_show 25 = .ok (.ireturn, 1) := by decide +kernel
theorem dX4_show_26 : decode cX4_show 26 = .ok (.iload_n 3, 1) := by decide +kernel
theorem dX4_show_27 : decode cX4_show 27 = .ok (.invokestatic 105, 3) := by decide +kernel
theorem dX4_show_30 : decode cX4_show 30 = .ok (.ifCond .eq 14, 3) := by decide +kernel
theorem dX4_show_33 : decode cX4_show 33 = .ok (.iload 4, 2) := by decide +kernel
theorem dX4_show_35 : decode cX4_show 35 = .ok (.iconst 0, 1) := by decide +kernel
theorem dX4_show_36 : decode cX4_show 36 = .ok (.bipush 20, 2) := by decide +kernel
theorem dX4_show_38 : decode cX4_show 38 = .ok (.invokestatic 88, 3) := by decide +kernel
theorem dX4_show_41 : decode cX4_show 41 = .ok (.ifCond .ne 9, 3) := by decide +kernel
theorem dX4_show_44 : decode cX4_show 44 = .ok (.aload_n 0, 1) := by decide +kernel
theorem dX4_show_45 : decode cX4_show 45 = .ok (.iconst 2, 1) := by decide +kernel
theorem dX4_show_46 : decode cX4_show 46 = .ok (.invokevirtual 92, 3) := by decide +kernel
theorem dX4_show_49 : decode cX4_show 49 = .ok (.ireturn, 1) := by decide +kernel
theorem dX4_show_50 : decode cX4_show 50 = .ok (.aload_n 0, 1) := by decide +kernel
theorem dX4_show_51 : decode cX4_show 51 = .ok (.iload_n 1, 1) := by decide +kernel
theorem dX4_show_52 : decode cX4_show 52 = .ok (.iload_n 2, 1) := by decide +kernel
theorem dX4_show_53 : decode cX4_show 53 = .ok (.iload_n 3, 1) := by decide +kernel
theorem dX4_show_54 : decode cX4_show 54 = .ok (.iload 4, 2) := by decide +kernel
theorem dX4_show_56 : decode cX4_show 56 = .ok (.invokevirtual 108, 3) := by decide +kernel
theorem dX4_show_59 : decode cX4_show 59 = .ok (.ifCond .eq 9, 3) := by decide +kernel
theorem dX4_show_62 : decode cX4_show 62 = .ok (.aload_n 0, 1) := by decide +kernel
theorem dX4_show_63 : decode cX4_show 63 = .ok (.iconst 3, 1) := by decide +kernel
theorem dX4_show_64 : decode cX4_show 64 = .ok (.invokevirtual 92, 3) := by decide +kernel
theorem dX4_show_67 : decode cX4_show 67 = .ok (.ireturn, 1) := by decide +kernel
theorem dX4_show_68 : decode cX4_show 68 = .ok (.aload_n 0, 1) := by decide +kernel
theorem dX4_show_69 : decode cX4_show 69 = .ok (.invokevirtual 95, 3) := by decide +kernel
theorem dX4_show_72 : decode cX4_show 72 = .ok (.aload_n 0, 1) := by decide +kernel
theorem dX4_show_73 : decode cX4_show 73 = .ok (.iload_n 1, 1) := by decide +kernel
theorem dX4_show_74 : decode cX4_show 74 = .ok (.iload_n 2, 1) := by decide +kernel
theorem dX4_show_75 : decode cX4_show 75 = .ok (.iload_n 3, 1) := by decide +kernel
theorem dX4_show_76 : decode cX4_show 76 = .ok (.iload 4, 2) := by decide +kernel
theorem dX4_show_78 : decode cX4_show 78 = .ok (.invokevirtual 111, 3) := by decide +kernel
theorem dX4_show_81 : decode cX4_show 81 = .ok (.aload_n 0, 1) := by decide +kernel
theorem dX4_show_82 : decode cX4_show 82 = .ok (.getfield 7, 3) := by decide +kernel
theorem dX4_show_85 : decode cX4_show 85 = .ok (.iconst 1, 1) := by decide +kernel
theorem dX4_show_86 : decode cX4_show 86 = .ok (.iaload, 1) := by decide +kernel
theorem dX4_show_87 : decode cX4_show 87 = .ok (.iconst 1, 1) := by decide +kernel
theorem dX4_show_88 : decode cX4_show 88 = .ok (.isub, 1) := by decide +kernel
theorem dX4_show_89 : decode cX4_show 89 = .ok (.ireturn, 1) := by decide +kernel
theorem dX4_bits_0 : decode cX4_bits 0 = .ok (.iload_n 0, 1) := by decide +kernel
theorem dX4_bits_1 : decode cX4_bits 1 = .ok (.iconst 1, 1) := by decide +kernel
theorem dX4_bits_2 : decode cX4_bits 2 = .ok (.iand, 1) := by decide +kernel
theorem dX4_bits_3 : decode cX4_bits 3 = .ok (.iload_n 0, 1) := by decide +kernel
theorem dX4_bits_4 : decode cX4_bits 4 = .ok (.iconst 1, 1) := by decide +kernel
theorem dX4_bits_5 : decode cX4_bits 5 = .ok (.ishr, 1) := by decide +kernel
theorem dX4_bits_6 : decode cX4_bits 6 = .ok (.iconst 1, 1) := by decide +kernel
theorem dX4_bits_7 : decode cX4_bits 7 = .ok (.iand, 1) := by decide +kernel
theorem dX4_bits_8 : decode cX4_bits 8 = .ok (.iadd, 1) := by decide +kernel
theorem dX4_bits_9 : decode cX4_bits 9 = .ok (.iload_n 0, 1) := by decide +kernel
theorem dX4_bits_10 : decode cX4_bits 10 = .ok (.iconst 2, 1) := by decide +kernel
theorem dX4_bits_11 : decode cX4_bits 11 = .ok (.ishr, 1) := by decide +kernel
theorem dX4_bits_12 : decode cX4_bits 12 = .ok (.iconst 1, 1) := by decide +kernel
theorem dX4_bits_13 : decode cX4_bits 13 = .ok (.iand, 1) := by decide +kernel
theorem dX4_bits_14 : decode cX4_bits 14 = .ok (.iadd, 1) := by decide +kernel
theorem dX4_bits_15 : decode cX4_bits 15 = .ok (.ireturn, 1) := by decide +kernel
theorem dX4_callOff_0 : decode cX4_callOff 0 = .ok (.aload_n 0, 1) := by decide +kernel
theorem dX4_callOff_1 : decode cX4_callOff 1 = .ok (.iconst 0, 1) := by decide +kernel
theorem dX4_callOff_2 : decode cX4_callOff 2 = .ok (.putfield 29, 3) := by decide +kernel
theorem dX4_callOff_5 : decode cX4_callOff 5 = .ok (.aload_n 0, 1) := by decide +kernel
theorem dX4_callOff_6 : decode cX4_callOff 6 = .ok (.iload_n 1, 1) := by decide +kernel
theorem dX4_callOff_7 : decode cX4_callOff 7 = .ok (.invokevirtual 115, 3) := by decide +kernel
theorem dX4_callOff_10 : decode cX4_callOff 10 = .ok (.ifCond .ne 9, 3) := by decide +kernel
theorem dX4_callOff_13 : decode cX4_callOff 13 = .ok (.aload_n 0, 1) := by decide +kernel
theorem dX4_callOff_14 : decode cX4_callOff 14 = .ok (.iconst 1, 1) := by decide +kernel
theorem dX4_callOff_15 : decode cX4_callOff 15 = .ok (.invokevirtual 92, 3) := by decide +kernel
theorem dX4_callOff_18 : decode cX4_callOff 18 = .ok (.ireturn, 1) := by decide +kernel
theorem dX4_callOff_19 : decode cX4_callOff 19 = .ok (.aload_n 0, 1) := by decide +kernel
theorem dX4_callOff_20 : decode cX4_callOff 20 = .ok (.invokevirtual 95, 3) := by decide +kernel
theorem dX4_callOff_23 : decode cX4_callOff 23 = .ok (.aload_n 0, 1) := by decide +kernel
theorem dX4_callOff_24 : decode cX4_callOff 24 = .ok (.iload_n 1, 1) := by decide +kernel
theorem dX4_callOff_25 : decode cX4_callOff 25 = .ok (.iconst 4, 1) := by decide +kernel
theorem dX4_callOff_26 : decode cX4_callOff 26 = .ok (.invokevirtual 47, 3) := by decide +kernel
theorem dX4_callOff_29 : decode cX4_callOff 29 = .ok (.invokestatic 118, 3) := by decide +kernel
theorem dX4_callOff_32 : decode cX4_callOff 32 = .ok (.istore_n 2, 1) := by decide +kernel
theorem dX4_callOff_33 : decode cX4_callOff 33 = .ok (.aload_n 0, 1) := by decide +kernel
theorem dX4_callOff_34 : decode cX4_callOff 34 = .ok (.getfield 7, 3) := by decide +kernel
theorem dX4_callOff_37 : decode cX4_callOff 37 = .ok (.iconst 1, 1) := by decide +kernel
theorem dX4_callOff_38 : decode cX4_callOff 38 = .ok (.dup2, 1) := by decide +kernel
theorem dX4_callOff_39 : decode cX4_callOff 39 = .ok (.iaload, 1) := by decide +kernel
theorem dX4_callOff_40 : decode cX4_callOff 40 = .ok (.iconst 1, 1) := by decide +kernel
theorem dX4_callOff_41 : decode cX4_callOff 41 = .ok (.isub, 1) := by decide +kernel
theorem dX4_callOff_42 : decode cX4_callOff 42 = .ok (.iastore, 1) := by decide +kernel
theorem dX4_callOff_43 : decode cX4_callOff 43 = .ok (.bipush 26, 2) := by decide +kernel
theorem dX4_callOff_45 : decode cX4_callOff 45 = .ok (.iconst 5, 1) := by decide +kernel
theorem dX4_callOff_46 : decode cX4_callOff 46 = .ok (.iload_n 1, 1) := by decide +kernel
theorem dX4_callOff_47 : decode cX4_callOff 47 = .ok (.imul, 1) := by decide +kernel
theorem dX4_callOff_48 : decode cX4_callOff 48 = .ok (.iadd, 1) := by decide +kernel
theorem dX4_callOff_49 : decode cX4_callOff 49 = .ok (.istore_n 3, 1) := by decide +kernel
theorem dX4_callOff_50 : decode cX4_callOff 50 = .ok (.iload_n 3, 1) := by decide +kernel
theorem dX4_callOff_51 : decode cX4_callOff 51 = .ok (.bipush 26, 2) := by decide +kernel
theorem dX4_callOff_53 : decode cX4_callOff 53 = .ok (.iconst 5, 1) := by decide +kernel
theorem dX4_callOff_54 : decode cX4_callOff 54 = .ok (.aload_n 0, 1) := by decide +kernel
theorem dX4_callOff_55 : decode cX4_callOff 55 = .ok (.getfield 7, 3) := by decide +kernel
theorem dX4_callOff_58 : decode cX4_callOff 58 = .ok (.iconst 1, 1) := by decide +kernel
theorem dX4_callOff_59 : decode cX4_callOff 59 = .ok (.iaload, 1) := by decide +kernel
theorem dX4_callOff_60 : decode cX4_callOff 60 = .ok (.imul, 1) := by decide +kernel
theorem dX4_callOff_61 : decode cX4_callOff 61 = .ok (.iadd, 1) := by decide +kernel
theorem dX4_callOff_62 : decode cX4_callOff 62 = .ok (.if_icmp .ge 23, 3) := by decide +kernel
theorem dX4_callOff_65 : decode cX4_callOff 65 = .ok (.aload_n 0, 1) := by decide +kernel
theorem dX4_callOff_66 : decode cX4_callOff 66 = .ok (.getfield 7, 3) := by decide +kernel
theorem dX4_callOff_69 : decode cX4_callOff 69 = .ok (.iload_n 3, 1) := by decide +kernel
theorem dX4_callOff_70 : decode cX4_callOff 70 = .ok (.aload_n 0, 1) := by decide +kernel
theorem dX4_callOff_71 : decode cX4_callOff 71 = .ok (.getfield 7, 3) := by decide +kernel
theorem dX4_callOff_74 : decode cX4_callOff 74 = .ok (.iload_n 3, 1) := by decide +kernel
theorem dX4_callOff_75 : decode cX4_callOff 75 = .ok (.iconst 5, 1) := by decide +kernel
theorem dX4_callOff_76 : decode cX4_callOff 76 = .ok (.iadd, 1) := by decide +kernel
theorem dX4_callOff_77 : decode cX4_callOff 77 = .ok (.iaload, 1) := by decide +kernel
theorem dX4_callOff_78 : decode cX4_callOff 78 = .ok (.iastore, 1) := by decide +kernel
theorem dX4_callOff_79 : decode cX4_callOff 79 = .ok (.iinc 3 1, 3) := by decide +kernel
theorem dX4_callOff_82 : decode cX4_callOff 82 = .ok (.goto (-32), 3) := by decide +kernel
theorem dX4_callOff_85 : decode cX4_callOff 85 = .ok (.aload_n 0, 1) := by decide +kernel
theorem dX4_callOff_86 : decode cX4_callOff 86 = .ok (.getfield 7, 3) := by decide +kernel
theorem dX4_callOff_89 : decode cX4_callOff 89 = .ok (.sipush 128, 3) := by decide +kernel
theorem dX4_callOff_92 : decode cX4_callOff 92 = .ok (.dup2, 1) := by decide +kernel
theorem dX4_callOff_93 : decode cX4_callOff 93 = .ok (.iaload, 1) := by decide +kernel
theorem dX4_callOff_94 : decode cX4_callOff 94 = .ok (.iconst 1, 1) := by decide +kernel
theorem dX4_callOff_95 : decode cX4_callOff 95 = .ok (.iadd, 1) := by decide +kernel
theorem dX4_callOff_96 : decode cX4_callOff 96 = .ok (.iastore, 1) := by decide +kernel
theorem dX4_callOff_97 : decode cX4_callOff 97 = .ok (.iload_n 2, 1) := by decide +kernel
theorem dX4_callOff_98 : decode cX4_callOff 98 = .ok (.ireturn, 1) := by decide +kernel
theorem dX4_goes_0 : decode cX4_goes 0 = .ok (.aload_n 0, 1) := by decide +kernel
theorem dX4_goes_1 : decode cX4_goes 1 = .ok (.iload_n 2, 1) := by decide +kernel
theorem dX4_goes_2 : decode cX4_goes 2 = .ok (.iconst 4, 1) := by decide +kernel
theorem dX4_goes_3 : decode cX4_goes 3 = .ok (.invokevirtual 47, 3) := by decide +kernel
theorem dX4_goes_6 : decode cX4_goes 6 = .ok (.iload_n 1, 1) := by decide +kernel
theorem dX4_goes_7 : decode cX4_goes 7 = .ok (.ishr, 1) := by decide +kernel
theorem dX4_goes_8 : decode cX4_goes 8 = .ok (.iconst 1, 1) := by decide +kernel
theorem dX4_goes_9 : decode cX4_goes 9 = .ok (.iand, 1) := by decide +kernel
theorem dX4_goes_10 : decode cX4_goes 10 = .ok (.iconst 1, 1) := by decide +kernel
theorem dX4_goes_11 : decode cX4_goes 11 = .ok (.if_icmp .ne 7, 3) := by decide +kernel
theorem dX4_goes_14 : decode cX4_goes 14 = .ok (.iconst 1, 1) := by decide +kernel
theorem dX4_goes_15 : decode cX4_goes 15 = .ok (.goto 4, 3) := by decide +kernel
theorem dX4_goes_18 : decode cX4_goes 18 = .ok (.iconst 0, 1) := by decide +kernel
theorem dX4_goes_19 : decode cX4_goes 19 = .ok (.ireturn, 1) := by decide +kernel
theorem dX4_canGo_0 : decode cX4_canGo 0 = .ok (.iconst 1, 1) := by decide +kernel
theorem dX4_canGo_1 : decode cX4_canGo 1 = .ok (.istore_n 3, 1) := by decide +kernel
theorem dX4_canGo_2 : decode cX4_canGo 2 = .ok (.iconst 0, 1) := by decide +kernel
theorem dX4_canGo_3 : decode cX4_canGo 3 = .ok (.istore 4, 2) := by decide +kernel
theorem dX4_canGo_5 : decode cX4_canGo 5 = .ok (.iload 4, 2) := by decide +kernel
theorem dX4_canGo_7 : decode cX4_canGo 7 = .ok (.aload_n 0, 1) := by decide +kernel
theorem dX4_canGo_8 : decode cX4_canGo 8 = .ok (.getfield 7, 3) := by decide +kernel
theorem dX4_canGo_11 : decode cX4_canGo 11 = .ok (.iconst 1, 1) := by decide +kernel
theorem dX4_canGo_12 : decode cX4_canGo 12 = .ok (.iaload, 1) := by decide +kernel
theorem dX4_canGo_13 : decode cX4_canGo 13 = .ok (.if_icmp .ge 84, 3) := by decide +kernel
theorem dX4_canGo_16 : decode cX4_canGo 16 = .ok (.iload 4, 2) := by decide +kernel
theorem dX4_canGo_18 : decode cX4_canGo 18 = .ok (.iload_n 2, 1) := by decide +kernel
theorem dX4_canGo_19 : decode cX4_canGo 19 = .ok (.if_icmp .eq 17, 3) := by decide +kernel
theorem dX4_canGo_22 : decode cX4_canGo 22 = .ok (.aload_n 0, 1) := by decide +kernel
theorem dX4_canGo_23 : decode cX4_canGo 23 = .ok (.iload_n 1, 1) := by decide +kernel
theorem dX4_canGo_24 : decode cX4_canGo 24 = .ok (.iload 4, 2) := by decide +kernel
theorem dX4_canGo_26 : decode cX4_canGo 26 = .ok (.invokevirtual 121, 3) := by decide +kernel
theorem dX4_canGo_29 : decode cX4_canGo 29 = .ok (.ifCond .eq 7, 3) := by decide +kernel
theorem dX4_canGo_32 : decode cX4_canGo 32 = .ok (.iconst 1, 1) := by decide +kernel
theorem dX4_canGo_33 : decode cX4_canGo 33 = .ok (.goto 4, 3) := by decide +kernel
theorem dX4_canGo_36 : decode cX4_canGo 36 = .ok (.iconst 0, 1) := by decide +kernel
theorem dX4_canGo_37 : decode cX4_canGo 37 = .ok (.istore 5, 2) := by decide +kernel
theorem dX4_canGo_39 : decode cX4_canGo 39 = .ok (.iload_n 3, 1) := by decide +kernel
theorem dX4_canGo_40 : decode cX4_canGo 40 = .ok (.ifCond .eq 49, 3) := by decide +kernel
theorem dX4_canGo_43 : decode cX4_canGo 43 = .ok (.iload 5, 2) := by decide +kernel
theorem dX4_canGo_45 : decode cX4_canGo 45 = .ok (.ifCond .eq 40, 3) := by decide +kernel
theorem dX4_canGo_48 : decode cX4_canGo 48 = .ok (.aload_n 0, 1) := by decide +kernel
theorem dX4_canGo_49 : decode cX4_canGo 49 = .ok (.iload_n 2, 1) := by decide +kernel
theorem dX4_canGo_50 : decode cX4_canGo 50 = .ok (.iconst 2, 1) := by decide +kernel
theorem dX4_canGo_51 : decode cX4_canGo 51 = .ok (.invokevirtual 47, 3) := by decide +kernel
theorem dX4_canGo_54 : decode cX4_canGo 54 = .ok (.aload_n 0, 1) := by decide +kernel
theorem dX4_canGo_55 : decode cX4_canGo 55 = .ok (.iload_n 2, 1) := by decide +kernel
theorem dX4_canGo_56 : decode cX4_canGo 56 = .ok (.invokevirtual 75, 3) := by decide +kernel
theorem dX4_canGo_59 : decode cX4_canGo 59 = .ok (.aload_n 0, 1) := by decide +kernel
theorem dX4_canGo_60 : decode cX4_canGo 60 = .ok (.iload 4, 2) := by decide +kernel
theorem dX4_canGo_62 : decode cX4_canGo 62 = .ok (.iconst 2, 1) := by decide +kernel
theorem dX4_canGo_63 : decode cX4_canGo 63 = .ok (.invokevirtual 47, 3) := by decide +kernel
theorem dX4_canGo_66 : decode cX4_canGo 66 = .ok (.aload_n 0, 1) := by decide +kernel
theorem dX4_canGo_67 : decode cX4_canGo 67 = .ok (.iload 4, 2) := by decide +kernel
theorem dX4_canGo_69 : decode cX4_canGo 69 = .ok (.invokevirtual 75, 3) := by decide +kernel
theorem dX4_canGo_72 : decode cX4_canGo 72 = .ok (.aload_n 0, 1) := by decide +kernel
theorem dX4_canGo_73 : decode cX4_canGo 73 = .ok (.getfield 7, 3) := by decide +kernel
theorem dX4_canGo_76 : decode cX4_canGo 76 = .ok (.bipush 6, 2) := by decide +kernel
theorem dX4_canGo_78 : decode cX4_canGo 78 = .ok (.iaload, 1) := by decide +kernel
theorem dX4_canGo_79 : decode cX4_canGo 79 = .ok (.invokestatic 68, 3) := by decide +kernel

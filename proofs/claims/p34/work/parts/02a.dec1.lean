theorem dX0_init_0 : decode cX0_init 0 = .ok (.aload_n 0, 1) := by decide +kernel
theorem dX0_init_1 : decode cX0_init 1 = .ok (.invokespecial 3, 3) := by decide +kernel
theorem dX0_init_4 : decode cX0_init 4 = .ok (.aload_n 0, 1) := by decide +kernel
theorem dX0_init_5 : decode cX0_init 5 = .ok (.new 9, 3) := by decide +kernel
theorem dX0_init_8 : decode cX0_init 8 = .ok (.dup, 1) := by decide +kernel
theorem dX0_init_9 : decode cX0_init 9 = .ok (.bipush 8, 2) := by decide +kernel
theorem dX0_init_11 : decode cX0_init 11 = .ok (.iconst 2, 1) := by decide +kernel
theorem dX0_init_12 : decode cX0_init 12 = .ok (.invokespecial 11, 3) := by decide +kernel
theorem dX0_init_15 : decode cX0_init 15 = .ok (.putfield 14, 3) := by decide +kernel
theorem dX0_init_18 : decode cX0_init 18 = .ok (.aload_n 0, 1) := by decide +kernel
theorem dX0_init_19 : decode cX0_init 19 = .ok (.new 9, 3) := by decide +kernel
theorem dX0_init_22 : decode cX0_init 22 = .ok (.dup, 1) := by decide +kernel
theorem dX0_init_23 : decode cX0_init 23 = .ok (.iconst 3, 1) := by decide +kernel
theorem dX0_init_24 : decode cX0_init 24 = .ok (.iconst 1, 1) := by decide +kernel
theorem dX0_init_25 : decode cX0_init 25 = .ok (.invokespecial 11, 3) := by decide +kernel
theorem dX0_init_28 : decode cX0_init 28 = .ok (.putfield 20, 3) := by decide +kernel
theorem dX0_init_31 : decode cX0_init 31 = .ok (.aload_n 0, 1) := by decide +kernel
theorem dX0_init_32 : decode cX0_init 32 = .ok (.new 9, 3) := by decide +kernel
theorem dX0_init_35 : decode cX0_init 35 = .ok (.dup, 1) := by decide +kernel
theorem dX0_init_36 : decode cX0_init 36 = .ok (.iconst 4, 1) := by decide +kernel
theorem dX0_init_37 : decode cX0_init 37 = .ok (.iconst 1, 1) := by decide +kernel
theorem dX0_init_38 : decode cX0_init 38 = .ok (.invokespecial 11, 3) := by decide +kernel
theorem dX0_init_41 : decode cX0_init 41 = .ok (.putfield 23, 3) := by decide +kernel
theorem dX0_init_44 : decode cX0_init 44 = .ok (.aload_n 0, 1) := by decide +kernel
theorem dX0_init_45 : decode cX0_init 45 = .ok (.new 9, 3) := by decide +kernel
theorem dX0_init_48 : decode cX0_init 48 = .ok (.dup, 1) := by decide +kernel
theorem dX0_init_49 : decode cX0_init 49 = .ok (.bipush 12, 2) := by decide +kernel
theorem dX0_init_51 : decode cX0_init 51 = .ok (.iconst 5, 1) := by decide +kernel
theorem dX0_init_52 : decode cX0_init 52 = .ok (.invokespecial 11, 3) := by decide +kernel
theorem dX0_init_55 : decode cX0_init 55 = .ok (.putfield 26, 3) := by decide +kernel
theorem dX0_init_58 : decode cX0_init 58 = .ok (.aload_n 0, 1) := by decide +kernel
theorem dX0_init_59 : decode cX0_init 59 = .ok (.new 9, 3) := by decide +kernel
theorem dX0_init_62 : decode cX0_init 62 = .ok (.dup, 1) := by decide +kernel
theorem dX0_init_63 : decode cX0_init 63 = .ok (.bipush 6, 2) := by decide +kernel
theorem dX0_init_65 : decode cX0_init 65 = .ok (.iconst 3, 1) := by decide +kernel
theorem dX0_init_66 : decode cX0_init 66 = .ok (.invokespecial 11, 3) := by decide +kernel
theorem dX0_init_69 : decode cX0_init 69 = .ok (.putfield 29, 3) := by decide +kernel
theorem dX0_init_72 : decode cX0_init 72 = .ok (.aload_n 0, 1) := by decide +kernel
theorem dX0_init_73 : decode cX0_init 73 = .ok (.new 9, 3) := by decide +kernel
theorem dX0_init_76 : decode cX0_init 76 = .ok (.dup, 1) := by decide +kernel
theorem dX0_init_77 : decode cX0_init 77 = .ok (.iconst 3, 1) := by decide +kernel
theorem dX0_init_78 : decode cX0_init 78 = .ok (.bipush 8, 2) := by decide +kernel
theorem dX0_init_80 : decode cX0_init 80 = .ok (.invokespecial 11, 3) := by decide +kernel
theorem dX0_init_83 : decode cX0_init 83 = .ok (.putfield 32, 3) := by decide +kernel
theorem dX0_init_86 : decode cX0_init 86 = .ok (.aload_n 0, 1) := by decide +kernel
theorem dX0_init_87 : decode cX0_init 87 = .ok (.iconst (-1), 1) := by decide +kernel
theorem dX0_init_88 : decode cX0_init 88 = .ok (.putfield 35, 3) := by decide +kernel
theorem dX0_init_91 : decode cX0_init 91 = .ok (.aload_n 0, 1) := by decide +kernel
theorem dX0_init_92 : decode cX0_init 92 = .ok (.iconst (-1), 1) := by decide +kernel
theorem dX0_init_93 : decode cX0_init 93 = .ok (.putfield 39, 3) := by decide +kernel
theorem dX0_init_96 : decode cX0_init 96 = .ok (.aload_n 0, 1) := by decide +kernel
theorem dX0_init_97 : decode cX0_init 97 = .ok (.iconst (-1), 1) := by decide +kernel
theorem dX0_init_98 : decode cX0_init 98 = .ok (.putfield 42, 3) := by decide +kernel
theorem dX0_init_101 : decode cX0_init 101 = .ok (.iconst 0, 1) := by decide +kernel
theorem dX0_init_102 : decode cX0_init 102 = .ok (.istore_n 1, 1) := by decide +kernel
theorem dX0_init_103 : decode cX0_init 103 = .ok (.iload_n 1, 1) := by decide +kernel
theorem dX0_init_104 : decode cX0_init 104 = .ok (.iconst 3, 1) := by decide +kernel
theorem dX0_init_105 : decode cX0_init 105 = .ok (.if_icmp .ge 30, 3) := by decide +kernel
theorem dX0_init_108 : decode cX0_init 108 = .ok (.aload_n 0, 1) := by decide +kernel
theorem dX0_init_109 : decode cX0_init 109 = .ok (.getfield 20, 3) := by decide +kernel
theorem dX0_init_112 : decode cX0_init 112 = .ok (.aload_n 0, 1) := by decide +kernel
theorem dX0_init_113 : decode cX0_init 113 = .ok (.getfield 20, 3) := by decide +kernel
theorem dX0_init_116 : decode cX0_init 116 = .ok (.invokevirtual 45, 3) := by decide +kernel
theorem dX0_init_119 : decode cX0_init 119 = .ok (.iconst 0, 1) := by decide +kernel
theorem dX0_init_120 : decode cX0_init 120 = .ok (.bipush 100, 2) := by decide +kernel
theorem dX0_init_122 : decode cX0_init 122 = .ok (.iload_n 1, 1) := by decide +kernel
theorem dX0_init_123 : decode cX0_init 123 = .ok (.iconst 1, 1) := by decide +kernel
theorem dX0_init_124 : decode cX0_init 124 = .ok (.iadd, 1) := by decide +kernel
theorem dX0_init_125 : decode cX0_init 125 = .ok (.imul, 1) := by decide +kernel
theorem dX0_init_126 : decode cX0_init 126 = .ok (.invokevirtual 49, 3) := by decide +kernel
theorem dX0_init_129 : decode cX0_init 129 = .ok (.iinc 1 1, 3) := by decide +kernel
theorem dX0_init_132 : decode cX0_init 132 = .ok (.goto (-29), 3) := by decide +kernel
theorem dX0_init_135 : decode cX0_init 135 = .ok (.iconst 0, 1) := by decide +kernel
theorem dX0_init_136 : decode cX0_init 136 = .ok (.istore_n 1, 1) := by decide +kernel
theorem dX0_init_137 : decode cX0_init 137 = .ok (.iload_n 1, 1) := by decide +kernel
theorem dX0_init_138 : decode cX0_init 138 = .ok (.iconst 3, 1) := by decide +kernel
theorem dX0_init_139 : decode cX0_init 139 = .ok (.if_icmp .ge 17, 3) := by decide +kernel
theorem dX0_init_142 : decode cX0_init 142 = .ok (.aload_n 0, 1) := by decide +kernel
theorem dX0_init_143 : decode cX0_init 143 = .ok (.getfield 32, 3) := by decide +kernel
theorem dX0_init_146 : decode cX0_init 146 = .ok (.invokevirtual 45, 3) := by decide +kernel
theorem dX0_init_149 : decode cX0_init 149 = .ok (.pop, 1) := by decide +kernel
theorem dX0_init_150 : decode cX0_init 150 = .ok (.iinc 1 1, 3) := by decide +kernel
theorem dX0_init_153 : decode cX0_init 153 = .ok (.goto (-16), 3) := by decide +kernel
theorem dX0_init_156 : decode cX0_init 156 = .ok (.iconst 0, 1) := by decide +kernel
theorem dX0_init_157 : decode cX0_init 157 = .ok (.istore_n 1, 1) := by decide +kernel
theorem dX0_init_158 : decode cX0_init 158 = .ok (.iload_n 1, 1) := by decide +kernel
theorem dX0_init_159 : decode cX0_init 159 = .ok (.iconst 4, 1) := by decide +kernel
theorem dX0_init_160 : decode cX0_init 160 = .ok (.if_icmp .ge 17, 3) := by decide +kernel
theorem dX0_init_163 : decode cX0_init 163 = .ok (.aload_n 0, 1) := by decide +kernel
theorem dX0_init_164 : decode cX0_init 164 = .ok (.getfield 23, 3) := by decide +kernel
theorem dX0_init_167 : decode cX0_init 167 = .ok (.invokevirtual 45, 3) := by decide +kernel
theorem dX0_init_170 : decode cX0_init 170 = .ok (.pop, 1) := by decide +kernel
theorem dX0_init_171 : decode cX0_init 171 = .ok (.iinc 1 1, 3) := by decide +kernel
theorem dX0_init_174 : decode cX0_init 174 = .ok (.goto (-16), 3) := by decide +kernel
theorem dX0_init_177 : decode cX0_init 177 = .ok (.aload_n 0, 1) := by decide +kernel
theorem dX0_init_178 : decode cX0_init 178 = .ok (.getfield 23, 3) := by decide +kernel
theorem dX0_init_181 : decode cX0_init 181 = .ok (.iconst 0, 1) := by decide +kernel
theorem dX0_init_182 : decode cX0_init 182 = .ok (.iconst 0, 1) := by decide +kernel
theorem dX0_init_183 : decode cX0_init 183 = .ok (.bipush 10, 2) := by decide +kernel
theorem dX0_init_185 : decode cX0_init 185 = .ok (.invokevirtual 49, 3) := by decide +kernel
theorem dX0_init_188 : decode cX0_init 188 = .ok (.aload_n 0, 1) := by decide +kernel
theorem dX0_init_189 : decode cX0_init 189 = .ok (.getfield 23, 3) := by decide +kernel
theorem dX0_init_192 : decode cX0_init 192 = .ok (.iconst 1, 1) := by decide +kernel
theorem dX0_init_193 : decode cX0_init 193 = .ok (.iconst 0, 1) := by decide +kernel
theorem dX0_init_194 : decode cX0_init 194 = .ok (.bipush 15, 2) := by decide +kernel
theorem dX0_init_196 : decode cX0_init 196 = .ok (.invokevirtual 49, 3) := by decide +kernel
theorem dX0_init_199 : decode cX0_init 199 = .ok (.aload_n 0, 1) := by decide +kernel
theorem dX0_init_200 : decode cX0_init 200 = .ok (.getfield 23, 3) := by decide +kernel
theorem dX0_init_203 : decode cX0_init 203 = .ok (.iconst 2, 1) := by decide +kernel
theorem dX0_init_204 : decode cX0_init 204 = .ok (.iconst 0, 1) := by decide +kernel
theorem dX0_init_205 : decode cX0_init 205 = .ok (.bipush 10, 2) := by decide +kernel
theorem dX0_init_207 : decode cX0_init 207 = .ok (.invokevirtual 49, 3) := by decide +kernel
theorem dX0_init_210 : decode cX0_init 210 = .ok (.aload_n 0, 1) := by decide +kernel
theorem dX0_init_211 : decode cX0_init 211 = .ok (.getfield 23, 3) := by decide +kernel
theorem dX0_init_214 : decode cX0_init 214 = .ok (.iconst 3, 1) := by decide +kernel
theorem dX0_init_215 : decode cX0_init 215 = .ok (.iconst 0, 1) := by decide +kernel
theorem dX0_init_216 : decode cX0_init 216 = .ok (.iconst 5, 1) := by decide +kernel
theorem dX0_init_217 : decode cX0_init 217 = .ok (.invokevirtual 49, 3) := by decide +kernel
theorem dX0_init_220 : decode cX0_init 220 = .ok (.return_, 1) := by decide +kernel
theorem dX0_take_0 : decode cX0_take 0 = .ok (.aload_n 0, 1) := by decide +kernel
theorem dX0_take_1 : decode cX0_take 1 = .ok (.getfield 14, 3) := by decide +kernel
theorem dX0_take_4 : decode cX0_take 4 = .ok (.aload_n 1, 1) := by decide +kernel
theorem dX0_take_5 : decode cX0_take 5 = .ok (.getfield 14, 3) := by decide +kernel
theorem dX0_take_8 : decode cX0_take 8 = .ok (.invokevirtual 53, 3) := by decide +kernel
theorem dX0_take_11 : decode cX0_take 11 = .ok (.aload_n 0, 1) := by decide +kernel
theorem dX0_take_12 : decode cX0_take 12 = .ok (.getfield 20, 3) := by decide +kernel
theorem dX0_take_15 : decode cX0_take 15 = .ok (.aload_n 1, 1) := by decide +kernel
theorem dX0_take_16 : decode cX0_take 16 = .ok (.getfield 20, 3) := by decide +kernel
theorem dX0_take_19 : decode cX0_take 19 = .ok (.invokevirtual 53, 3) := by decide +kernel
theorem dX0_take_22 : decode cX0_take 22 = .ok (.aload_n 0, 1) := by decide +kernel
theorem dX0_take_23 : decode cX0_take 23 = .ok (.getfield 23, 3) := by decide +kernel
theorem dX0_take_26 : decode cX0_take 26 = .ok (.aload_n 1, 1) := by decide +kernel
theorem dX0_take_27 : decode cX0_take 27 = .ok (.getfield 23, 3) := by decide +kernel
theorem dX0_take_30 : decode cX0_take 30 = .ok (.invokevirtual 53, 3) := by decide +kernel
theorem dX0_take_33 : decode cX0_take 33 = .ok (.aload_n 0, 1) := by decide +kernel
theorem dX0_take_34 : decode cX0_take 34 = .ok (.getfield 26, 3) := by decide +kernel
theorem dX0_take_37 : decode cX0_take 37 = .ok (.aload_n 1, 1) := by decide +kernel
theorem dX0_take_38 : decode cX0_take 38 = .ok (.getfield 26, 3) := by decide +kernel
theorem dX0_take_41 : decode cX0_take 41 = .ok (.invokevirtual 53, 3) := by decide +kernel
theorem dX0_take_44 : decode cX0_take 44 = .ok (.aload_n 0, 1) := by decide +kernel
theorem dX0_take_45 : decode cX0_take 45 = .ok (.getfield 29, 3) := by decide +kernel
theorem dX0_take_48 : decode cX0_take 48 = .ok (.aload_n 1, 1) := by decide +kernel
theorem dX0_take_49 : decode cX0_take 49 = .ok (.getfield 29, 3) := by decide +kernel
theorem dX0_take_52 : decode cX0_take 52 = .ok (.invokevirtual 53, 3) := by decide +kernel
theorem dX0_take_55 : decode cX0_take 55 = .ok (.aload_n 0, 1) := by decide +kernel
theorem dX0_take_56 : decode cX0_take 56 = .ok (.getfield 32, 3) := by decide +kernel
theorem dX0_take_59 : decode cX0_take 59 = .ok (.aload_n 1, 1) := by decide +kernel
theorem dX0_take_60 : decode cX0_take 60 = .ok (.getfield 32, 3) := by decide +kernel
theorem dX0_take_63 : decode cX0_take 63 = .ok (.invokevirtual 53, 3) := by decide +kernel
theorem dX0_take_66 : decode cX0_take 66 = .ok (.aload_n 0, 1) := by decide +kernel
theorem dX0_take_67 : decode cX0_take 67 = .ok (.aload_n 1, 1) := by decide +kernel
theorem dX0_take_68 : decode cX0_take 68 = .ok (.getfield 57, 3) := by decide +kernel
theorem dX0_take_71 : decode cX0_take 71 = .ok (.putfield 57, 3) := by decide +kernel
theorem dX0_take_74 : decode cX0_take 74 = .ok (.aload_n 0, 1) := by decide +kernel
theorem dX0_take_75 : decode cX0_take 75 = .ok (.aload_n 1, 1) := by decide +kernel
theorem dX0_take_76 : decode cX0_take 76 = .ok (.getfield 35, 3) := by decide +kernel
theorem dX0_take_79 : decode cX0_take 79 = .ok (.putfield 35, 3) := by decide +kernel
theorem dX0_take_82 : decode cX0_take 82 = .ok (.aload_n 0, 1) := by decide +kernel
theorem dX0_take_83 : decode cX0_take 83 = .ok (.aload_n 1, 1) := by decide +kernel
theorem dX0_take_84 : decode cX0_take 84 = .ok (.getfield 39, 3) := by decide +kernel
theorem dX0_take_87 : decode cX0_take 87 = .ok (.putfield 39, 3) := by decide +kernel
theorem dX0_take_90 : decode cX0_take 90 = .ok (.aload_n 0, 1) := by decide +kernel
theorem dX0_take_91 : decode cX0_take 91 = .ok (.aload_n 1, 1) := by decide +kernel
theorem dX0_take_92 : decode cX0_take 92 = .ok (.getfield 42, 3) := by decide +kernel
theorem dX0_take_95 : decode cX0_take 95 = .ok (.putfield 42, 3) := by decide +kernel
theorem dX0_take_98 : decode cX0_take 98 = .ok (.return_, 1) := by decide +kernel
theorem dX0_addFilm_0 : decode cX0_addFilm 0 = .ok (.aload_n 0, 1) := by decide +kernel
theorem dX0_addFilm_1 : decode cX0_addFilm 1 = .ok (.getfield 14, 3) := by decide +kernel
theorem dX0_addFilm_4 : decode cX0_addFilm 4 = .ok (.invokevirtual 45, 3) := by decide +kernel
theorem dX0_addFilm_7 : decode cX0_addFilm 7 = .ok (.istore_n 3, 1) := by decide +kernel
theorem dX0_addFilm_8 : decode cX0_addFilm 8 = .ok (.aload_n 0, 1) := by decide +kernel
theorem dX0_addFilm_9 : decode cX0_addFilm 9 = .ok (.getfield 14, 3) := by decide +kernel
theorem dX0_addFilm_12 : decode cX0_addFilm 12 = .ok (.iload_n 3, 1) := by decide +kernel
theorem dX0_addFilm_13 : decode cX0_addFilm 13 = .ok (.iconst 0, 1) := by decide +kernel
theorem dX0_addFilm_14 : decode cX0_addFilm 14 = .ok (.iload_n 1, 1) := by decide +kernel
theorem dX0_addFilm_15 : decode cX0_addFilm 15 = .ok (.invokevirtual 49, 3) := by decide +kernel
theorem dX0_addFilm_18 : decode cX0_addFilm 18 = .ok (.aload_n 0, 1) := by decide +kernel
theorem dX0_addFilm_19 : decode cX0_addFilm 19 = .ok (.getfield 14, 3) := by decide +kernel
theorem dX0_addFilm_22 : decode cX0_addFilm 22 = .ok (.iload_n 3, 1) := by decide +kernel
theorem dX0_addFilm_23 : decode cX0_addFilm 23 = .ok (.iconst 1, 1) := by decide +kernel
theorem dX0_addFilm_24 : decode cX0_addFilm 24 = .ok (.iload_n 2, 1) := by decide +kernel
theorem dX0_addFilm_25 : decode cX0_addFilm 25 = .ok (.invokevirtual 49, 3) := by decide +kernel
theorem dX0_addFilm_28 : decode cX0_addFilm 28 = .ok (.iload_n 3, 1) := by decide +kernel
theorem dX0_addFilm_29 : decode cX0_addFilm 29 = .ok (.ireturn, 1) := by decide +kernel
theorem dX0_addShowing_0 : decode cX0_addShowing 0 = .ok (.aload_n 0, 1) := by decide +kernel
theorem dX0_addShowing_1 : decode cX0_addShowing 1 = .ok (.getfield 26, 3) := by decide +kernel
theorem dX0_addShowing_4 : decode cX0_addShowing 4 = .ok (.invokevirtual 45, 3) := by decide +kernel
theorem dX0_addShowing_7 : decode cX0_addShowing 7 = .ok (.istore 5, 2) := by decide +kernel
theorem dX0_addShowing_9 : decode cX0_addShowing 9 = .ok (.aload_n 0, 1) := by decide +kernel
theorem dX0_addShowing_10 : decode cX0_addShowing 10 = .ok (.getfield 26, 3) := by decide +kernel
theorem dX0_addShowing_13 : decode cX0_addShowing 13 = .ok (.iload 5, 2) := by decide +kernel
theorem dX0_addShowing_15 : decode cX0_addShowing 15 = .ok (.iconst 0, 1) := by decide +kernel
theorem dX0_addShowing_16 : decode cX0_addShowing 16 = .ok (.iload_n 1, 1) := by decide +kernel
theorem dX0_addShowing_17 : decode cX0_addShowing 17 = .ok (.invokevirtual 49, 3) := by decide +kernel
theorem dX0_addShowing_20 : decode cX0_addShowing 20 = .ok (.aload_n 0, 1) := by decide +kernel
theorem dX0_addShowing_21 : decode cX0_addShowing 21 = .ok (.getfield 26, 3) := by decide +kernel
theorem dX0_addShowing_24 : decode cX0_addShowing 24 = .ok (.iload 5, 2) := by decide +kernel
theorem dX0_addShowing_26 : decode cX0_addShowing 26 = .ok (.iconst 1, 1) := by decide +kernel
theorem dX0_addShowing_27 : decode cX0_addShowing 27 = .ok (.iload_n 2, 1) := by decide +kernel
theorem dX0_addShowing_28 : decode cX0_addShowing 28 = .ok (.invokevirtual 49, 3) := by decide +kernel
theorem dX0_addShowing_31 : decode cX0_addShowing 31 = .ok (.aload_n 0, 1) := by decide +kernel
theorem dX0_addShowing_32 : decode cX0_addShowing 32 = .ok (.getfield 26, 3) := by decide +kernel
theorem dX0_addShowing_35 : decode cX0_addShowing 35 = .ok (.iload 5, 2) := by decide +kernel
theorem dX0_addShowing_37 : decode cX0_addShowing 37 = .ok (.iconst 2, 1) := by decide +kernel
theorem dX0_addShowing_38 : decode cX0_addShowing 38 = .ok (.iload_n 3, 1) := by decide +kernel
theorem dX0_addShowing_39 : decode cX0_addShowing 39 = .ok (.invokevirtual 49, 3) := by decide +kernel
theorem dX0_addShowing_42 : decode cX0_addShowing 42 = .ok (.aload_n 0, 1) := by decide +kernel
theorem dX0_addShowing_43 : decode cX0_addShowing 43 = .ok (.getfield 26, 3) := by decide +kernel
theorem dX0_addShowing_46 : decode cX0_addShowing 46 = .ok (.iload 5, 2) := by decide +kernel
theorem dX0_addShowing_48 : decode cX0_addShowing 48 = .ok (.iconst 3, 1) := by decide +kernel
theorem dX0_addShowing_49 : decode cX0_addShowing 49 = .ok (.iload 4, 2) := by decide +kernel
theorem dX0_addShowing_51 : decode cX0_addShowing 51 = .ok (.invokevirtual 49, 3) := by decide +kernel
theorem dX0_addShowing_54 : decode cX0_addShowing 54 = .ok (.aload_n 0, 1) := by decide +kernel
theorem dX0_addShowing_55 : decode cX0_addShowing 55 = .ok (.getfield 26, 3) := by decide +kernel
theorem dX0_addShowing_58 : decode cX0_addShowing 58 = .ok (.iload 5, 2) := by decide +kernel
theorem dX0_addShowing_60 : decode cX0_addShowing 60 = .ok (.iconst 4, 1) := by decide +kernel
theorem dX0_addShowing_61 : decode cX0_addShowing 61 = .ok (.iconst 0, 1) := by decide +kernel
theorem dX0_addShowing_62 : decode cX0_addShowing 62 = .ok (.invokevirtual 49, 3) := by decide +kernel
theorem dX0_addShowing_65 : decode cX0_addShowing 65 = .ok (.iload 5, 2) := by decide +kernel
theorem dX0_addShowing_67 : decode cX0_addShowing 67 = .ok (.ireturn, 1) := by decide +kernel
theorem dX0_addGuest_0 : decode cX0_addGuest 0 = .ok (.aload_n 0, 1) := by decide +kernel
theorem dX0_addGuest_1 : decode cX0_addGuest 1 = .ok (.getfield 29, 3) := by decide +kernel
theorem dX0_addGuest_4 : decode cX0_addGuest 4 = .ok (.invokevirtual 45, 3) := by decide +kernel
theorem dX0_addGuest_7 : decode cX0_addGuest 7 = .ok (.istore 4, 2) := by decide +kernel
theorem dX0_addGuest_9 : decode cX0_addGuest 9 = .ok (.aload_n 0, 1) := by decide +kernel
theorem dX0_addGuest_10 : decode cX0_addGuest 10 = .ok (.getfield 29, 3) := by decide +kernel
theorem dX0_addGuest_13 : decode cX0_addGuest 13 = .ok (.iload 4, 2) := by decide +kernel
theorem dX0_addGuest_15 : decode cX0_addGuest 15 = .ok (.iconst 0, 1) := by decide +kernel
theorem dX0_addGuest_16 : decode cX0_addGuest 16 = .ok (.iload_n 1, 1) := by decide +kernel
theorem dX0_addGuest_17 : decode cX0_addGuest 17 = .ok (.invokevirtual 49, 3) := by decide +kernel
theorem dX0_addGuest_20 : decode cX0_addGuest 20 = .ok (.aload_n 0, 1) := by decide +kernel
theorem dX0_addGuest_21 : decode cX0_addGuest 21 = .ok (.getfield 29, 3) := by decide +kernel
theorem dX0_addGuest_24 : decode cX0_addGuest 24 = .ok (.iload 4, 2) := by decide +kernel
theorem dX0_addGuest_26 : decode cX0_addGuest 26 = .ok (.iconst 1, 1) := by decide +kernel
theorem dX0_addGuest_27 : decode cX0_addGuest 27 = .ok (.iload_n 2, 1) := by decide +kernel
theorem dX0_addGuest_28 : decode cX0_addGuest 28 = .ok (.invokevirtual 49, 3) := by decide +kernel
theorem dX0_addGuest_31 : decode cX0_addGuest 31 = .ok (.aload_n 0, 1) := by decide +kernel
theorem dX0_addGuest_32 : decode cX0_addGuest 32 = .ok (.getfield 29, 3) := by decide +kernel
theorem dX0_addGuest_35 : decode cX0_addGuest 35 = .ok (.iload 4, 2) := by decide +kernel
theorem dX0_addGuest_37 : decode cX0_addGuest 37 = .ok (.iconst 2, 1) := by decide +kernel
theorem dX0_addGuest_38 : decode cX0_addGuest 38 = .ok (.iload_n 3, 1) := by decide +kernel
theorem dX0_addGuest_39 : decode cX0_addGuest 39 = .ok (.invokevirtual 49, 3) := by decide +kernel
theorem dX0_addGuest_42 : decode cX0_addGuest 42 = .ok (.iload 4, 2) := by decide +kernel
theorem dX0_addGuest_44 : decode cX0_addGuest 44 = .ok (.ireturn, 1) := by decide +kernel
theorem dX0_dropShowing_0 : decode cX0_dropShowing 0 = .ok (.aload_n 0, 1) := by decide +kernel
theorem dX0_dropShowing_1 : decode cX0_dropShowing 1 = .ok (.getfield 26, 3) := by decide +kernel
theorem dX0_dropShowing_4 : decode cX0_dropShowing 4 = .ok (.iload_n 1, 1) := by decide +kernel
theorem dX0_dropShowing_5 : decode cX0_dropShowing 5 = .ok (.iconst 4, 1) := by decide +kernel
theorem dX0_dropShowing_6 : decode cX0_dropShowing 6 = .ok (.invokevirtual 60, 3) := by decide +kernel
theorem dX0_dropShowing_9 : decode cX0_dropShowing 9 = .ok (.invokestatic 64, 3) := by decide +kernel
theorem dX0_dropShowing_12 : decode cX0_dropShowing 12 = .ok (.istore_n 2, 1) := by decide +kernel
theorem dX0_dropShowing_13 : decode cX0_dropShowing 13 = .ok (.aload_n 0, 1) := by decide +kernel
theorem dX0_dropShowing_14 : decode cX0_dropShowing 14 = .ok (.getfield 26, 3) := by decide +kernel
theorem dX0_dropShowing_17 : decode cX0_dropShowing 17 = .ok (.iload_n 1, 1) := by decide +kernel
theorem dX0_dropShowing_18 : decode cX0_dropShowing 18 = .ok (.invokevirtual 70, 3) := by decide +kernel
theorem dX0_dropShowing_21 : decode cX0_dropShowing 21 = .ok (.aload_n 0, 1) := by decide +kernel
theorem dX0_dropShowing_22 : decode cX0_dropShowing 22 = .ok (.dup, 1) := by decide +kernel
theorem dX0_dropShowing_23 : decode cX0_dropShowing 23 = .ok (.getfield 57, 3) := by decide +kernel
theorem dX0_dropShowing_26 : decode cX0_dropShowing 26 = .ok (.iconst 1, 1) := by decide +kernel
theorem dX0_dropShowing_27 : decode cX0_dropShowing 27 = .ok (.iadd, 1) := by decide +kernel
theorem dX0_dropShowing_28 : decode cX0_dropShowing 28 = .ok (.putfield 57, 3) := by decide +kernel
theorem dX0_dropShowing_31 : decode cX0_dropShowing 31 = .ok (.iload_n 2, 1) := by decide +kernel
theorem dX0_dropShowing_32 : decode cX0_dropShowing 32 = .ok (.ireturn, 1) := by decide +kernel
theorem dX0_shift_0 : decode cX0_shift 0 = .ok (.aload_n 0, 1) := by decide +kernel
theorem dX0_shift_1 : decode cX0_shift 1 = .ok (.getfield 26, 3) := by decide +kernel
theorem dX0_shift_4 : decode cX0_shift 4 = .ok (.iload_n 1, 1) := by decide +kernel
theorem dX0_shift_5 : decode cX0_shift 5 = .ok (.iconst 2, 1) := by decide +kernel
theorem dX0_shift_6 : decode cX0_shift 6 = .ok (.iload_n 2, 1) := by decide +kernel
theorem dX0_shift_7 : decode cX0_shift 7 = .ok (.invokevirtual 49, 3) := by decide +kernel
theorem dX0_shift_10 : decode cX0_shift 10 = .ok (.iconst 0, 1) := by decide +kernel
theorem dX0_shift_11 : decode cX0_shift 11 = .ok (.istore_n 3, 1) := by decide +kernel
theorem dX0_shift_12 : decode cX0_shift 12 = .ok (.iconst 0, 1) := by decide +kernel
theorem dX0_shift_13 : decode cX0_shift 13 = .ok (.istore 4, 2) := by decide +kernel
theorem dX0_shift_15 : decode cX0_shift 15 = .ok (.iload 4, 2) := by decide +kernel
theorem dX0_shift_17 : decode cX0_shift 17 = .ok (.iconst 3, 1) := by decide +kernel
theorem dX0_shift_18 : decode cX0_shift 18 = .ok (.if_icmp .ge 57, 3) := by decide +kernel
theorem dX0_shift_21 : decode cX0_shift 21 = .ok (.aload_n 0, 1) := by decide +kernel
theorem dX0_shift_22 : decode cX0_shift 22 = .ok (.iload 4, 2) := by decide +kernel
theorem dX0_shift_24 : decode cX0_shift 24 = .ok (.iload_n 1, 1) := by decide +kernel
theorem dX0_shift_25 : decode cX0_shift 25 = .ok (.invokevirtual 74, 3) := by decide +kernel
theorem dX0_shift_28 : decode cX0_shift 28 = .ok (.ifCond .eq 41, 3) := by decide +kernel
theorem dX0_shift_31 : decode cX0_shift 31 = .ok (.aload_n 0, 1) := by decide +kernel
theorem dX0_shift_32 : decode cX0_shift 32 = .ok (.iload 4, 2) := by decide +kernel
theorem dX0_shift_34 : decode cX0_shift 34 = .ok (.iload_n 1, 1) := by decide +kernel
theorem dX0_shift_35 : decode cX0_shift 35 = .ok (.invokevirtual 78, 3) := by decide +kernel
theorem dX0_shift_38 : decode cX0_shift 38 = .ok (.ifCond .ne 31, 3) := by decide +kernel
theorem dX0_shift_41 : decode cX0_shift 41 = .ok (.aload_n 0, 1) := by decide +kernel
theorem dX0_shift_42 : decode cX0_shift 42 = .ok (.getfield 26, 3) := by decide +kernel
theorem dX0_shift_45 : decode cX0_shift 45 = .ok (.iload_n 1, 1) := by decide +kernel
theorem dX0_shift_46 : decode cX0_shift 46 = .ok (.iconst 4, 1) := by decide +kernel
theorem dX0_shift_47 : decode cX0_shift 47 = .ok (.aload_n 0, 1) := by decide +kernel
theorem dX0_shift_48 : decode cX0_shift 48 = .ok (.getfield 26, 3) := by decide +kernel
theorem dX0_shift_51 : decode cX0_shift 51 = .ok (.iload_n 1, 1) := by decide +kernel
theorem dX0_shift_52 : decode cX0_shift 52 = .ok (.iconst 4, 1) := by decide +kernel
theorem dX0_shift_53 : decode cX0_shift 53 = .ok (.invokevirtual 60, 3) := by decide +kernel
theorem dX0_shift_56 : decode cX0_shift 56 = .ok (.iconst 1, 1) := by decide +kernel
theorem dX0_shift_57 : decode cX0_shift 57 = .ok (.iload 4, 2) := by decide +kernel
theorem dX0_shift_59 : decode cX0_shift 59 = .ok (.ishl, 1) := by decide +kernel
theorem dX0_shift_60 : decode cX0_shift 60 = .ok (.iconst (-1), 1) := by decide +kernel
theorem dX0_shift_61 : decode cX0_shift 61 = .ok (.ixor, 1) := by decide +kernel
theorem dX0_shift_62 : decode cX0_shift 62 = .ok (.iand, 1) := by decide +kernel
theorem dX0_shift_63 : decode cX0_shift 63 = .ok (.invokevirtual 49, 3) := by decide +kernel
theorem dX0_shift_66 : decode cX0_shift 66 = .ok (.iinc 3 1, 3) := by decide +kernel
theorem dX0_shift_69 : decode cX0_shift 69 = .ok (.iinc 4 1, 3) := by decide +kernel
theorem dX0_shift_72 : decode cX0_shift 72 = .ok (.goto (-57), 3) := by decide +kernel
theorem dX0_shift_75 : decode cX0_shift 75 = .ok (.iload_n 3, 1) := by decide +kernel
theorem dX0_shift_76 : decode cX0_shift 76 = .ok (.ireturn, 1) := by decide +kernel
theorem dX0_addGoer_0 : decode cX0_addGoer 0 = .ok (.aload_n 0, 1) := by decide +kernel
theorem dX0_addGoer_1 : decode cX0_addGoer 1 = .ok (.getfield 26, 3) := by decide +kernel
theorem dX0_addGoer_4 : decode cX0_addGoer 4 = .ok (.iload_n 2, 1) := by decide +kernel
theorem dX0_addGoer_5 : decode cX0_addGoer 5 = .ok (.iconst 4, 1) := by decide +kernel
theorem dX0_addGoer_6 : decode cX0_addGoer 6 = .ok (.aload_n 0, 1) := by decide +kernel
theorem dX0_addGoer_7 : decode cX0_addGoer 7 = .ok (.getfield 26, 3) := by decide +kernel
theorem dX0_addGoer_10 : decode cX0_addGoer 10 = .ok (.iload_n 2, 1) := by decide +kernel
theorem dX0_addGoer_11 : decode cX0_addGoer 11 = .ok (.iconst 4, 1) := by decide +kernel
theorem dX0_addGoer_12 : decode cX0_addGoer 12 = .ok (.invokevirtual 60, 3) := by decide +kernel
theorem dX0_addGoer_15 : decode cX0_addGoer 15 = .ok (.iconst 1, 1) := by decide +kernel
theorem dX0_addGoer_16 : decode cX0_addGoer 16 = .ok (.iload_n 1, 1) := by decide +kernel
theorem dX0_addGoer_17 : decode cX0_addGoer 17 = .ok (.ishl, 1) := by decide +kernel
theorem dX0_addGoer_18 : decode cX0_addGoer 18 = .ok (.ior, 1) := by decide +kernel
theorem dX0_addGoer_19 : decode cX0_addGoer 19 = .ok (.invokevirtual 49, 3) := by decide +kernel
theorem dX0_addGoer_22 : decode cX0_addGoer 22 = .ok (.aload_n 0, 1) := by decide +kernel
theorem dX0_addGoer_23 : decode cX0_addGoer 23 = .ok (.iload_n 1, 1) := by decide +kernel
theorem dX0_addGoer_24 : decode cX0_addGoer 24 = .ok (.invokevirtual 81, 3) := by decide +kernel
theorem dX0_addGoer_27 : decode cX0_addGoer 27 = .ok (.ireturn, 1) := by decide +kernel
theorem dX0_goes_0 : decode cX0_goes 0 = .ok (.aload_n 0, 1) := by decide +kernel
theorem dX0_goes_1 : decode cX0_goes 1 = .ok (.getfield 26, 3) := by decide +kernel
theorem dX0_goes_4 : decode cX0_goes 4 = .ok (.iload_n 2, 1) := by decide +kernel
theorem dX0_goes_5 : decode cX0_goes 5 = .ok (.iconst 4, 1) := by decide +kernel
theorem dX0_goes_6 : decode cX0_goes 6 = .ok (.invokevirtual 60, 3) := by decide +kernel
theorem dX0_goes_9 : decode cX0_goes 9 = .ok (.iload_n 1, 1) := by decide +kernel
theorem dX0_goes_10 : decode cX0_goes 10 = .ok (.invokestatic 84, 3) := by decide +kernel
theorem dX0_goes_13 : decode cX0_goes 13 = .ok (.ireturn, 1) := by decide +kernel
theorem dX0_canGo_0 : decode cX0_canGo 0 = .ok (.aload_n 0, 1) := by decide +kernel
theorem dX0_canGo_1 : decode cX0_canGo 1 = .ok (.getfield 26, 3) := by decide +kernel
theorem dX0_canGo_4 : decode cX0_canGo 4 = .ok (.iload_n 2, 1) := by decide +kernel
theorem dX0_canGo_5 : decode cX0_canGo 5 = .ok (.iconst 2, 1) := by decide +kernel
theorem dX0_canGo_6 : decode cX0_canGo 6 = .ok (.invokevirtual 60, 3) := by decide +kernel
theorem dX0_canGo_9 : decode cX0_canGo 9 = .ok (.istore_n 3, 1) := by decide +kernel
theorem dX0_canGo_10 : decode cX0_canGo 10 = .ok (.aload_n 0, 1) := by decide +kernel
theorem dX0_canGo_11 : decode cX0_canGo 11 = .ok (.iload_n 2, 1) := by decide +kernel
theorem dX0_canGo_12 : decode cX0_canGo 12 = .ok (.invokevirtual 87, 3) := by decide +kernel
theorem dX0_canGo_15 : decode cX0_canGo 15 = .ok (.istore 4, 2) := by decide +kernel
theorem dX0_canGo_17 : decode cX0_canGo 17 = .ok (.aload_n 0, 1) := by decide +kernel
theorem dX0_canGo_18 : decode cX0_canGo 18 = .ok (.getfield 23, 3) := by decide +kernel
theorem dX0_canGo_21 : decode cX0_canGo 21 = .ok (.iconst 3, 1) := by decide +kernel
theorem dX0_canGo_22 : decode cX0_canGo 22 = .ok (.iconst 0, 1) := by decide +kernel
theorem dX0_canGo_23 : decode cX0_canGo 23 = .ok (.invokevirtual 60, 3) := by decide +kernel
theorem dX0_canGo_26 : decode cX0_canGo 26 = .ok (.istore 5, 2) := by decide +kernel
theorem dX0_canGo_28 : decode cX0_canGo 28 = .ok (.iconst 0, 1) := by decide +kernel
theorem dX0_canGo_29 : decode cX0_canGo 29 = .ok (.istore 6, 2) := by decide +kernel
theorem dX0_canGo_31 : decode cX0_canGo 31 = .ok (.iload 6, 2) := by decide +kernel
theorem dX0_canGo_33 : decode cX0_canGo 33 = .ok (.aload_n 0, 1) := by decide +kernel
theorem dX0_canGo_34 : decode cX0_canGo 34 = .ok (.getfield 26, 3) := by decide +kernel
theorem dX0_canGo_37 : decode cX0_canGo 37 = .ok (.getfield 90, 3) := by decide +kernel
theorem dX0_canGo_40 : decode cX0_canGo 40 = .ok (.if_icmp .ge 54, 3) := by decide +kernel
theorem dX0_canGo_43 : decode cX0_canGo 43 = .ok (.iload 6, 2) := by decide +kernel
theorem dX0_canGo_45 : decode cX0_canGo 45 = .ok (.iload_n 2, 1) := by decide +kernel
theorem dX0_canGo_46 : decode cX0_canGo 46 = .ok (.if_icmp .eq 42, 3) := by decide +kernel
theorem dX0_canGo_49 : decode cX0_canGo 49 = .ok (.aload_n 0, 1) := by decide +kernel
theorem dX0_canGo_50 : decode cX0_canGo 50 = .ok (.iload_n 1, 1) := by decide +kernel
theorem dX0_canGo_51 : decode cX0_canGo 51 = .ok (.iload 6, 2) := by decide +kernel
theorem dX0_canGo_53 : decode cX0_canGo 53 = .ok (.invokevirtual 74, 3) := by decide +kernel
theorem dX0_canGo_56 : decode cX0_canGo 56 = .ok (.ifCond .eq 32, 3) := by decide +kernel
theorem dX0_canGo_59 : decode cX0_canGo 59 = .ok (.iload_n 3, 1) := by decide +kernel
theorem dX0_canGo_60 : decode cX0_canGo 60 = .ok (.iload 4, 2) := by decide +kernel
theorem dX0_canGo_62 : decode cX0_canGo 62 = .ok (.aload_n 0, 1) := by decide +kernel
theorem dX0_canGo_63 : decode cX0_canGo 63 = .ok (.getfield 26, 3) := by decide +kernel
theorem dX0_canGo_66 : decode cX0_canGo 66 = .ok (.iload 6, 2) := by decide +kernel
theorem dX0_canGo_68 : decode cX0_canGo 68 = .ok (.iconst 2, 1) := by decide +kernel
theorem dX0_canGo_69 : decode cX0_canGo 69 = .ok (.invokevirtual 60, 3) := by decide +kernel
theorem dX0_canGo_72 : decode cX0_canGo 72 = .ok (.aload_n 0, 1) := by decide +kernel
theorem dX0_canGo_73 : decode cX0_canGo 73 = .ok (.iload 6, 2) := by decide +kernel
theorem dX0_canGo_75 : decode cX0_canGo 75 = .ok (.invokevirtual 87, 3) := by decide +kernel
theorem dX0_canGo_78 : decode cX0_canGo 78 = .ok (.iload 5, 2) := by decide +kernel
theorem dX0_canGo_80 : decode cX0_canGo 80 = .ok (.invokestatic 93, 3) := by decide +kernel
theorem dX0_canGo_83 : decode cX0_canGo 83 = .ok (.ifCond .eq 5, 3) := by decide +kernel
theorem dX0_canGo_86 : decode cX0_canGo 86 = .ok (.iconst 0, 1) := by decide +kernel
theorem dX0_canGo_87 : decode cX0_canGo 87 = .ok (.ireturn, 1) := by decide +kernel
theorem dX0_canGo_88 : decode cX0_canGo 88 = .ok (.iinc 6 1, 3) := by decide +kernel
theorem dX0_canGo_91 : decode cX0_canGo 91 = .ok (.goto (-60), 3) := by decide +kernel
theorem dX0_canGo_94 : decode cX0_canGo 94 = .ok (.iconst 1, 1) := by decide +kernel
theorem dX0_canGo_95 : decode cX0_canGo 95 = .ok (.ireturn, 1) := by decide +kernel
theorem dX0_lengthOf_0 : decode cX0_lengthOf 0 = .ok (.aload_n 0, 1) := by decide +kernel
theorem dX0_lengthOf_1 : decode cX0_lengthOf 1 = .ok (.getfield 14, 3) := by decide +kernel
theorem dX0_lengthOf_4 : decode cX0_lengthOf 4 = .ok (.iload_n 1, 1) := by decide +kernel
theorem dX0_lengthOf_5 : decode cX0_lengthOf 5 = .ok (.iconst 0, 1) := by decide +kernel
theorem dX0_lengthOf_6 : decode cX0_lengthOf 6 = .ok (.invokevirtual 60, 3) := by decide +kernel
theorem dX0_lengthOf_9 : decode cX0_lengthOf 9 = .ok (.aload_n 0, 1) := by decide +kernel
theorem dX0_lengthOf_10 : decode cX0_lengthOf 10 = .ok (.getfield 14, 3) := by decide +kernel
theorem dX0_lengthOf_13 : decode cX0_lengthOf 13 = .ok (.iload_n 1, 1) := by decide +kernel
theorem dX0_lengthOf_14 : decode cX0_lengthOf 14 = .ok (.iconst 1, 1) := by decide +kernel
theorem dX0_lengthOf_15 : decode cX0_lengthOf 15 = .ok (.invokevirtual 60, 3) := by decide +kernel
theorem dX0_lengthOf_18 : decode cX0_lengthOf 18 = .ok (.imul, 1) := by decide +kernel
theorem dX0_lengthOf_19 : decode cX0_lengthOf 19 = .ok (.ireturn, 1) := by decide +kernel
theorem dX0_endOf_0 : decode cX0_endOf 0 = .ok (.aload_n 0, 1) := by decide +kernel
theorem dX0_endOf_1 : decode cX0_endOf 1 = .ok (.getfield 26, 3) := by decide +kernel
theorem dX0_endOf_4 : decode cX0_endOf 4 = .ok (.iload_n 1, 1) := by decide +kernel
theorem dX0_endOf_5 : decode cX0_endOf 5 = .ok (.iconst 0, 1) := by decide +kernel
theorem dX0_endOf_6 : decode cX0_endOf 6 = .ok (.invokevirtual 60, 3) := by decide +kernel
theorem dX0_endOf_9 : decode cX0_endOf 9 = .ok (.istore_n 2, 1) := by decide +kernel
theorem dX0_endOf_10 : decode cX0_endOf 10 = .ok (.aload_n 0, 1) := by decide +kernel
theorem dX0_endOf_11 : decode cX0_endOf 11 = .ok (.getfield 26, 3) := by decide +kernel
theorem dX0_endOf_14 : decode cX0_endOf 14 = .ok (.iload_n 1, 1) := by decide +kernel
theorem dX0_endOf_15 : decode cX0_endOf 15 = .ok (.iconst 2, 1) := by decide +kernel
theorem dX0_endOf_16 : decode cX0_endOf 16 = .ok (.invokevirtual 60, 3) := by decide +kernel
theorem dX0_endOf_19 : decode cX0_endOf 19 = .ok (.aload_n 0, 1) := by decide +kernel
theorem dX0_endOf_20 : decode cX0_endOf 20 = .ok (.getfield 14, 3) := by decide +kernel
theorem dX0_endOf_23 : decode cX0_endOf 23 = .ok (.iload_n 2, 1) := by decide +kernel
theorem dX0_endOf_24 : decode cX0_endOf 24 = .ok (.iconst 0, 1) := by decide +kernel
theorem dX0_endOf_25 : decode cX0_endOf 25 = .ok (.invokevirtual 60, 3) := by decide +kernel
theorem dX0_endOf_28 : decode cX0_endOf 28 = .ok (.aload_n 0, 1) := by decide +kernel
theorem dX0_endOf_29 : decode cX0_endOf 29 = .ok (.getfield 14, 3) := by decide +kernel
theorem dX0_endOf_32 : decode cX0_endOf 32 = .ok (.iload_n 2, 1) := by decide +kernel
theorem dX0_endOf_33 : decode cX0_endOf 33 = .ok (.iconst 1, 1) := by decide +kernel
theorem dX0_endOf_34 : decode cX0_endOf 34 = .ok (.invokevirtual 60, 3) := by decide +kernel
theorem dX0_endOf_37 : decode cX0_endOf 37 = .ok (.imul, 1) := by decide +kernel
theorem dX0_endOf_38 : decode cX0_endOf 38 = .ok (.iadd, 1) := by decide +kernel
theorem dX0_endOf_39 : decode cX0_endOf 39 = .ok (.aload_n 0, 1) := by decide +kernel
theorem dX0_endOf_40 : decode cX0_endOf 40 = .ok (.getfield 26, 3) := by decide +kernel
theorem dX0_endOf_43 : decode cX0_endOf 43 = .ok (.iload_n 1, 1) := by decide +kernel
theorem dX0_endOf_44 : decode cX0_endOf 44 = .ok (.iconst 3, 1) := by decide +kernel
theorem dX0_endOf_45 : decode cX0_endOf 45 = .ok (.invokevirtual 60, 3) := by decide +kernel
theorem dX0_endOf_48 : decode cX0_endOf 48 = .ok (.iadd, 1) := by decide +kernel
theorem dX0_endOf_49 : decode cX0_endOf 49 = .ok (.ireturn, 1) := by decide +kernel
theorem dX0_reelBegin_0 : decode cX0_reelBegin 0 = .ok (.aload_n 0, 1) := by decide +kernel
theorem dX0_reelBegin_1 : decode cX0_reelBegin 1 = .ok (.getfield 26, 3) := by decide +kernel
theorem dX0_reelBegin_4 : decode cX0_reelBegin 4 = .ok (.iload_n 1, 1) := by decide +kernel
theorem dX0_reelBegin_5 : decode cX0_reelBegin 5 = .ok (.iconst 0, 1) := by decide +kernel
theorem dX0_reelBegin_6 : decode cX0_reelBegin 6 = .ok (.invokevirtual 60, 3) := by decide +kernel
theorem dX0_reelBegin_9 : decode cX0_reelBegin 9 = .ok (.istore_n 3, 1) := by decide +kernel
theorem dX0_reelBegin_10 : decode cX0_reelBegin 10 = .ok (.aload_n 0, 1) := by decide +kernel
theorem dX0_reelBegin_11 : decode cX0_reelBegin 11 = .ok (.getfield 14, 3) := by decide +kernel
theorem dX0_reelBegin_14 : decode cX0_reelBegin 14 = .ok (.iload_n 3, 1) := by decide +kernel
theorem dX0_reelBegin_15 : decode cX0_reelBegin 15 = .ok (.iconst 0, 1) := by decide +kernel
theorem dX0_reelBegin_16 : decode cX0_reelBegin 16 = .ok (.invokevirtual 60, 3) := by decide +kernel
theorem dX0_reelBegin_19 : decode cX0_reelBegin 19 = .ok (.istore 4, 2) := by decide +kernel
theorem dX0_reelBegin_21 : decode cX0_reelBegin 21 = .ok (.iload_n 2, 1) := by decide +kernel
theorem dX0_reelBegin_22 : decode cX0_reelBegin 22 = .ok (.iload 4, 2) := by decide +kernel
theorem dX0_reelBegin_24 : decode cX0_reelBegin 24 = .ok (.if_icmp .lt 5, 3) := by decide +kernel
theorem dX0_reelBegin_27 : decode cX0_reelBegin 27 = .ok (.iconst (-1), 1) := by decide +kernel
theorem dX0_reelBegin_28 : decode cX0_reelBegin 28 = .ok (.ireturn, 1) := by decide +kernel
theorem dX0_reelBegin_29 : decode cX0_reelBegin 29 = .ok (.aload_n 0, 1) := by decide +kernel
theorem dX0_reelBegin_30 : decode cX0_reelBegin 30 = .ok (.getfield 26, 3) := by decide +kernel
theorem dX0_reelBegin_33 : decode cX0_reelBegin 33 = .ok (.iload_n 1, 1) := by decide +kernel
theorem dX0_reelBegin_34 : decode cX0_reelBegin 34 = .ok (.iconst 2, 1) := by decide +kernel
theorem dX0_reelBegin_35 : decode cX0_reelBegin 35 = .ok (.invokevirtual 60, 3) := by decide +kernel
theorem dX0_reelBegin_38 : decode cX0_reelBegin 38 = .ok (.aload_n 0, 1) := by decide +kernel
theorem dX0_reelBegin_39 : decode cX0_reelBegin 39 = .ok (.getfield 26, 3) := by decide +kernel
theorem dX0_reelBegin_42 : decode cX0_reelBegin 42 = .ok (.iload_n 1, 1) := by decide +kernel
theorem dX0_reelBegin_43 : decode cX0_reelBegin 43 = .ok (.iconst 3, 1) := by decide +kernel
theorem dX0_reelBegin_44 : decode cX0_reelBegin 44 = .ok (.invokevirtual 60, 3) := by decide +kernel
theorem dX0_reelBegin_47 : decode cX0_reelBegin 47 = .ok (.iload 4, 2) := by decide +kernel
theorem dX0_reelBegin_49 : decode cX0_reelBegin 49 = .ok (.aload_n 0, 1) := by decide +kernel
theorem dX0_reelBegin_50 : decode cX0_reelBegin 50 = .ok (.getfield 14, 3) := by decide +kernel
theorem dX0_reelBegin_53 : decode cX0_reelBegin 53 = .ok (.iload_n 3, 1) := by decide +kernel
theorem dX0_reelBegin_54 : decode cX0_reelBegin 54 = .ok (.iconst 1, 1) := by decide +kernel
theorem dX0_reelBegin_55 : decode cX0_reelBegin 55 = .ok (.invokevirtual 60, 3) := by decide +kernel
theorem dX0_reelBegin_58 : decode cX0_reelBegin 58 = .ok (.iload_n 2, 1) := by decide +kernel
theorem dX0_reelBegin_59 : decode cX0_reelBegin 59 = .ok (.invokestatic 97, 3) := by decide +kernel
theorem dX0_reelBegin_62 : decode cX0_reelBegin 62 = .ok (.ireturn, 1) := by decide +kernel
theorem dX0_beginIn_0 : decode cX0_beginIn 0 = .ok (.iload_n 0, 1) := by decide +kernel
theorem dX0_beginIn_1 : decode cX0_beginIn 1 = .ok (.iload 4, 2) := by decide +kernel
theorem dX0_beginIn_3 : decode cX0_beginIn 3 = .ok (.iload_n 3, 1) := by decide +kernel
theorem dX0_beginIn_4 : decode cX0_beginIn 4 = .ok (.imul, 1) := by decide +kernel
theorem dX0_beginIn_5 : decode cX0_beginIn 5 = .ok (.iadd, 1) := by decide +kernel
theorem dX0_beginIn_6 : decode cX0_beginIn 6 = .ok (.istore 5, 2) := by decide +kernel
theorem dX0_beginIn_8 : decode cX0_beginIn 8 = .ok (.iload 4, 2) := by decide +kernel
theorem dX0_beginIn_10 : decode cX0_beginIn 10 = .ok (.iload_n 2, 1) := by decide +kernel
theorem dX0_beginIn_11 : decode cX0_beginIn 11 = .ok (.iconst 1, 1) := by decide +kernel
theorem dX0_beginIn_12 : decode cX0_beginIn 12 = .ok (.iadd, 1) := by decide +kernel
theorem dX0_beginIn_13 : decode cX0_beginIn 13 = .ok (.iconst 2, 1) := by decide +kernel
theorem dX0_beginIn_14 : decode cX0_beginIn 14 = .ok (.idiv, 1) := by decide +kernel
theorem dX0_beginIn_15 : decode cX0_beginIn 15 = .ok (.if_icmp .ge 8, 3) := by decide +kernel
theorem dX0_beginIn_18 : decode cX0_beginIn 18 = .ok (.iload 5, 2) := by decide +kernel
theorem dX0_beginIn_20 : decode cX0_beginIn 20 = .ok (.goto 7, 3) := by decide +kernel
theorem dX0_beginIn_23 : decode cX0_beginIn 23 = .ok (.iload 5, 2) := by decide +kernel
theorem dX0_beginIn_25 : decode cX0_beginIn 25 = .ok (.iload_n 1, 1) := by decide +kernel
theorem dX0_beginIn_26 : decode cX0_beginIn 26 = .ok (.iadd, 1) := by decide +kernel
theorem dX0_beginIn_27 : decode cX0_beginIn 27 = .ok (.ireturn, 1) := by decide +kernel
theorem dX0_areTooClose_0 : decode cX0_areTooClose 0 = .ok (.iload_n 0, 1) := by decide +kernel
theorem dX0_areTooClose_1 : decode cX0_areTooClose 1 = .ok (.iload_n 3, 1) := by decide +kernel
theorem dX0_areTooClose_2 : decode cX0_areTooClose 2 = .ok (.iload 4, 2) := by decide +kernel
theorem dX0_areTooClose_4 : decode cX0_areTooClose 4 = .ok (.iadd, 1) := by decide +kernel
theorem dX0_areTooClose_5 : decode cX0_areTooClose 5 = .ok (.if_icmp .ge 15, 3) := by decide +kernel
theorem dX0_areTooClose_8 : decode cX0_areTooClose 8 = .ok (.iload_n 2, 1) := by decide +kernel
theorem dX0_areTooClose_9 : decode cX0_areTooClose 9 = .ok (.iload_n 1, 1) := by decide +kernel
theorem dX0_areTooClose_10 : decode cX0_areTooClose 10 = .ok (.iload 4, 2) := by decide +kernel
theorem dX0_areTooClose_12 : decode cX0_areTooClose 12 = .ok (.iadd, 1) := by decide +kernel
theorem dX0_areTooClose_13 : decode cX0_areTooClose 13 = .ok (.if_icmp .ge 7, 3) := by decide +kernel
theorem dX0_areTooClose_16 : decode cX0_areTooClose 16 = .ok (.iconst 1, 1) := by decide +kernel
theorem dX0_areTooClose_17 : decode cX0_areTooClose 17 = .ok (.goto 4, 3) := by decide +kernel
theorem dX0_areTooClose_20 : decode cX0_areTooClose 20 = .ok (.iconst 0, 1) := by decide +kernel
theorem dX0_areTooClose_21 : decode cX0_areTooClose 21 = .ok (.ireturn, 1) := by decide +kernel
theorem dX0_refusal_0 : decode cX0_refusal 0 = .ok (.aload_n 0, 1) := by decide +kernel
theorem dX0_refusal_1 : decode cX0_refusal 1 = .ok (.getfield 26, 3) := by decide +kernel
theorem dX0_refusal_4 : decode cX0_refusal 4 = .ok (.getfield 90, 3) := by decide +kernel
theorem dX0_refusal_7 : decode cX0_refusal 7 = .ok (.bipush 12, 2) := by decide +kernel
theorem dX0_refusal_9 : decode cX0_refusal 9 = .ok (.if_icmp .lt 5, 3) := by decide +kernel
theorem dX0_refusal_12 : decode cX0_refusal 12 = .ok (.iconst 1, 1) := by decide +kernel
theorem dX0_refusal_13 : decode cX0_refusal 13 = .ok (.ireturn, 1) := by decide +kernel
theorem dX0_refusal_14 : decode cX0_refusal 14 = .ok (.aload_n 0, 1) := by decide +kernel
theorem dX0_refusal_15 : decode cX0_refusal 15 = .ok (.iload_n 1, 1) := by decide +kernel
theorem dX0_refusal_16 : decode cX0_refusal 16 = .ok (.iload_n 2, 1) := by decide +kernel
theorem dX0_refusal_17 : decode cX0_refusal 17 = .ok (.iload_n 3, 1) := by decide +kernel
theorem dX0_refusal_18 : decode cX0_refusal 18 = .ok (.iload 4, 2) := by decide +kernel
theorem dX0_refusal_20 : decode cX0_refusal 20 = .ok (.iconst (-1), 1) := by decide +kernel
theorem dX0_refusal_21 : decode cX0_refusal 21 = .ok (.invokevirtual 101, 3) := by decide +kernel
theorem dX0_refusal_24 : decode cX0_refusal 24 = .ok (.ireturn, 1) := by decide +kernel
theorem dX0_refusalBeside_0 : decode cX0_refusalBeside 0 = .ok (.iload_n 3, 1) := by decide +kernel
theorem dX0_refusalBeside_1 : decode cX0_refusalBeside 1 = .ok (.aload_n 0, 1) := by decide +kernel
theorem dX0_refusalBeside_2 : decode cX0_refusalBeside 2 = .ok (.iload_n 1, 1) := by decide +kernel
theorem dX0_refusalBeside_3 : decode cX0_refusalBeside 3 = .ok (.invokevirtual 104, 3) := by decide +kernel
theorem dX0_refusalBeside_6 : decode cX0_refusalBeside 6 = .ok (.iadd, 1) := by decide +kernel
theorem dX0_refusalBeside_7 : decode cX0_refusalBeside 7 = .ok (.iload 4, 2) := by decide +kernel
theorem dX0_refusalBeside_9 : decode cX0_refusalBeside 9 = .ok (.iadd, 1) := by decide +kernel
theorem dX0_refusalBeside_10 : decode cX0_refusalBeside 10 = .ok (.istore 6, 2) := by decide +kernel
theorem dX0_refusalBeside_12 : decode cX0_refusalBeside 12 = .ok (.iload 6, 2) := by decide +kernel
theorem dX0_refusalBeside_14 : decode cX0_refusalBeside 14 = .ok (.sipush 2000, 3) := by decide +kernel
theorem dX0_refusalBeside_17 : decode cX0_refusalBeside 17 = .ok (.if_icmp .le 5, 3) := by decide +kernel
theorem dX0_refusalBeside_20 : decode cX0_refusalBeside 20 = .ok (.iconst 2, 1) := by decide +kernel
theorem dX0_refusalBeside_21 : decode cX0_refusalBeside 21 = .ok (.ireturn, 1) := by decide +kernel
theorem dX0_refusalBeside_22 : decode cX0_refusalBeside 22 = .ok (.aload_n 0, 1) := by decide +kernel
theorem dX0_refusalBeside_23 : decode cX0_refusalBeside 23 = .ok (.iload_n 2, 1) := by decide +kernel
theorem dX0_refusalBeside_24 : decode cX0_refusalBeside 24 = .ok (.iload_n 3, 1) := by decide +kernel
theorem dX0_refusalBeside_25 : decode cX0_refusalBeside 25 = .ok (.iload 6, 2) := by decide +kernel
theorem dX0_refusalBeside_27 : decode cX0_refusalBeside 27 = .ok (.iload 5, 2) := by decide +kernel
theorem dX0_refusalBeside_29 : decode cX0_refusalBeside 29 = .ok (.invokevirtual 107, 3) := by decide +kernel
theorem dX0_refusalBeside_32 : decode cX0_refusalBeside 32 = .ok (.iconst (-1), 1) := by decide +kernel
theorem dX0_refusalBeside_33 : decode cX0_refusalBeside 33 = .ok (.if_icmp .eq 5, 3) := by decide +kernel
theorem dX0_refusalBeside_36 : decode cX0_refusalBeside 36 = .ok (.iconst 3, 1) := by decide +kernel
theorem dX0_refusalBeside_37 : decode cX0_refusalBeside 37 = .ok (.ireturn, 1) := by decide +kernel
theorem dX0_refusalBeside_38 : decode cX0_refusalBeside 38 = .ok (.aload_n 0, 1) := by decide +kernel
theorem dX0_refusalBeside_39 : decode cX0_refusalBeside 39 = .ok (.iload_n 1, 1) := by decide +kernel
theorem dX0_refusalBeside_40 : decode cX0_refusalBeside 40 = .ok (.iload_n 2, 1) := by decide +kernel
theorem dX0_refusalBeside_41 : decode cX0_refusalBeside 41 = .ok (.iload_n 3, 1) := by decide +kernel
theorem dX0_refusalBeside_42 : decode cX0_refusalBeside 42 = .ok (.iload 4, 2) := by decide +kernel
theorem dX0_refusalBeside_44 : decode cX0_refusalBeside 44 = .ok (.iload 5, 2) := by decide +kernel
theorem dX0_refusalBeside_46 : decode cX0_refusalBeside 46 = .ok (.invokevirtual 111, 3) := by decide +kernel
theorem dX0_refusalBeside_49 : decode cX0_refusalBeside 49 = .ok (.iconst (-1), 1) := by decide +kernel
theorem dX0_refusalBeside_50 : decode cX0_refusalBeside 50 = .ok (.if_icmp .eq 5, 3) := by decide +kernel
theorem dX0_refusalBeside_53 : decode cX0_refusalBeside 53 = .ok (.iconst 4, 1) := by decide +kernel
theorem dX0_refusalBeside_54 : decode cX0_refusalBeside 54 = .ok (.ireturn, 1) := by decide +kernel
theorem dX0_refusalBeside_55 : decode cX0_refusalBeside 55 = .ok (.iconst 0, 1) := by decide +kernel
theorem dX0_refusalBeside_56 : decode cX0_refusalBeside 56 = .ok (.ireturn, 1) := by decide +kernel
theorem dX0_inWay_0 : decode cX0_inWay 0 = .ok (.iload 5, 2) := by decide +kernel
theorem dX0_inWay_2 : decode cX0_inWay 2 = .ok (.iconst 3, 1) := by decide +kernel
theorem dX0_inWay_3 : decode cX0_inWay 3 = .ok (.if_icmp .ne 21, 3) := by decide +kernel
theorem dX0_inWay_6 : decode cX0_inWay 6 = .ok (.aload_n 0, 1) := by decide +kernel
theorem dX0_inWay_7 : decode cX0_inWay 7 = .ok (.iload_n 2, 1) := by decide +kernel
theorem dX0_inWay_8 : decode cX0_inWay 8 = .ok (.iload_n 3, 1) := by decide +kernel
theorem dX0_inWay_9 : decode cX0_inWay 9 = .ok (.iload_n 3, 1) := by decide +kernel
theorem dX0_inWay_10 : decode cX0_inWay 10 = .ok (.aload_n 0, 1) := by decide +kernel
theorem dX0_inWay_11 : decode cX0_inWay 11 = .ok (.iload_n 1, 1) := by decide +kernel
theorem dX0_inWay_12 : decode cX0_inWay 12 = .ok (.invokevirtual 104, 3) := by decide +kernel
theorem dX0_inWay_15 : decode cX0_inWay 15 = .ok (.iadd, 1) := by decide +kernel
theorem dX0_inWay_16 : decode cX0_inWay 16 = .ok (.iload 4, 2) := by decide +kernel
theorem dX0_inWay_18 : decode cX0_inWay 18 = .ok (.iadd, 1) := by decide +kernel
theorem dX0_inWay_19 : decode cX0_inWay 19 = .ok (.iconst (-1), 1) := by decide +kernel
theorem dX0_inWay_20 : decode cX0_inWay 20 = .ok (.invokevirtual 107, 3) := by decide +kernel
theorem dX0_inWay_23 : decode cX0_inWay 23 = .ok (.ireturn, 1) := by decide +kernel
theorem dX0_inWay_24 : decode cX0_inWay 24 = .ok (.iload 5, 2) := by decide +kernel
theorem dX0_inWay_26 : decode cX0_inWay 26 = .ok (.iconst 4, 1) := by decide +kernel
theorem dX0_inWay_27 : decode cX0_inWay 27 = .ok (.if_icmp .ne 14, 3) := by decide +kernel
theorem dX0_inWay_30 : decode cX0_inWay 30 = .ok (.aload_n 0, 1) := by decide +kernel
theorem dX0_inWay_31 : decode cX0_inWay 31 = .ok (.iload_n 1, 1) := by decide +kernel
theorem dX0_inWay_32 : decode cX0_inWay 32 = .ok (.iload_n 2, 1) := by decide +kernel
theorem dX0_inWay_33 : decode cX0_inWay 33 = .ok (.iload_n 3, 1) := by decide +kernel
theorem dX0_inWay_34 : decode cX0_inWay 34 = .ok (.iload 4, 2) := by decide +kernel
theorem dX0_inWay_36 : decode cX0_inWay 36 = .ok (.iconst (-1), 1) := by decide +kernel
theorem dX0_inWay_37 : decode cX0_inWay 37 = .ok (.invokevirtual 111, 3) := by decide +kernel
theorem dX0_inWay_40 : decode cX0_inWay 40 = .ok (.ireturn, 1) := by decide +kernel
theorem dX0_inWay_41 : decode cX0_inWay 41 = .ok (.iconst (-1), 1) := by decide +kernel
theorem dX0_inWay_42 : decode cX0_inWay 42 = .ok (.ireturn, 1) := by decide +kernel
theorem dX0_takingScreen_0 : decode cX0_takingScreen 0 = .ok (.aload_n 0, 1) := by decide +kernel
theorem dX0_takingScreen_1 : decode cX0_takingScreen 1 = .ok (.getfield 23, 3) := by decide +kernel
theorem dX0_takingScreen_4 : decode cX0_takingScreen 4 = .ok (.iconst 1, 1) := by decide +kernel
theorem dX0_takingScreen_5 : decode cX0_takingScreen 5 = .ok (.iconst 0, 1) := by decide +kernel
theorem dX0_takingScreen_6 : decode cX0_takingScreen 6 = .ok (.invokevirtual 60, 3) := by decide +kernel
theorem dX0_takingScreen_9 : decode cX0_takingScreen 9 = .ok (.istore 5, 2) := by decide +kernel
theorem dX0_takingScreen_11 : decode cX0_takingScreen 11 = .ok (.iconst 0, 1) := by decide +kernel
theorem dX0_takingScreen_12 : decode cX0_takingScreen 12 = .ok (.istore 6, 2) := by decide +kernel
theorem dX0_takingScreen_14 : decode cX0_takingScreen 14 = .ok (.iload 6, 2) := by decide +kernel
theorem dX0_takingScreen_16 : decode cX0_takingScreen 16 = .ok (.aload_n 0, 1) := by decide +kernel
theorem dX0_takingScreen_17 : decode cX0_takingScreen 17 = .ok (.getfield 26, 3) := by decide +kernel
theorem dX0_takingScreen_20 : decode cX0_takingScreen 20 = .ok (.getfield 90, 3) := by decide +kernel
theorem dX0_takingScreen_23 : decode cX0_takingScreen 23 = .ok (.if_icmp .ge 59, 3) := by decide +kernel
theorem dX0_takingScreen_26 : decode cX0_takingScreen 26 = .ok (.iload 6, 2) := by decide +kernel
theorem dX0_takingScreen_28 : decode cX0_takingScreen 28 = .ok (.iload 4, 2) := by decide +kernel
theorem dX0_takingScreen_30 : decode cX0_takingScreen 30 = .ok (.if_icmp .eq 46, 3) := by decide +kernel
theorem dX0_takingScreen_33 : decode cX0_takingScreen 33 = .ok (.aload_n 0, 1) := by decide +kernel
theorem dX0_takingScreen_34 : decode cX0_takingScreen 34 = .ok (.getfield 26, 3) := by decide +kernel
theorem dX0_takingScreen_37 : decode cX0_takingScreen 37 = .ok (.iload 6, 2) := by decide +kernel
theorem dX0_takingScreen_39 : decode cX0_takingScreen 39 = .ok (.iconst 1, 1) := by decide +kernel
theorem dX0_takingScreen_40 : decode cX0_takingScreen 40 = .ok (.invokevirtual 60, 3) := by decide +kernel
theorem dX0_takingScreen_43 : decode cX0_takingScreen 43 = .ok (.iload_n 1, 1) := by decide +kernel
theorem dX0_takingScreen_44 : decode cX0_takingScreen 44 = .ok (.if_icmp .ne 32, 3) := by decide +kernel
theorem dX0_takingScreen_47 : decode cX0_takingScreen 47 = .ok (.iload_n 2, 1) := by decide +kernel
theorem dX0_takingScreen_48 : decode cX0_takingScreen 48 = .ok (.iload_n 3, 1) := by decide +kernel
theorem dX0_takingScreen_49 : decode cX0_takingScreen 49 = .ok (.aload_n 0, 1) := by decide +kernel
theorem dX0_takingScreen_50 : decode cX0_takingScreen 50 = .ok (.getfield 26, 3) := by decide +kernel
theorem dX0_takingScreen_53 : decode cX0_takingScreen 53 = .ok (.iload 6, 2) := by decide +kernel
theorem dX0_takingScreen_55 : decode cX0_takingScreen 55 = .ok (.iconst 2, 1) := by decide +kernel
theorem dX0_takingScreen_56 : decode cX0_takingScreen 56 = .ok (.invokevirtual 60, 3) := by decide +kernel
theorem dX0_takingScreen_59 : decode cX0_takingScreen 59 = .ok (.aload_n 0, 1) := by decide +kernel
theorem dX0_takingScreen_60 : decode cX0_takingScreen 60 = .ok (.iload 6, 2) := by decide +kernel
theorem dX0_takingScreen_62 : decode cX0_takingScreen 62 = .ok (.invokevirtual 87, 3) := by decide +kernel
theorem dX0_takingScreen_65 : decode cX0_takingScreen 65 = .ok (.iload 5, 2) := by decide +kernel
theorem dX0_takingScreen_67 : decode cX0_takingScreen 67 = .ok (.invokestatic 93, 3) := by decide +kernel
theorem dX0_takingScreen_70 : decode cX0_takingScreen 70 = .ok (.ifCond .eq 6, 3) := by decide +kernel
theorem dX0_takingScreen_73 : decode cX0_takingScreen 73 = .ok (.iload 6, 2) := by decide +kernel
theorem dX0_takingScreen_75 : decode cX0_takingScreen 75 = .ok (.ireturn, 1) := by decide +kernel
theorem dX0_takingScreen_76 : decode cX0_takingScreen 76 = .ok (.iinc 6 1, 3) := by decide +kernel
theorem dX0_takingScreen_79 : decode cX0_takingScreen 79 = .ok (.goto (-65), 3) := by decide +kernel
theorem dX0_takingScreen_82 : decode cX0_takingScreen 82 = .ok (.iconst (-1), 1) := by decide +kernel
theorem dX0_takingScreen_83 : decode cX0_takingScreen 83 = .ok (.ireturn, 1) := by decide +kernel
theorem dX0_takingReel_0 : decode cX0_takingReel 0 = .ok (.iconst 0, 1) := by decide +kernel
theorem dX0_takingReel_1 : decode cX0_takingReel 1 = .ok (.istore 6, 2) := by decide +kernel
theorem dX0_takingReel_3 : decode cX0_takingReel 3 = .ok (.iload 6, 2) := by decide +kernel
theorem dX0_takingReel_5 : decode cX0_takingReel 5 = .ok (.aload_n 0, 1) := by decide +kernel
theorem dX0_takingReel_6 : decode cX0_takingReel 6 = .ok (.getfield 26, 3) := by decide +kernel
theorem dX0_takingReel_9 : decode cX0_takingReel 9 = .ok (.getfield 90, 3) := by decide +kernel
theorem dX0_takingReel_12 : decode cX0_takingReel 12 = .ok (.if_icmp .ge 61, 3) := by decide +kernel
theorem dX0_takingReel_15 : decode cX0_takingReel 15 = .ok (.iload 6, 2) := by decide +kernel
theorem dX0_takingReel_17 : decode cX0_takingReel 17 = .ok (.iload 5, 2) := by decide +kernel
theorem dX0_takingReel_19 : decode cX0_takingReel 19 = .ok (.if_icmp .eq 48, 3) := by decide +kernel
theorem dX0_takingReel_22 : decode cX0_takingReel 22 = .ok (.aload_n 0, 1) := by decide +kernel
theorem dX0_takingReel_23 : decode cX0_takingReel 23 = .ok (.getfield 26, 3) := by decide +kernel
theorem dX0_takingReel_26 : decode cX0_takingReel 26 = .ok (.iload 6, 2) := by decide +kernel
theorem dX0_takingReel_28 : decode cX0_takingReel 28 = .ok (.iconst 0, 1) := by decide +kernel
theorem dX0_takingReel_29 : decode cX0_takingReel 29 = .ok (.invokevirtual 60, 3) := by decide +kernel
theorem dX0_takingReel_32 : decode cX0_takingReel 32 = .ok (.iload_n 1, 1) := by decide +kernel
theorem dX0_takingReel_33 : decode cX0_takingReel 33 = .ok (.if_icmp .ne 34, 3) := by decide +kernel
theorem dX0_takingReel_36 : decode cX0_takingReel 36 = .ok (.aload_n 0, 1) := by decide +kernel
theorem dX0_takingReel_37 : decode cX0_takingReel 37 = .ok (.getfield 26, 3) := by decide +kernel
theorem dX0_takingReel_40 : decode cX0_takingReel 40 = .ok (.iload 6, 2) := by decide +kernel
theorem dX0_takingReel_42 : decode cX0_takingReel 42 = .ok (.iconst 1, 1) := by decide +kernel
theorem dX0_takingReel_43 : decode cX0_takingReel 43 = .ok (.invokevirtual 60, 3) := by decide +kernel
theorem dX0_takingReel_46 : decode cX0_takingReel 46 = .ok (.iload_n 2, 1) := by decide +kernel
theorem dX0_takingReel_47 : decode cX0_takingReel 47 = .ok (.if_icmp .eq 20, 3) := by decide +kernel
theorem dX0_takingReel_50 : decode cX0_takingReel 50 = .ok (.aload_n 0, 1) := by decide +kernel
theorem dX0_takingReel_51 : decode cX0_takingReel 51 = .ok (.iload_n 1, 1) := by decide +kernel
theorem dX0_takingReel_52 : decode cX0_takingReel 52 = .ok (.iload_n 3, 1) := by decide +kernel
theorem dX0_takingReel_53 : decode cX0_takingReel 53 = .ok (.iload 4, 2) := by decide +kernel
theorem dX0_takingReel_55 : decode cX0_takingReel 55 = .ok (.iload 6, 2) := by decide +kernel
theorem dX0_takingReel_57 : decode cX0_takingReel 57 = .ok (.invokevirtual 114, 3) := by decide +kernel
theorem dX0_takingReel_60 : decode cX0_takingReel 60 = .ok (.iconst (-1), 1) := by decide +kernel
theorem dX0_takingReel_61 : decode cX0_takingReel 61 = .ok (.if_icmp .eq 6, 3) := by decide +kernel
theorem dX0_takingReel_64 : decode cX0_takingReel 64 = .ok (.iload 6, 2) := by decide +kernel
theorem dX0_takingReel_66 : decode cX0_takingReel 66 = .ok (.ireturn, 1) := by decide +kernel
theorem dX0_takingReel_67 : decode cX0_takingReel 67 = .ok (.iinc 6 1, 3) := by decide +kernel
theorem dX0_takingReel_70 : decode cX0_takingReel 70 = .ok (.goto (-67), 3) := by decide +kernel
theorem dX0_takingReel_73 : decode cX0_takingReel 73 = .ok (.iconst (-1), 1) := by decide +kernel
theorem dX0_takingReel_74 : decode cX0_takingReel 74 = .ok (.ireturn, 1) := by decide +kernel
theorem dX0_clashingReel_0 : decode cX0_clashingReel 0 = .ok (.aload_n 0, 1) := by decide +kernel
theorem dX0_clashingReel_1 : decode cX0_clashingReel 1 = .ok (.getfield 14, 3) := by decide +kernel
theorem dX0_clashingReel_4 : decode cX0_clashingReel 4 = .ok (.iload_n 1, 1) := by decide +kernel
theorem dX0_clashingReel_5 : decode cX0_clashingReel 5 = .ok (.iconst 0, 1) := by decide +kernel
theorem dX0_clashingReel_6 : decode cX0_clashingReel 6 = .ok (.invokevirtual 60, 3) := by decide +kernel
theorem dX0_clashingReel_9 : decode cX0_clashingReel 9 = .ok (.istore 5, 2) := by decide +kernel
theorem dX0_clashingReel_11 : decode cX0_clashingReel 11 = .ok (.aload_n 0, 1) := by decide +kernel
theorem dX0_clashingReel_12 : decode cX0_clashingReel 12 = .ok (.getfield 14, 3) := by decide +kernel
theorem dX0_clashingReel_15 : decode cX0_clashingReel 15 = .ok (.iload_n 1, 1) := by decide +kernel
theorem dX0_clashingReel_16 : decode cX0_clashingReel 16 = .ok (.iconst 1, 1) := by decide +kernel
theorem dX0_clashingReel_17 : decode cX0_clashingReel 17 = .ok (.invokevirtual 60, 3) := by decide +kernel
theorem dX0_clashingReel_20 : decode cX0_clashingReel 20 = .ok (.istore 6, 2) := by decide +kernel
theorem dX0_clashingReel_22 : decode cX0_clashingReel 22 = .ok (.aload_n 0, 1) := by decide +kernel
theorem dX0_clashingReel_23 : decode cX0_clashingReel 23 = .ok (.getfield 26, 3) := by decide +kernel
theorem dX0_clashingReel_26 : decode cX0_clashingReel 26 = .ok (.iload 4, 2) := by decide +kernel
theorem dX0_clashingReel_28 : decode cX0_clashingReel 28 = .ok (.iconst 2, 1) := by decide +kernel
theorem dX0_clashingReel_29 : decode cX0_clashingReel 29 = .ok (.invokevirtual 60, 3) := by decide +kernel
theorem dX0_clashingReel_32 : decode cX0_clashingReel 32 = .ok (.istore 7, 2) := by decide +kernel
theorem dX0_clashingReel_34 : decode cX0_clashingReel 34 = .ok (.aload_n 0, 1) := by decide +kernel
theorem dX0_clashingReel_35 : decode cX0_clashingReel 35 = .ok (.getfield 26, 3) := by decide +kernel
theorem dX0_clashingReel_38 : decode cX0_clashingReel 38 = .ok (.iload 4, 2) := by decide +kernel
theorem dX0_clashingReel_40 : decode cX0_clashingReel 40 = .ok (.iconst 3, 1) := by decide +kernel
theorem dX0_clashingReel_41 : decode cX0_clashingReel 41 = .ok (.invokevirtual 60, 3) := by decide +kernel
theorem dX0_clashingReel_44 : decode cX0_clashingReel 44 = .ok (.istore 8, 2) := by decide +kernel
theorem dX0_clashingReel_46 : decode cX0_clashingReel 46 = .ok (.aload_n 0, 1) := by decide +kernel
theorem dX0_clashingReel_47 : decode cX0_clashingReel 47 = .ok (.getfield 23, 3) := by decide +kernel
theorem dX0_clashingReel_50 : decode cX0_clashingReel 50 = .ok (.iconst 0, 1) := by decide +kernel
theorem dX0_clashingReel_51 : decode cX0_clashingReel 51 = .ok (.iconst 0, 1) := by decide +kernel
theorem dX0_clashingReel_52 : decode cX0_clashingReel 52 = .ok (.invokevirtual 60, 3) := by decide +kernel
theorem dX0_clashingReel_55 : decode cX0_clashingReel 55 = .ok (.istore 9, 2) := by decide +kernel
theorem dX0_clashingReel_57 : decode cX0_clashingReel 57 = .ok (.iconst 0, 1) := by decide +kernel
theorem dX0_clashingReel_58 : decode cX0_clashingReel 58 = .ok (.istore 10, 2) := by decide +kernel
theorem dX0_clashingReel_60 : decode cX0_clashingReel 60 = .ok (.iload 10, 2) := by decide +kernel
theorem dX0_clashingReel_62 : decode cX0_clashingReel 62 = .ok (.iload 5, 2) := by decide +kernel
theorem dX0_clashingReel_64 : decode cX0_clashingReel 64 = .ok (.if_icmp .ge 62, 3) := by decide +kernel
theorem dX0_clashingReel_67 : decode cX0_clashingReel 67 = .ok (.iload_n 2, 1) := by decide +kernel
theorem dX0_clashingReel_68 : decode cX0_clashingReel 68 = .ok (.iload_n 3, 1) := by decide +kernel
theorem dX0_clashingReel_69 : decode cX0_clashingReel 69 = .ok (.iload 5, 2) := by decide +kernel
theorem dX0_clashingReel_71 : decode cX0_clashingReel 71 = .ok (.iload 6, 2) := by decide +kernel
theorem dX0_clashingReel_73 : decode cX0_clashingReel 73 = .ok (.iload 10, 2) := by decide +kernel
theorem dX0_clashingReel_75 : decode cX0_clashingReel 75 = .ok (.invokestatic 97, 3) := by decide +kernel
theorem dX0_clashingReel_78 : decode cX0_clashingReel 78 = .ok (.istore 11, 2) := by decide +kernel
theorem dX0_clashingReel_80 : decode cX0_clashingReel 80 = .ok (.iload 7, 2) := by decide +kernel
theorem dX0_clashingReel_82 : decode cX0_clashingReel 82 = .ok (.iload 8, 2) := by decide +kernel
theorem dX0_clashingReel_84 : decode cX0_clashingReel 84 = .ok (.iload 5, 2) := by decide +kernel
theorem dX0_clashingReel_86 : decode cX0_clashingReel 86 = .ok (.iload 6, 2) := by decide +kernel
theorem dX0_clashingReel_88 : decode cX0_clashingReel 88 = .ok (.iload 10, 2) := by decide +kernel
theorem dX0_clashingReel_90 : decode cX0_clashingReel 90 = .ok (.invokestatic 97, 3) := by decide +kernel
theorem dX0_clashingReel_93 : decode cX0_clashingReel 93 = .ok (.istore 12, 2) := by decide +kernel
theorem dX0_clashingReel_95 : decode cX0_clashingReel 95 = .ok (.iload 11, 2) := by decide +kernel
theorem dX0_clashingReel_97 : decode cX0_clashingReel 97 = .ok (.iload 11, 2) := by decide +kernel
theorem dX0_clashingReel_99 : decode cX0_clashingReel 99 = .ok (.iload 6, 2) := by decide +kernel
theorem dX0_clashingReel_101 : decode cX0_clashingReel 101 = .ok (.iadd, 1) := by decide +kernel
theorem dX0_clashingReel_102 : decode cX0_clashingReel 102 = .ok (.iload 12, 2) := by decide +kernel
theorem dX0_clashingReel_104 : decode cX0_clashingReel 104 = .ok (.iload 12, 2) := by decide +kernel
theorem dX0_clashingReel_106 : decode cX0_clashingReel 106 = .ok (.iload 6, 2) := by decide +kernel
theorem dX0_clashingReel_108 : decode cX0_clashingReel 108 = .ok (.iadd, 1) := by decide +kernel
theorem dX0_clashingReel_109 : decode cX0_clashingReel 109 = .ok (.iload 9, 2) := by decide +kernel
theorem dX0_clashingReel_111 : decode cX0_clashingReel 111 = .ok (.invokestatic 93, 3) := by decide +kernel
theorem dX0_clashingReel_114 : decode cX0_clashingReel 114 = .ok (.ifCond .eq 6, 3) := by decide +kernel
theorem dX0_clashingReel_117 : decode cX0_clashingReel 117 = .ok (.iload 10, 2) := by decide +kernel
theorem dX0_clashingReel_119 : decode cX0_clashingReel 119 = .ok (.ireturn, 1) := by decide +kernel
theorem dX0_clashingReel_120 : decode cX0_clashingReel 120 = .ok (.iinc 10 1, 3) := by decide +kernel
theorem dX0_clashingReel_123 : decode cX0_clashingReel 123 = .ok (.goto (-63), 3) := by decide +kernel
theorem dX0_clashingReel_126 : decode cX0_clashingReel 126 = .ok (.iconst (-1), 1) := by decide +kernel
theorem dX0_clashingReel_127 : decode cX0_clashingReel 127 = .ok (.ireturn, 1) := by decide +kernel
theorem dX0_nextFrom_0 : decode cX0_nextFrom 0 = .ok (.aload_n 0, 1) := by decide +kernel
theorem dX0_nextFrom_1 : decode cX0_nextFrom 1 = .ok (.getfield 26, 3) := by decide +kernel
theorem dX0_nextFrom_4 : decode cX0_nextFrom 4 = .ok (.getfield 90, 3) := by decide +kernel
theorem dX0_nextFrom_7 : decode cX0_nextFrom 7 = .ok (.bipush 12, 2) := by decide +kernel
theorem dX0_nextFrom_9 : decode cX0_nextFrom 9 = .ok (.if_icmp .lt 5, 3) := by decide +kernel
theorem dX0_nextFrom_12 : decode cX0_nextFrom 12 = .ok (.iconst (-1), 1) := by decide +kernel
theorem dX0_nextFrom_13 : decode cX0_nextFrom 13 = .ok (.ireturn, 1) := by decide +kernel
theorem dX0_nextFrom_14 : decode cX0_nextFrom 14 = .ok (.aload_n 0, 1) := by decide +kernel
theorem dX0_nextFrom_15 : decode cX0_nextFrom 15 = .ok (.iload_n 1, 1) := by decide +kernel
theorem dX0_nextFrom_16 : decode cX0_nextFrom 16 = .ok (.invokevirtual 104, 3) := by decide +kernel
theorem dX0_nextFrom_19 : decode cX0_nextFrom 19 = .ok (.istore 4, 2) := by decide +kernel
theorem dX0_nextFrom_21 : decode cX0_nextFrom 21 = .ok (.iload_n 3, 1) := by decide +kernel
theorem dX0_nextFrom_22 : decode cX0_nextFrom 22 = .ok (.istore 5, 2) := by decide +kernel
theorem dX0_nextFrom_24 : decode cX0_nextFrom 24 = .ok (.iconst 0, 1) := by decide +kernel
theorem dX0_nextFrom_25 : decode cX0_nextFrom 25 = .ok (.istore 6, 2) := by decide +kernel
theorem dX0_nextFrom_27 : decode cX0_nextFrom 27 = .ok (.iload 6, 2) := by decide +kernel
theorem dX0_nextFrom_29 : decode cX0_nextFrom 29 = .ok (.sipush 2000, 3) := by decide +kernel
theorem dX0_nextFrom_32 : decode cX0_nextFrom 32 = .ok (.if_icmp .ge 130, 3) := by decide +kernel
theorem dX0_nextFrom_35 : decode cX0_nextFrom 35 = .ok (.iload 5, 2) := by decide +kernel
theorem dX0_nextFrom_37 : decode cX0_nextFrom 37 = .ok (.iload 4, 2) := by decide +kernel
theorem dX0_nextFrom_39 : decode cX0_nextFrom 39 = .ok (.iadd, 1) := by decide +kernel
theorem dX0_nextFrom_40 : decode cX0_nextFrom 40 = .ok (.sipush 2000, 3) := by decide +kernel
theorem dX0_nextFrom_43 : decode cX0_nextFrom 43 = .ok (.if_icmp .gt 119, 3) := by decide +kernel
theorem dX0_nextFrom_46 : decode cX0_nextFrom 46 = .ok (.aload_n 0, 1) := by decide +kernel
theorem dX0_nextFrom_47 : decode cX0_nextFrom 47 = .ok (.iload_n 2, 1) := by decide +kernel
theorem dX0_nextFrom_48 : decode cX0_nextFrom 48 = .ok (.iload 5, 2) := by decide +kernel
theorem dX0_nextFrom_50 : decode cX0_nextFrom 50 = .ok (.iload 5, 2) := by decide +kernel
theorem dX0_nextFrom_52 : decode cX0_nextFrom 52 = .ok (.iload 4, 2) := by decide +kernel
theorem dX0_nextFrom_54 : decode cX0_nextFrom 54 = .ok (.iadd, 1) := by decide +kernel
theorem dX0_nextFrom_55 : decode cX0_nextFrom 55 = .ok (.iconst (-1), 1) := by decide +kernel
theorem dX0_nextFrom_56 : decode cX0_nextFrom 56 = .ok (.invokevirtual 107, 3) := by decide +kernel
theorem dX0_nextFrom_59 : decode cX0_nextFrom 59 = .ok (.istore 7, 2) := by decide +kernel
theorem dX0_nextFrom_61 : decode cX0_nextFrom 61 = .ok (.iload 7, 2) := by decide +kernel
theorem dX0_nextFrom_63 : decode cX0_nextFrom 63 = .ok (.iconst (-1), 1) := by decide +kernel
theorem dX0_nextFrom_64 : decode cX0_nextFrom 64 = .ok (.if_icmp .eq 24, 3) := by decide +kernel
theorem dX0_nextFrom_67 : decode cX0_nextFrom 67 = .ok (.aload_n 0, 1) := by decide +kernel
theorem dX0_nextFrom_68 : decode cX0_nextFrom 68 = .ok (.iload 7, 2) := by decide +kernel
theorem dX0_nextFrom_70 : decode cX0_nextFrom 70 = .ok (.invokevirtual 87, 3) := by decide +kernel
theorem dX0_nextFrom_73 : decode cX0_nextFrom 73 = .ok (.aload_n 0, 1) := by decide +kernel
theorem dX0_nextFrom_74 : decode cX0_nextFrom 74 = .ok (.getfield 23, 3) := by decide +kernel
theorem dX0_nextFrom_77 : decode cX0_nextFrom 77 = .ok (.iconst 1, 1) := by decide +kernel
theorem dX0_nextFrom_78 : decode cX0_nextFrom 78 = .ok (.iconst 0, 1) := by decide +kernel
theorem dX0_nextFrom_79 : decode cX0_nextFrom 79 = .ok (.invokevirtual 60, 3) := by decide +kernel
theorem dX0_nextFrom_82 : decode cX0_nextFrom 82 = .ok (.iadd, 1) := by decide +kernel
theorem dX0_nextFrom_83 : decode cX0_nextFrom 83 = .ok (.istore 5, 2) := by decide +kernel
theorem dX0_nextFrom_85 : decode cX0_nextFrom 85 = .ok (.goto 71, 3) := by decide +kernel
theorem dX0_nextFrom_88 : decode cX0_nextFrom 88 = .ok (.aload_n 0, 1) := by decide +kernel
theorem dX0_nextFrom_89 : decode cX0_nextFrom 89 = .ok (.iload_n 1, 1) := by decide +kernel
theorem dX0_nextFrom_90 : decode cX0_nextFrom 90 = .ok (.iload_n 2, 1) := by decide +kernel
theorem dX0_nextFrom_91 : decode cX0_nextFrom 91 = .ok (.iload 5, 2) := by decide +kernel
theorem dX0_nextFrom_93 : decode cX0_nextFrom 93 = .ok (.iconst 0, 1) := by decide +kernel
theorem dX0_nextFrom_94 : decode cX0_nextFrom 94 = .ok (.iconst (-1), 1) := by decide +kernel
theorem dX0_nextFrom_95 : decode cX0_nextFrom 95 = .ok (.invokevirtual 111, 3) := by decide +kernel
theorem dX0_nextFrom_98 : decode cX0_nextFrom 98 = .ok (.istore 7, 2) := by decide +kernel
theorem dX0_nextFrom_100 : decode cX0_nextFrom 100 = .ok (.iload 7, 2) := by decide +kernel
theorem dX0_nextFrom_102 : decode cX0_nextFrom 102 = .ok (.iconst (-1), 1) := by decide +kernel
theorem dX0_nextFrom_103 : decode cX0_nextFrom 103 = .ok (.if_icmp .ne 6, 3) := by decide +kernel
theorem dX0_nextFrom_106 : decode cX0_nextFrom 106 = .ok (.iload 5, 2) := by decide +kernel
theorem dX0_nextFrom_108 : decode cX0_nextFrom 108 = .ok (.ireturn, 1) := by decide +kernel
theorem dX0_nextFrom_109 : decode cX0_nextFrom 109 = .ok (.aload_n 0, 1) := by decide +kernel
theorem dX0_nextFrom_110 : decode cX0_nextFrom 110 = .ok (.iload_n 1, 1) := by decide +kernel
theorem dX0_nextFrom_111 : decode cX0_nextFrom 111 = .ok (.iload 5, 2) := by decide +kernel
theorem dX0_nextFrom_113 : decode cX0_nextFrom 113 = .ok (.iconst 0, 1) := by decide +kernel
theorem dX0_nextFrom_114 : decode cX0_nextFrom 114 = .ok (.iload 7, 2) := by decide +kernel
theorem dX0_nextFrom_116 : decode cX0_nextFrom 116 = .ok (.invokevirtual 114, 3) := by decide +kernel
theorem dX0_nextFrom_119 : decode cX0_nextFrom 119 = .ok (.istore 8, 2) := by decide +kernel
theorem dX0_nextFrom_121 : decode cX0_nextFrom 121 = .ok (.aload_n 0, 1) := by decide +kernel
theorem dX0_nextFrom_122 : decode cX0_nextFrom 122 = .ok (.iload 7, 2) := by decide +kernel
theorem dX0_nextFrom_124 : decode cX0_nextFrom 124 = .ok (.iload 8, 2) := by decide +kernel
theorem dX0_nextFrom_126 : decode cX0_nextFrom 126 = .ok (.invokevirtual 117, 3) := by decide +kernel
theorem dX0_nextFrom_129 : decode cX0_nextFrom 129 = .ok (.aload_n 0, 1) := by decide +kernel
theorem dX0_nextFrom_130 : decode cX0_nextFrom 130 = .ok (.getfield 23, 3) := by decide +kernel
theorem dX0_nextFrom_133 : decode cX0_nextFrom 133 = .ok (.iconst 0, 1) := by decide +kernel
theorem dX0_nextFrom_134 : decode cX0_nextFrom 134 = .ok (.iconst 0, 1) := by decide +kernel
theorem dX0_nextFrom_135 : decode cX0_nextFrom 135 = .ok (.invokevirtual 60, 3) := by decide +kernel
theorem dX0_nextFrom_138 : decode cX0_nextFrom 138 = .ok (.iadd, 1) := by decide +kernel
theorem dX0_nextFrom_139 : decode cX0_nextFrom 139 = .ok (.iconst 1, 1) := by decide +kernel
theorem dX0_nextFrom_140 : decode cX0_nextFrom 140 = .ok (.iload 8, 2) := by decide +kernel
theorem dX0_nextFrom_142 : decode cX0_nextFrom 142 = .ok (.isub, 1) := by decide +kernel
theorem dX0_nextFrom_143 : decode cX0_nextFrom 143 = .ok (.aload_n 0, 1) := by decide +kernel
theorem dX0_nextFrom_144 : decode cX0_nextFrom 144 = .ok (.getfield 14, 3) := by decide +kernel
theorem dX0_nextFrom_147 : decode cX0_nextFrom 147 = .ok (.iload_n 1, 1) := by decide +kernel
theorem dX0_nextFrom_148 : decode cX0_nextFrom 148 = .ok (.iconst 1, 1) := by decide +kernel
theorem dX0_nextFrom_149 : decode cX0_nextFrom 149 = .ok (.invokevirtual 60, 3) := by decide +kernel
theorem dX0_nextFrom_152 : decode cX0_nextFrom 152 = .ok (.imul, 1) := by decide +kernel
theorem dX0_nextFrom_153 : decode cX0_nextFrom 153 = .ok (.iadd, 1) := by decide +kernel
theorem dX0_nextFrom_154 : decode cX0_nextFrom 154 = .ok (.istore 5, 2) := by decide +kernel
theorem dX0_nextFrom_156 : decode cX0_nextFrom 156 = .ok (.iinc 6 1, 3) := by decide +kernel
theorem dX0_nextFrom_159 : decode cX0_nextFrom 159 = .ok (.goto (-132), 3) := by decide +kernel
theorem dX0_nextFrom_162 : decode cX0_nextFrom 162 = .ok (.iconst (-1), 1) := by decide +kernel
theorem dX0_nextFrom_163 : decode cX0_nextFrom 163 = .ok (.ireturn, 1) := by decide +kernel
theorem dX0_bestFrom_0 : decode cX0_bestFrom 0 = .ok (.iconst (-1), 1) := by decide +kernel
theorem dX0_bestFrom_1 : decode cX0_bestFrom 1 = .ok (.istore_n 3, 1) := by decide +kernel
theorem dX0_bestFrom_2 : decode cX0_bestFrom 2 = .ok (.iconst (-1), 1) := by decide +kernel
theorem dX0_bestFrom_3 : decode cX0_bestFrom 3 = .ok (.istore 4, 2) := by decide +kernel
theorem dX0_bestFrom_5 : decode cX0_bestFrom 5 = .ok (.iconst 0, 1) := by decide +kernel
theorem dX0_bestFrom_6 : decode cX0_bestFrom 6 = .ok (.istore 5, 2) := by decide +kernel
theorem dX0_bestFrom_8 : decode cX0_bestFrom 8 = .ok (.iload 5, 2) := by decide +kernel
theorem dX0_bestFrom_10 : decode cX0_bestFrom 10 = .ok (.iconst 3, 1) := by decide +kernel
theorem dX0_bestFrom_11 : decode cX0_bestFrom 11 = .ok (.if_icmp .ge 76, 3) := by decide +kernel
theorem dX0_bestFrom_14 : decode cX0_bestFrom 14 = .ok (.aload_n 0, 1) := by decide +kernel
theorem dX0_bestFrom_15 : decode cX0_bestFrom 15 = .ok (.iload_n 1, 1) := by decide +kernel
theorem dX0_bestFrom_16 : decode cX0_bestFrom 16 = .ok (.iload 5, 2) := by decide +kernel
theorem dX0_bestFrom_18 : decode cX0_bestFrom 18 = .ok (.iload_n 2, 1) := by decide +kernel
theorem dX0_bestFrom_19 : decode cX0_bestFrom 19 = .ok (.invokevirtual 120, 3) := by decide +kernel
theorem dX0_bestFrom_22 : decode cX0_bestFrom 22 = .ok (.istore 6, 2) := by decide +kernel
theorem dX0_bestFrom_24 : decode cX0_bestFrom 24 = .ok (.iload 6, 2) := by decide +kernel
theorem dX0_bestFrom_26 : decode cX0_bestFrom 26 = .ok (.iconst (-1), 1) := by decide +kernel
theorem dX0_bestFrom_27 : decode cX0_bestFrom 27 = .ok (.if_icmp .ne 6, 3) := by decide +kernel
theorem dX0_bestFrom_30 : decode cX0_bestFrom 30 = .ok (.goto 51, 3) := by decide +kernel
theorem dX0_bestFrom_33 : decode cX0_bestFrom 33 = .ok (.iload_n 3, 1) := by decide +kernel
theorem dX0_bestFrom_34 : decode cX0_bestFrom 34 = .ok (.iconst (-1), 1) := by decide +kernel
theorem dX0_bestFrom_35 : decode cX0_bestFrom 35 = .ok (.if_icmp .eq 39, 3) := by decide +kernel
theorem dX0_bestFrom_38 : decode cX0_bestFrom 38 = .ok (.iload 6, 2) := by decide +kernel
theorem dX0_bestFrom_40 : decode cX0_bestFrom 40 = .ok (.iload 4, 2) := by decide +kernel
theorem dX0_bestFrom_42 : decode cX0_bestFrom 42 = .ok (.if_icmp .lt 32, 3) := by decide +kernel
theorem dX0_bestFrom_45 : decode cX0_bestFrom 45 = .ok (.iload 6, 2) := by decide +kernel
theorem dX0_bestFrom_47 : decode cX0_bestFrom 47 = .ok (.iload 4, 2) := by decide +kernel
theorem dX0_bestFrom_49 : decode cX0_bestFrom 49 = .ok (.if_icmp .ne 32, 3) := by decide +kernel
theorem dX0_bestFrom_52 : decode cX0_bestFrom 52 = .ok (.aload_n 0, 1) := by decide +kernel
theorem dX0_bestFrom_53 : decode cX0_bestFrom 53 = .ok (.getfield 20, 3) := by decide +kernel
theorem dX0_bestFrom_56 : decode cX0_bestFrom 56 = .ok (.iload 5, 2) := by decide +kernel
theorem dX0_bestFrom_58 : decode cX0_bestFrom 58 = .ok (.iconst 0, 1) := by decide +kernel
theorem dX0_bestFrom_59 : decode cX0_bestFrom 59 = .ok (.invokevirtual 60, 3) := by decide +kernel
theorem dX0_bestFrom_62 : decode cX0_bestFrom 62 = .ok (.aload_n 0, 1) := by decide +kernel
theorem dX0_bestFrom_63 : decode cX0_bestFrom 63 = .ok (.getfield 20, 3) := by decide +kernel
theorem dX0_bestFrom_66 : decode cX0_bestFrom 66 = .ok (.iload_n 3, 1) := by decide +kernel
theorem dX0_bestFrom_67 : decode cX0_bestFrom 67 = .ok (.iconst 0, 1) := by decide +kernel
theorem dX0_bestFrom_68 : decode cX0_bestFrom 68 = .ok (.invokevirtual 60, 3) := by decide +kernel
theorem dX0_bestFrom_71 : decode cX0_bestFrom 71 = .ok (.if_icmp .le 10, 3) := by decide +kernel
theorem dX0_bestFrom_74 : decode cX0_bestFrom 74 = .ok (.iload 5, 2) := by decide +kernel
theorem dX0_bestFrom_76 : decode cX0_bestFrom 76 = .ok (.istore_n 3, 1) := by decide +kernel
theorem dX0_bestFrom_77 : decode cX0_bestFrom 77 = .ok (.iload 6, 2) := by decide +kernel
theorem dX0_bestFrom_79 : decode cX0_bestFrom 79 = .ok (.istore 4, 2) := by decide +kernel
theorem dX0_bestFrom_81 : decode cX0_bestFrom 81 = .ok (.iinc 5 1, 3) := by decide +kernel
theorem dX0_bestFrom_84 : decode cX0_bestFrom 84 = .ok (.goto (-76), 3) := by decide +kernel
theorem dX0_bestFrom_87 : decode cX0_bestFrom 87 = .ok (.iload_n 3, 1) := by decide +kernel
theorem dX0_bestFrom_88 : decode cX0_bestFrom 88 = .ok (.ireturn, 1) := by decide +kernel
theorem dX0_moreGreeters_0 : decode cX0_moreGreeters 0 = .ok (.aload_n 0, 1) := by decide +kernel
theorem dX0_moreGreeters_1 : decode cX0_moreGreeters 1 = .ok (.iload_n 1, 1) := by decide +kernel
theorem dX0_moreGreeters_2 : decode cX0_moreGreeters 2 = .ok (.iload_n 2, 1) := by decide +kernel
theorem dX0_moreGreeters_3 : decode cX0_moreGreeters 3 = .ok (.iload_n 3, 1) := by decide +kernel
theorem dX0_moreGreeters_4 : decode cX0_moreGreeters 4 = .ok (.iconst 0, 1) := by decide +kernel
theorem dX0_moreGreeters_5 : decode cX0_moreGreeters 5 = .ok (.invokevirtual 124, 3) := by decide +kernel
theorem dX0_moreGreeters_8 : decode cX0_moreGreeters 8 = .ok (.ifCond .eq 5, 3) := by decide +kernel
theorem dX0_moreGreeters_11 : decode cX0_moreGreeters 11 = .ok (.iconst (-1), 1) := by decide +kernel
theorem dX0_moreGreeters_12 : decode cX0_moreGreeters 12 = .ok (.ireturn, 1) := by decide +kernel
theorem dX0_moreGreeters_13 : decode cX0_moreGreeters 13 = .ok (.iconst 0, 1) := by decide +kernel
theorem dX0_moreGreeters_14 : decode cX0_moreGreeters 14 = .ok (.istore 4, 2) := by decide +kernel
theorem dX0_moreGreeters_16 : decode cX0_moreGreeters 16 = .ok (.iconst 0, 1) := by decide +kernel
theorem dX0_moreGreeters_17 : decode cX0_moreGreeters 17 = .ok (.istore 5, 2) := by decide +kernel
theorem dX0_moreGreeters_19 : decode cX0_moreGreeters 19 = .ok (.iload 5, 2) := by decide +kernel
theorem dX0_moreGreeters_21 : decode cX0_moreGreeters 21 = .ok (.aload_n 0, 1) := by decide +kernel
theorem dX0_moreGreeters_22 : decode cX0_moreGreeters 22 = .ok (.getfield 29, 3) := by decide +kernel
theorem dX0_moreGreeters_25 : decode cX0_moreGreeters 25 = .ok (.getfield 90, 3) := by decide +kernel
theorem dX0_moreGreeters_28 : decode cX0_moreGreeters 28 = .ok (.if_icmp .ge 52, 3) := by decide +kernel
theorem dX0_moreGreeters_31 : decode cX0_moreGreeters 31 = .ok (.aload_n 0, 1) := by decide +kernel
theorem dX0_moreGreeters_32 : decode cX0_moreGreeters 32 = .ok (.getfield 29, 3) := by decide +kernel
theorem dX0_moreGreeters_35 : decode cX0_moreGreeters 35 = .ok (.iload 5, 2) := by decide +kernel
theorem dX0_moreGreeters_37 : decode cX0_moreGreeters 37 = .ok (.iconst 0, 1) := by decide +kernel
theorem dX0_moreGreeters_38 : decode cX0_moreGreeters 38 = .ok (.invokevirtual 60, 3) := by decide +kernel
theorem dX0_moreGreeters_41 : decode cX0_moreGreeters 41 = .ok (.iload_n 1, 1) := by decide +kernel
theorem dX0_moreGreeters_42 : decode cX0_moreGreeters 42 = .ok (.if_icmp .ne 32, 3) := by decide +kernel
theorem dX0_moreGreeters_45 : decode cX0_moreGreeters 45 = .ok (.aload_n 0, 1) := by decide +kernel
theorem dX0_moreGreeters_46 : decode cX0_moreGreeters 46 = .ok (.iload 5, 2) := by decide +kernel
theorem dX0_moreGreeters_48 : decode cX0_moreGreeters 48 = .ok (.iload_n 3, 1) := by decide +kernel
theorem dX0_moreGreeters_49 : decode cX0_moreGreeters 49 = .ok (.aload_n 0, 1) := by decide +kernel
theorem dX0_moreGreeters_50 : decode cX0_moreGreeters 50 = .ok (.iload_n 1, 1) := by decide +kernel
theorem dX0_moreGreeters_51 : decode cX0_moreGreeters 51 = .ok (.invokevirtual 104, 3) := by decide +kernel
theorem dX0_moreGreeters_54 : decode cX0_moreGreeters 54 = .ok (.iadd, 1) := by decide +kernel
theorem dX0_moreGreeters_55 : decode cX0_moreGreeters 55 = .ok (.invokevirtual 127, 3) := by decide +kernel
theorem dX0_moreGreeters_58 : decode cX0_moreGreeters 58 = .ok (.ifCond .eq 16, 3) := by decide +kernel
theorem dX0_moreGreeters_61 : decode cX0_moreGreeters 61 = .ok (.aload_n 0, 1) := by decide +kernel
theorem dX0_moreGreeters_62 : decode cX0_moreGreeters 62 = .ok (.iload 5, 2) := by decide +kernel
theorem dX0_moreGreeters_64 : decode cX0_moreGreeters 64 = .ok (.invokevirtual 130, 3) := by decide +kernel
theorem dX0_moreGreeters_67 : decode cX0_moreGreeters 67 = .ok (.iconst (-1), 1) := by decide +kernel
theorem dX0_moreGreeters_68 : decode cX0_moreGreeters 68 = .ok (.if_icmp .ne 6, 3) := by decide +kernel
theorem dX0_moreGreeters_71 : decode cX0_moreGreeters 71 = .ok (.iinc 4 1, 3) := by decide +kernel
theorem dX0_moreGreeters_74 : decode cX0_moreGreeters 74 = .ok (.iinc 5 1, 3) := by decide +kernel
theorem dX0_moreGreeters_77 : decode cX0_moreGreeters 77 = .ok (.goto (-58), 3) := by decide +kernel
theorem dX0_moreGreeters_80 : decode cX0_moreGreeters 80 = .ok (.iload 4, 2) := by decide +kernel
theorem dX0_moreGreeters_82 : decode cX0_moreGreeters 82 = .ok (.ireturn, 1) := by decide +kernel
theorem dX0_fits_0 : decode cX0_fits 0 = .ok (.iload_n 2, 1) := by decide +kernel
theorem dX0_fits_1 : decode cX0_fits 1 = .ok (.aload_n 0, 1) := by decide +kernel
theorem dX0_fits_2 : decode cX0_fits 2 = .ok (.getfield 29, 3) := by decide +kernel
theorem dX0_fits_5 : decode cX0_fits 5 = .ok (.iload_n 1, 1) := by decide +kernel
theorem dX0_fits_6 : decode cX0_fits 6 = .ok (.iconst 1, 1) := by decide +kernel
theorem dX0_fits_7 : decode cX0_fits 7 = .ok (.invokevirtual 60, 3) := by decide +kernel
theorem dX0_fits_10 : decode cX0_fits 10 = .ok (.if_icmp .lt 30, 3) := by decide +kernel
theorem dX0_fits_13 : decode cX0_fits 13 = .ok (.iload_n 2, 1) := by decide +kernel
theorem dX0_fits_14 : decode cX0_fits 14 = .ok (.aload_n 0, 1) := by decide +kernel
theorem dX0_fits_15 : decode cX0_fits 15 = .ok (.getfield 23, 3) := by decide +kernel
theorem dX0_fits_18 : decode cX0_fits 18 = .ok (.iconst 2, 1) := by decide +kernel
theorem dX0_fits_19 : decode cX0_fits 19 = .ok (.iconst 0, 1) := by decide +kernel
theorem dX0_fits_20 : decode cX0_fits 20 = .ok (.invokevirtual 60, 3) := by decide +kernel
theorem dX0_fits_23 : decode cX0_fits 23 = .ok (.iadd, 1) := by decide +kernel
theorem dX0_fits_24 : decode cX0_fits 24 = .ok (.aload_n 0, 1) := by decide +kernel
theorem dX0_fits_25 : decode cX0_fits 25 = .ok (.getfield 29, 3) := by decide +kernel
theorem dX0_fits_28 : decode cX0_fits 28 = .ok (.iload_n 1, 1) := by decide +kernel
theorem dX0_fits_29 : decode cX0_fits 29 = .ok (.iconst 2, 1) := by decide +kernel
theorem dX0_fits_30 : decode cX0_fits 30 = .ok (.invokevirtual 60, 3) := by decide +kernel
theorem dX0_fits_33 : decode cX0_fits 33 = .ok (.if_icmp .gt 7, 3) := by decide +kernel
theorem dX0_fits_36 : decode cX0_fits 36 = .ok (.iconst 1, 1) := by decide +kernel
theorem dX0_fits_37 : decode cX0_fits 37 = .ok (.goto 4, 3) := by decide +kernel
theorem dX0_fits_40 : decode cX0_fits 40 = .ok (.iconst 0, 1) := by decide +kernel
theorem dX0_fits_41 : decode cX0_fits 41 = .ok (.ireturn, 1) := by decide +kernel
theorem dX0_greetedBy_0 : decode cX0_greetedBy 0 = .ok (.iconst (-1), 1) := by decide +kernel
theorem dX0_greetedBy_1 : decode cX0_greetedBy 1 = .ok (.istore_n 2, 1) := by decide +kernel
theorem dX0_greetedBy_2 : decode cX0_greetedBy 2 = .ok (.iconst (-1), 1) := by decide +kernel
theorem dX0_greetedBy_3 : decode cX0_greetedBy 3 = .ok (.istore_n 3, 1) := by decide +kernel
theorem dX0_greetedBy_4 : decode cX0_greetedBy 4 = .ok (.iconst 0, 1) := by decide +kernel
theorem dX0_greetedBy_5 : decode cX0_greetedBy 5 = .ok (.istore 4, 2) := by decide +kernel
theorem dX0_greetedBy_7 : decode cX0_greetedBy 7 = .ok (.iload 4, 2) := by decide +kernel
theorem dX0_greetedBy_9 : decode cX0_greetedBy 9 = .ok (.aload_n 0, 1) := by decide +kernel
theorem dX0_greetedBy_10 : decode cX0_greetedBy 10 = .ok (.getfield 26, 3) := by decide +kernel
theorem dX0_greetedBy_13 : decode cX0_greetedBy 13 = .ok (.getfield 90, 3) := by decide +kernel
theorem dX0_greetedBy_16 : decode cX0_greetedBy 16 = .ok (.if_icmp .ge 66, 3) := by decide +kernel
theorem dX0_greetedBy_19 : decode cX0_greetedBy 19 = .ok (.aload_n 0, 1) := by decide +kernel
theorem dX0_greetedBy_20 : decode cX0_greetedBy 20 = .ok (.iload 4, 2) := by decide +kernel
theorem dX0_greetedBy_22 : decode cX0_greetedBy 22 = .ok (.invokevirtual 87, 3) := by decide +kernel
theorem dX0_greetedBy_25 : decode cX0_greetedBy 25 = .ok (.istore 5, 2) := by decide +kernel
theorem dX0_greetedBy_27 : decode cX0_greetedBy 27 = .ok (.aload_n 0, 1) := by decide +kernel
theorem dX0_greetedBy_28 : decode cX0_greetedBy 28 = .ok (.getfield 26, 3) := by decide +kernel
theorem dX0_greetedBy_31 : decode cX0_greetedBy 31 = .ok (.iload 4, 2) := by decide +kernel
theorem dX0_greetedBy_33 : decode cX0_greetedBy 33 = .ok (.iconst 0, 1) := by decide +kernel
theorem dX0_greetedBy_34 : decode cX0_greetedBy 34 = .ok (.invokevirtual 60, 3) := by decide +kernel
theorem dX0_greetedBy_37 : decode cX0_greetedBy 37 = .ok (.aload_n 0, 1) := by decide +kernel
theorem dX0_greetedBy_38 : decode cX0_greetedBy 38 = .ok (.getfield 29, 3) := by decide +kernel
theorem dX0_greetedBy_41 : decode cX0_greetedBy 41 = .ok (.iload_n 1, 1) := by decide +kernel
theorem dX0_greetedBy_42 : decode cX0_greetedBy 42 = .ok (.iconst 0, 1) := by decide +kernel
theorem dX0_greetedBy_43 : decode cX0_greetedBy 43 = .ok (.invokevirtual 60, 3) := by decide +kernel
theorem dX0_greetedBy_46 : decode cX0_greetedBy 46 = .ok (.if_icmp .ne 30, 3) := by decide +kernel
theorem dX0_greetedBy_49 : decode cX0_greetedBy 49 = .ok (.aload_n 0, 1) := by decide +kernel
theorem dX0_greetedBy_50 : decode cX0_greetedBy 50 = .ok (.iload_n 1, 1) := by decide +kernel
theorem dX0_greetedBy_51 : decode cX0_greetedBy 51 = .ok (.iload 5, 2) := by decide +kernel
theorem dX0_greetedBy_53 : decode cX0_greetedBy 53 = .ok (.invokevirtual 127, 3) := by decide +kernel
theorem dX0_greetedBy_56 : decode cX0_greetedBy 56 = .ok (.ifCond .eq 20, 3) := by decide +kernel
theorem dX0_greetedBy_59 : decode cX0_greetedBy 59 = .ok (.iload_n 2, 1) := by decide +kernel
theorem dX0_greetedBy_60 : decode cX0_greetedBy 60 = .ok (.iconst (-1), 1) := by decide +kernel
theorem dX0_greetedBy_61 : decode cX0_greetedBy 61 = .ok (.if_icmp .eq 9, 3) := by decide +kernel
theorem dX0_greetedBy_64 : decode cX0_greetedBy 64 = .ok (.iload 5, 2) := by decide +kernel
theorem dX0_greetedBy_66 : decode cX0_greetedBy 66 = .ok (.iload_n 3, 1) := by decide +kernel
theorem dX0_greetedBy_67 : decode cX0_greetedBy 67 = .ok (.if_icmp .ge 9, 3) := by decide +kernel
theorem dX0_greetedBy_70 : decode cX0_greetedBy 70 = .ok (.iload 4, 2) := by decide +kernel
theorem dX0_greetedBy_72 : decode cX0_greetedBy 72 = .ok (.istore_n 2, 1) := by decide +kernel
theorem dX0_greetedBy_73 : decode cX0_greetedBy 73 = .ok (.iload 5, 2) := by decide +kernel
theorem dX0_greetedBy_75 : decode cX0_greetedBy 75 = .ok (.istore_n 3, 1) := by decide +kernel
theorem dX0_greetedBy_76 : decode cX0_greetedBy 76 = .ok (.iinc 4 1, 3) := by decide +kernel
theorem dX0_greetedBy_79 : decode cX0_greetedBy 79 = .ok (.goto (-72), 3) := by decide +kernel
theorem dX0_greetedBy_82 : decode cX0_greetedBy 82 = .ok (.iload_n 2, 1) := by decide +kernel
theorem dX0_greetedBy_83 : decode cX0_greetedBy 83 = .ok (.ireturn, 1) := by decide +kernel
theorem dX0_greeters_0 : decode cX0_greeters 0 = .ok (.iconst 0, 1) := by decide +kernel
theorem dX0_greeters_1 : decode cX0_greeters 1 = .ok (.istore_n 1, 1) := by decide +kernel
theorem dX0_greeters_2 : decode cX0_greeters 2 = .ok (.iconst 0, 1) := by decide +kernel
theorem dX0_greeters_3 : decode cX0_greeters 3 = .ok (.istore_n 2, 1) := by decide +kernel
theorem dX0_greeters_4 : decode cX0_greeters 4 = .ok (.iload_n 2, 1) := by decide +kernel
theorem dX0_greeters_5 : decode cX0_greeters 5 = .ok (.aload_n 0, 1) := by decide +kernel
theorem dX0_greeters_6 : decode cX0_greeters 6 = .ok (.getfield 29, 3) := by decide +kernel
theorem dX0_greeters_9 : decode cX0_greeters 9 = .ok (.getfield 90, 3) := by decide +kernel
theorem dX0_greeters_12 : decode cX0_greeters 12 = .ok (.if_icmp .ge 21, 3) := by decide +kernel
theorem dX0_greeters_15 : decode cX0_greeters 15 = .ok (.aload_n 0, 1) := by decide +kernel
theorem dX0_greeters_16 : decode cX0_greeters 16 = .ok (.iload_n 2, 1) := by decide +kernel
theorem dX0_greeters_17 : decode cX0_greeters 17 = .ok (.invokevirtual 130, 3) := by decide +kernel
theorem dX0_greeters_20 : decode cX0_greeters 20 = .ok (.iconst (-1), 1) := by decide +kernel
theorem dX0_greeters_21 : decode cX0_greeters 21 = .ok (.if_icmp .eq 6, 3) := by decide +kernel
theorem dX0_greeters_24 : decode cX0_greeters 24 = .ok (.iinc 1 1, 3) := by decide +kernel
theorem dX0_greeters_27 : decode cX0_greeters 27 = .ok (.iinc 2 1, 3) := by decide +kernel
theorem dX0_greeters_30 : decode cX0_greeters 30 = .ok (.goto (-26), 3) := by decide +kernel
theorem dX0_greeters_33 : decode cX0_greeters 33 = .ok (.iload_n 1, 1) := by decide +kernel
theorem dX0_greeters_34 : decode cX0_greeters 34 = .ok (.ireturn, 1) := by decide +kernel
theorem dX0_allSeats_0 : decode cX0_allSeats 0 = .ok (.iconst 0, 1) := by decide +kernel
theorem dX0_allSeats_1 : decode cX0_allSeats 1 = .ok (.istore_n 1, 1) := by decide +kernel
theorem dX0_allSeats_2 : decode cX0_allSeats 2 = .ok (.iconst 0, 1) := by decide +kernel
theorem dX0_allSeats_3 : decode cX0_allSeats 3 = .ok (.istore_n 2, 1) := by decide +kernel
theorem dX0_allSeats_4 : decode cX0_allSeats 4 = .ok (.iload_n 2, 1) := by decide +kernel
theorem dX0_allSeats_5 : decode cX0_allSeats 5 = .ok (.aload_n 0, 1) := by decide +kernel
theorem dX0_allSeats_6 : decode cX0_allSeats 6 = .ok (.getfield 26, 3) := by decide +kernel
theorem dX0_allSeats_9 : decode cX0_allSeats 9 = .ok (.getfield 90, 3) := by decide +kernel
theorem dX0_allSeats_12 : decode cX0_allSeats 12 = .ok (.if_icmp .ge 29, 3) := by decide +kernel
theorem dX0_allSeats_15 : decode cX0_allSeats 15 = .ok (.iload_n 1, 1) := by decide +kernel
theorem dX0_allSeats_16 : decode cX0_allSeats 16 = .ok (.aload_n 0, 1) := by decide +kernel
theorem dX0_allSeats_17 : decode cX0_allSeats 17 = .ok (.getfield 20, 3) := by decide +kernel
theorem dX0_allSeats_20 : decode cX0_allSeats 20 = .ok (.aload_n 0, 1) := by decide +kernel
theorem dX0_allSeats_21 : decode cX0_allSeats 21 = .ok (.getfield 26, 3) := by decide +kernel
theorem dX0_allSeats_24 : decode cX0_allSeats 24 = .ok (.iload_n 2, 1) := by decide +kernel
theorem dX0_allSeats_25 : decode cX0_allSeats 25 = .ok (.iconst 1, 1) := by decide +kernel
theorem dX0_allSeats_26 : decode cX0_allSeats 26 = .ok (.invokevirtual 60, 3) := by decide +kernel
theorem dX0_allSeats_29 : decode cX0_allSeats 29 = .ok (.iconst 0, 1) := by decide +kernel
theorem dX0_allSeats_30 : decode cX0_allSeats 30 = .ok (.invokevirtual 60, 3) := by decide +kernel
theorem dX0_allSeats_33 : decode cX0_allSeats 33 = .ok (.iadd, 1) := by decide +kernel
theorem dX0_allSeats_34 : decode cX0_allSeats 34 = .ok (.istore_n 1, 1) := by decide +kernel
theorem dX0_allSeats_35 : decode cX0_allSeats 35 = .ok (.iinc 2 1, 3) := by decide +kernel
theorem dX0_allSeats_38 : decode cX0_allSeats 38 = .ok (.goto (-34), 3) := by decide +kernel
theorem dX0_allSeats_41 : decode cX0_allSeats 41 = .ok (.iload_n 1, 1) := by decide +kernel
theorem dX0_allSeats_42 : decode cX0_allSeats 42 = .ok (.ireturn, 1) := by decide +kernel
theorem dX0_seenBy_0 : decode cX0_seenBy 0 = .ok (.iconst 0, 1) := by decide +kernel
theorem dX0_seenBy_1 : decode cX0_seenBy 1 = .ok (.istore_n 2, 1) := by decide +kernel
theorem dX0_seenBy_2 : decode cX0_seenBy 2 = .ok (.iconst 0, 1) := by decide +kernel
theorem dX0_seenBy_3 : decode cX0_seenBy 3 = .ok (.istore_n 3, 1) := by decide +kernel
theorem dX0_seenBy_4 : decode cX0_seenBy 4 = .ok (.iload_n 3, 1) := by decide +kernel
theorem dX0_seenBy_5 : decode cX0_seenBy 5 = .ok (.aload_n 0, 1) := by decide +kernel
theorem dX0_seenBy_6 : decode cX0_seenBy 6 = .ok (.getfield 26, 3) := by decide +kernel
theorem dX0_seenBy_9 : decode cX0_seenBy 9 = .ok (.getfield 90, 3) := by decide +kernel
theorem dX0_seenBy_12 : decode cX0_seenBy 12 = .ok (.if_icmp .ge 34, 3) := by decide +kernel
theorem dX0_seenBy_15 : decode cX0_seenBy 15 = .ok (.aload_n 0, 1) := by decide +kernel
theorem dX0_seenBy_16 : decode cX0_seenBy 16 = .ok (.getfield 26, 3) := by decide +kernel
theorem dX0_seenBy_19 : decode cX0_seenBy 19 = .ok (.iload_n 3, 1) := by decide +kernel
theorem dX0_seenBy_20 : decode cX0_seenBy 20 = .ok (.iconst 0, 1) := by decide +kernel
theorem dX0_seenBy_21 : decode cX0_seenBy 21 = .ok (.invokevirtual 60, 3) := by decide +kernel
theorem dX0_seenBy_24 : decode cX0_seenBy 24 = .ok (.iload_n 1, 1) := by decide +kernel
theorem dX0_seenBy_25 : decode cX0_seenBy 25 = .ok (.if_icmp .ne 15, 3) := by decide +kernel
theorem dX0_seenBy_28 : decode cX0_seenBy 28 = .ok (.iload_n 2, 1) := by decide +kernel
theorem dX0_seenBy_29 : decode cX0_seenBy 29 = .ok (.aload_n 0, 1) := by decide +kernel
theorem dX0_seenBy_30 : decode cX0_seenBy 30 = .ok (.getfield 26, 3) := by decide +kernel
theorem dX0_seenBy_33 : decode cX0_seenBy 33 = .ok (.iload_n 3, 1) := by decide +kernel
theorem dX0_seenBy_34 : decode cX0_seenBy 34 = .ok (.iconst 4, 1) := by decide +kernel
theorem dX0_seenBy_35 : decode cX0_seenBy 35 = .ok (.invokevirtual 60, 3) := by decide +kernel
theorem dX0_seenBy_38 : decode cX0_seenBy 38 = .ok (.ior, 1) := by decide +kernel
theorem dX0_seenBy_39 : decode cX0_seenBy 39 = .ok (.istore_n 2, 1) := by decide +kernel
theorem dX0_seenBy_40 : decode cX0_seenBy 40 = .ok (.iinc 3 1, 3) := by decide +kernel
theorem dX0_seenBy_43 : decode cX0_seenBy 43 = .ok (.goto (-39), 3) := by decide +kernel
theorem dX0_seenBy_46 : decode cX0_seenBy 46 = .ok (.iload_n 2, 1) := by decide +kernel
theorem dX0_seenBy_47 : decode cX0_seenBy 47 = .ok (.ireturn, 1) := by decide +kernel
theorem dX0_pointsOf_0 : decode cX0_pointsOf 0 = .ok (.aload_n 0, 1) := by decide +kernel
theorem dX0_pointsOf_1 : decode cX0_pointsOf 1 = .ok (.iload_n 1, 1) := by decide +kernel
theorem dX0_pointsOf_2 : decode cX0_pointsOf 2 = .ok (.invokevirtual 133, 3) := by decide +kernel
theorem dX0_pointsOf_5 : decode cX0_pointsOf 5 = .ok (.istore_n 2, 1) := by decide +kernel
theorem dX0_pointsOf_6 : decode cX0_pointsOf 6 = .ok (.iconst 0, 1) := by decide +kernel
theorem dX0_pointsOf_7 : decode cX0_pointsOf 7 = .ok (.istore_n 3, 1) := by decide +kernel
theorem dX0_pointsOf_8 : decode cX0_pointsOf 8 = .ok (.iconst 0, 1) := by decide +kernel
theorem dX0_pointsOf_9 : decode cX0_pointsOf 9 = .ok (.istore 4, 2) := by decide +kernel
theorem dX0_pointsOf_11 : decode cX0_pointsOf 11 = .ok (.iload 4, 2) := by decide +kernel
theorem dX0_pointsOf_13 : decode cX0_pointsOf 13 = .ok (.iconst 3, 1) := by decide +kernel
theorem dX0_pointsOf_14 : decode cX0_pointsOf 14 = .ok (.if_icmp .ge 31, 3) := by decide +kernel
theorem dX0_pointsOf_17 : decode cX0_pointsOf 17 = .ok (.iload_n 2, 1) := by decide +kernel
theorem dX0_pointsOf_18 : decode cX0_pointsOf 18 = .ok (.iload 4, 2) := by decide +kernel
theorem dX0_pointsOf_20 : decode cX0_pointsOf 20 = .ok (.invokestatic 84, 3) := by decide +kernel
theorem dX0_pointsOf_23 : decode cX0_pointsOf 23 = .ok (.ifCond .eq 16, 3) := by decide +kernel
theorem dX0_pointsOf_26 : decode cX0_pointsOf 26 = .ok (.iload_n 3, 1) := by decide +kernel
theorem dX0_pointsOf_27 : decode cX0_pointsOf 27 = .ok (.aload_n 0, 1) := by decide +kernel
theorem dX0_pointsOf_28 : decode cX0_pointsOf 28 = .ok (.getfield 32, 3) := by decide +kernel
theorem dX0_pointsOf_31 : decode cX0_pointsOf 31 = .ok (.iload 4, 2) := by decide +kernel
theorem dX0_pointsOf_33 : decode cX0_pointsOf 33 = .ok (.iload_n 1, 1) := by decide +kernel
theorem dX0_pointsOf_34 : decode cX0_pointsOf 34 = .ok (.invokevirtual 60, 3) := by decide +kernel
theorem dX0_pointsOf_37 : decode cX0_pointsOf 37 = .ok (.iadd, 1) := by decide +kernel
theorem dX0_pointsOf_38 : decode cX0_pointsOf 38 = .ok (.istore_n 3, 1) := by decide +kernel
theorem dX0_pointsOf_39 : decode cX0_pointsOf 39 = .ok (.iinc 4 1, 3) := by decide +kernel
theorem dX0_pointsOf_42 : decode cX0_pointsOf 42 = .ok (.goto (-31), 3) := by decide +kernel
theorem dX0_pointsOf_45 : decode cX0_pointsOf 45 = .ok (.iload_n 3, 1) := by decide +kernel
theorem dX0_pointsOf_46 : decode cX0_pointsOf 46 = .ok (.ireturn, 1) := by decide +kernel
theorem dX0_prize_0 : decode cX0_prize 0 = .ok (.iconst (-1), 1) := by decide +kernel
theorem dX0_prize_1 : decode cX0_prize 1 = .ok (.istore_n 1, 1) := by decide +kernel
theorem dX0_prize_2 : decode cX0_prize 2 = .ok (.iconst (-1), 1) := by decide +kernel
theorem dX0_prize_3 : decode cX0_prize 3 = .ok (.istore_n 2, 1) := by decide +kernel
theorem dX0_prize_4 : decode cX0_prize 4 = .ok (.iconst 0, 1) := by decide +kernel
theorem dX0_prize_5 : decode cX0_prize 5 = .ok (.istore_n 3, 1) := by decide +kernel
theorem dX0_prize_6 : decode cX0_prize 6 = .ok (.iload_n 3, 1) := by decide +kernel
theorem dX0_prize_7 : decode cX0_prize 7 = .ok (.aload_n 0, 1) := by decide +kernel
theorem dX0_prize_8 : decode cX0_prize 8 = .ok (.getfield 14, 3) := by decide +kernel
theorem dX0_prize_11 : decode cX0_prize 11 = .ok (.getfield 90, 3) := by decide +kernel
theorem dX0_prize_14 : decode cX0_prize 14 = .ok (.if_icmp .ge 38, 3) := by decide +kernel
theorem dX0_prize_17 : decode cX0_prize 17 = .ok (.aload_n 0, 1) := by decide +kernel
theorem dX0_prize_18 : decode cX0_prize 18 = .ok (.iload_n 3, 1) := by decide +kernel
theorem dX0_prize_19 : decode cX0_prize 19 = .ok (.invokevirtual 133, 3) := by decide +kernel
theorem dX0_prize_22 : decode cX0_prize 22 = .ok (.invokestatic 64, 3) := by decide +kernel
theorem dX0_prize_25 : decode cX0_prize 25 = .ok (.iconst 2, 1) := by decide +kernel
theorem dX0_prize_26 : decode cX0_prize 26 = .ok (.if_icmp .lt 20, 3) := by decide +kernel
theorem dX0_prize_29 : decode cX0_prize 29 = .ok (.aload_n 0, 1) := by decide +kernel
theorem dX0_prize_30 : decode cX0_prize 30 = .ok (.iload_n 3, 1) := by decide +kernel
theorem dX0_prize_31 : decode cX0_prize 31 = .ok (.invokevirtual 136, 3) := by decide +kernel
theorem dX0_prize_34 : decode cX0_prize 34 = .ok (.iload_n 2, 1) := by decide +kernel
theorem dX0_prize_35 : decode cX0_prize 35 = .ok (.if_icmp .le 11, 3) := by decide +kernel
theorem dX0_prize_38 : decode cX0_prize 38 = .ok (.iload_n 3, 1) := by decide +kernel
theorem dX0_prize_39 : decode cX0_prize 39 = .ok (.istore_n 1, 1) := by decide +kernel
theorem dX0_prize_40 : decode cX0_prize 40 = .ok (.aload_n 0, 1) := by decide +kernel
theorem dX0_prize_41 : decode cX0_prize 41 = .ok (.iload_n 3, 1) := by decide +kernel
theorem dX0_prize_42 : decode cX0_prize 42 = .ok (.invokevirtual 136, 3) := by decide +kernel
theorem dX0_prize_45 : decode cX0_prize 45 = .ok (.istore_n 2, 1) := by decide +kernel
theorem dX0_prize_46 : decode cX0_prize 46 = .ok (.iinc 3 1, 3) := by decide +kernel
theorem dX0_prize_49 : decode cX0_prize 49 = .ok (.goto (-43), 3) := by decide +kernel
theorem dX0_prize_52 : decode cX0_prize 52 = .ok (.iload_n 1, 1) := by decide +kernel
theorem dX0_prize_53 : decode cX0_prize 53 = .ok (.ireturn, 1) := by decide +kernel
theorem dX0_filmNumber_0 : decode cX0_filmNumber 0 = .ok (.iload_n 2, 1) := by decide +kernel
theorem dX0_filmNumber_1 : decode cX0_filmNumber 1 = .ok (.tableswitch 74 0 4 #[35, 45, 55, 62, 68], 35) := by decide +kernel
theorem dX0_filmNumber_36 : decode cX0_filmNumber 36 = .ok (.aload_n 0, 1) := by decide +kernel
theorem dX0_filmNumber_37 : decode cX0_filmNumber 37 = .ok (.getfield 14, 3) := by decide +kernel
theorem dX0_filmNumber_40 : decode cX0_filmNumber 40 = .ok (.iload_n 1, 1) := by decide +kernel
theorem dX0_filmNumber_41 : decode cX0_filmNumber 41 = .ok (.iconst 0, 1) := by decide +kernel
theorem dX0_filmNumber_42 : decode cX0_filmNumber 42 = .ok (.invokevirtual 60, 3) := by decide +kernel
theorem dX0_filmNumber_45 : decode cX0_filmNumber 45 = .ok (.ireturn, 1) := by decide +kernel
theorem dX0_filmNumber_46 : decode cX0_filmNumber 46 = .ok (.aload_n 0, 1) := by decide +kernel
theorem dX0_filmNumber_47 : decode cX0_filmNumber 47 = .ok (.getfield 14, 3) := by decide +kernel
theorem dX0_filmNumber_50 : decode cX0_filmNumber 50 = .ok (.iload_n 1, 1) := by decide +kernel
theorem dX0_filmNumber_51 : decode cX0_filmNumber 51 = .ok (.iconst 1, 1) := by decide +kernel
theorem dX0_filmNumber_52 : decode cX0_filmNumber 52 = .ok (.invokevirtual 60, 3) := by decide +kernel
theorem dX0_filmNumber_55 : decode cX0_filmNumber 55 = .ok (.ireturn, 1) := by decide +kernel
theorem dX0_filmNumber_56 : decode cX0_filmNumber 56 = .ok (.aload_n 0, 1) := by decide +kernel
theorem dX0_filmNumber_57 : decode cX0_filmNumber 57 = .ok (.iconst 0, 1) := by decide +kernel
theorem dX0_filmNumber_58 : decode cX0_filmNumber 58 = .ok (.iload_n 1, 1) := by decide +kernel
theorem dX0_filmNumber_59 : decode cX0_filmNumber 59 = .ok (.invokevirtual 139, 3) := by decide +kernel
theorem dX0_filmNumber_62 : decode cX0_filmNumber 62 = .ok (.ireturn, 1) := by decide +kernel
theorem dX0_filmNumber_63 : decode cX0_filmNumber 63 = .ok (.aload_n 0, 1) := by decide +kernel
theorem dX0_filmNumber_64 : decode cX0_filmNumber 64 = .ok (.iload_n 1, 1) := by decide +kernel
theorem dX0_filmNumber_65 : decode cX0_filmNumber 65 = .ok (.invokevirtual 142, 3) := by decide +kernel
theorem dX0_filmNumber_68 : decode cX0_filmNumber 68 = .ok (.ireturn, 1) := by decide +kernel
theorem dX0_filmNumber_69 : decode cX0_filmNumber 69 = .ok (.aload_n 0, 1) := by decide +kernel
theorem dX0_filmNumber_70 : decode cX0_filmNumber 70 = .ok (.iload_n 1, 1) := by decide +kernel
theorem dX0_filmNumber_71 : decode cX0_filmNumber 71 = .ok (.invokevirtual 133, 3) := by decide +kernel
theorem dX0_filmNumber_74 : decode cX0_filmNumber 74 = .ok (.ireturn, 1) := by decide +kernel
theorem dX0_filmNumber_75 : decode cX0_filmNumber 75 = .ok (.aload_n 0, 1) := by decide +kernel
theorem dX0_filmNumber_76 : decode cX0_filmNumber 76 = .ok (.iload_n 1, 1) := by decide +kernel
theorem dX0_filmNumber_77 : decode cX0_filmNumber 77 = .ok (.invokevirtual 136, 3) := by decide +kernel
theorem dX0_filmNumber_80 : decode cX0_filmNumber 80 = .ok (.ireturn, 1) := by decide +kernel
theorem dX0_showingsWith_0 : decode cX0_showingsWith 0 = .ok (.iconst 0, 1) := by decide +kernel
theorem dX0_showingsWith_1 : decode cX0_showingsWith 1 = .ok (.istore_n 3, 1) := by decide +kernel
theorem dX0_showingsWith_2 : decode cX0_showingsWith 2 = .ok (.iconst 0, 1) := by decide +kernel
theorem dX0_showingsWith_3 : decode cX0_showingsWith 3 = .ok (.istore 4, 2) := by decide +kernel
theorem dX0_showingsWith_5 : decode cX0_showingsWith 5 = .ok (.iload 4, 2) := by decide +kernel
theorem dX0_showingsWith_7 : decode cX0_showingsWith 7 = .ok (.aload_n 0, 1) := by decide +kernel
theorem dX0_showingsWith_8 : decode cX0_showingsWith 8 = .ok (.getfield 26, 3) := by decide +kernel
theorem dX0_showingsWith_11 : decode cX0_showingsWith 11 = .ok (.getfield 90, 3) := by decide +kernel
theorem dX0_showingsWith_14 : decode cX0_showingsWith 14 = .ok (.if_icmp .ge 26, 3) := by decide +kernel
theorem dX0_showingsWith_17 : decode cX0_showingsWith 17 = .ok (.aload_n 0, 1) := by decide +kernel
theorem dX0_showingsWith_18 : decode cX0_showingsWith 18 = .ok (.getfield 26, 3) := by decide +kernel
theorem dX0_showingsWith_21 : decode cX0_showingsWith 21 = .ok (.iload 4, 2) := by decide +kernel
theorem dX0_showingsWith_23 : decode cX0_showingsWith 23 = .ok (.iload_n 1, 1) := by decide +kernel
theorem dX0_showingsWith_24 : decode cX0_showingsWith 24 = .ok (.invokevirtual 60, 3) := by decide +kernel
theorem dX0_showingsWith_27 : decode cX0_showingsWith 27 = .ok (.iload_n 2, 1) := by decide +kernel
theorem dX0_showingsWith_28 : decode cX0_showingsWith 28 = .ok (.if_icmp .ne 6, 3) := by decide +kernel
theorem dX0_showingsWith_31 : decode cX0_showingsWith 31 = .ok (.iinc 3 1, 3) := by decide +kernel
theorem dX0_showingsWith_34 : decode cX0_showingsWith 34 = .ok (.iinc 4 1, 3) := by decide +kernel
theorem dX0_showingsWith_37 : decode cX0_showingsWith 37 = .ok (.goto (-32), 3) := by decide +kernel
theorem dX0_showingsWith_40 : decode cX0_showingsWith 40 = .ok (.iload_n 3, 1) := by decide +kernel
theorem dX0_showingsWith_41 : decode cX0_showingsWith 41 = .ok (.ireturn, 1) := by decide +kernel
theorem dX0_seatsFor_0 : decode cX0_seatsFor 0 = .ok (.iconst 0, 1) := by decide +kernel
theorem dX0_seatsFor_1 : decode cX0_seatsFor 1 = .ok (.istore_n 2, 1) := by decide +kernel
theorem dX0_seatsFor_2 : decode cX0_seatsFor 2 = .ok (.iconst 0, 1) := by decide +kernel
theorem dX0_seatsFor_3 : decode cX0_seatsFor 3 = .ok (.istore_n 3, 1) := by decide +kernel
theorem dX0_seatsFor_4 : decode cX0_seatsFor 4 = .ok (.iload_n 3, 1) := by decide +kernel
theorem dX0_seatsFor_5 : decode cX0_seatsFor 5 = .ok (.aload_n 0, 1) := by decide +kernel
theorem dX0_seatsFor_6 : decode cX0_seatsFor 6 = .ok (.getfield 26, 3) := by decide +kernel
theorem dX0_seatsFor_9 : decode cX0_seatsFor 9 = .ok (.getfield 90, 3) := by decide +kernel
theorem dX0_seatsFor_12 : decode cX0_seatsFor 12 = .ok (.if_icmp .ge 42, 3) := by decide +kernel
theorem dX0_seatsFor_15 : decode cX0_seatsFor 15 = .ok (.aload_n 0, 1) := by decide +kernel
theorem dX0_seatsFor_16 : decode cX0_seatsFor 16 = .ok (.getfield 26, 3) := by decide +kernel
theorem dX0_seatsFor_19 : decode cX0_seatsFor 19 = .ok (.iload_n 3, 1) := by decide +kernel
theorem dX0_seatsFor_20 : decode cX0_seatsFor 20 = .ok (.iconst 0, 1) := by decide +kernel
theorem dX0_seatsFor_21 : decode cX0_seatsFor 21 = .ok (.invokevirtual 60, 3) := by decide +kernel
theorem dX0_seatsFor_24 : decode cX0_seatsFor 24 = .ok (.iload_n 1, 1) := by decide +kernel
theorem dX0_seatsFor_25 : decode cX0_seatsFor 25 = .ok (.if_icmp .ne 23, 3) := by decide +kernel
theorem dX0_seatsFor_28 : decode cX0_seatsFor 28 = .ok (.iload_n 2, 1) := by decide +kernel
theorem dX0_seatsFor_29 : decode cX0_seatsFor 29 = .ok (.aload_n 0, 1) := by decide +kernel
theorem dX0_seatsFor_30 : decode cX0_seatsFor 30 = .ok (.getfield 20, 3) := by decide +kernel
theorem dX0_seatsFor_33 : decode cX0_seatsFor 33 = .ok (.aload_n 0, 1) := by decide +kernel
theorem dX0_seatsFor_34 : decode cX0_seatsFor 34 = .ok (.getfield 26, 3) := by decide +kernel
theorem dX0_seatsFor_37 : decode cX0_seatsFor 37 = .ok (.iload_n 3, 1) := by decide +kernel
theorem dX0_seatsFor_38 : decode cX0_seatsFor 38 = .ok (.iconst 1, 1) := by decide +kernel
theorem dX0_seatsFor_39 : decode cX0_seatsFor 39 = .ok (.invokevirtual 60, 3) := by decide +kernel
theorem dX0_seatsFor_42 : decode cX0_seatsFor 42 = .ok (.iconst 0, 1) := by decide +kernel
theorem dX0_seatsFor_43 : decode cX0_seatsFor 43 = .ok (.invokevirtual 60, 3) := by decide +kernel
theorem dX0_seatsFor_46 : decode cX0_seatsFor 46 = .ok (.iadd, 1) := by decide +kernel
theorem dX0_seatsFor_47 : decode cX0_seatsFor 47 = .ok (.istore_n 2, 1) := by decide +kernel
theorem dX0_seatsFor_48 : decode cX0_seatsFor 48 = .ok (.iinc 3 1, 3) := by decide +kernel
theorem dX0_seatsFor_51 : decode cX0_seatsFor 51 = .ok (.goto (-47), 3) := by decide +kernel
theorem dX0_seatsFor_54 : decode cX0_seatsFor 54 = .ok (.iload_n 2, 1) := by decide +kernel
theorem dX0_seatsFor_55 : decode cX0_seatsFor 55 = .ok (.ireturn, 1) := by decide +kernel
theorem dX0_showingNumber_0 : decode cX0_showingNumber 0 = .ok (.iload_n 2, 1) := by decide +kernel
theorem dX0_showingNumber_1 : decode cX0_showingNumber 1 = .ok (.tableswitch 81 0 4 #[35, 45, 55, 65, 71], 35) := by decide +kernel
theorem dX0_showingNumber_36 : decode cX0_showingNumber 36 = .ok (.aload_n 0, 1) := by decide +kernel
theorem dX0_showingNumber_37 : decode cX0_showingNumber 37 = .ok (.getfield 26, 3) := by decide +kernel
theorem dX0_showingNumber_40 : decode cX0_showingNumber 40 = .ok (.iload_n 1, 1) := by decide +kernel
theorem dX0_showingNumber_41 : decode cX0_showingNumber 41 = .ok (.iconst 0, 1) := by decide +kernel
theorem dX0_showingNumber_42 : decode cX0_showingNumber 42 = .ok (.invokevirtual 60, 3) := by decide +kernel
theorem dX0_showingNumber_45 : decode cX0_showingNumber 45 = .ok (.ireturn, 1) := by decide +kernel
theorem dX0_showingNumber_46 : decode cX0_showingNumber 46 = .ok (.aload_n 0, 1) := by decide +kernel
theorem dX0_showingNumber_47 : decode cX0_showingNumber 47 = .ok (.getfield 26, 3) := by decide +kernel
theorem dX0_showingNumber_50 : decode cX0_showingNumber 50 = .ok (.iload_n 1, 1) := by decide +kernel
theorem dX0_showingNumber_51 : decode cX0_showingNumber 51 = .ok (.iconst 1, 1) := by decide +kernel
theorem dX0_showingNumber_52 : decode cX0_showingNumber 52 = .ok (.invokevirtual 60, 3) := by decide +kernel
theorem dX0_showingNumber_55 : decode cX0_showingNumber 55 = .ok (.ireturn, 1) := by decide +kernel
theorem dX0_showingNumber_56 : decode cX0_showingNumber 56 = .ok (.aload_n 0, 1) := by decide +kernel
theorem dX0_showingNumber_57 : decode cX0_showingNumber 57 = .ok (.getfield 26, 3) := by decide +kernel
theorem dX0_showingNumber_60 : decode cX0_showingNumber 60 = .ok (.iload_n 1, 1) := by decide +kernel
theorem dX0_showingNumber_61 : decode cX0_showingNumber 61 = .ok (.iconst 2, 1) := by decide +kernel
theorem dX0_showingNumber_62 : decode cX0_showingNumber 62 = .ok (.invokevirtual 60, 3) := by decide +kernel
theorem dX0_showingNumber_65 : decode cX0_showingNumber 65 = .ok (.ireturn, 1) := by decide +kernel
theorem dX0_showingNumber_66 : decode cX0_showingNumber 66 = .ok (.aload_n 0, 1) := by decide +kernel
theorem dX0_showingNumber_67 : decode cX0_showingNumber 67 = .ok (.iload_n 1, 1) := by decide +kernel
theorem dX0_showingNumber_68 : decode cX0_showingNumber 68 = .ok (.invokevirtual 87, 3) := by decide +kernel
theorem dX0_showingNumber_71 : decode cX0_showingNumber 71 = .ok (.ireturn, 1) := by decide +kernel
theorem dX0_showingNumber_72 : decode cX0_showingNumber 72 = .ok (.aload_n 0, 1) := by decide +kernel
theorem dX0_showingNumber_73 : decode cX0_showingNumber 73 = .ok (.getfield 26, 3) := by decide +kernel
theorem dX0_showingNumber_76 : decode cX0_showingNumber 76 = .ok (.iload_n 1, 1) := by decide +kernel
theorem dX0_showingNumber_77 : decode cX0_showingNumber 77 = .ok (.iconst 3, 1) := by decide +kernel
theorem dX0_showingNumber_78 : decode cX0_showingNumber 78 = .ok (.invokevirtual 60, 3) := by decide +kernel
theorem dX0_showingNumber_81 : decode cX0_showingNumber 81 = .ok (.ireturn, 1) := by decide +kernel
theorem dX0_showingNumber_82 : decode cX0_showingNumber 82 = .ok (.aload_n 0, 1) := by decide +kernel
theorem dX0_showingNumber_83 : decode cX0_showingNumber 83 = .ok (.getfield 26, 3) := by decide +kernel
theorem dX0_showingNumber_86 : decode cX0_showingNumber 86 = .ok (.iload_n 1, 1) := by decide +kernel
theorem dX0_showingNumber_87 : decode cX0_showingNumber 87 = .ok (.iconst 4, 1) := by decide +kernel
theorem dX0_showingNumber_88 : decode cX0_showingNumber 88 = .ok (.invokevirtual 60, 3) := by decide +kernel
theorem dX0_showingNumber_91 : decode cX0_showingNumber 91 = .ok (.ireturn, 1) := by decide +kernel
theorem dX0_runningOn_0 : decode cX0_runningOn 0 = .ok (.iconst 0, 1) := by decide +kernel
theorem dX0_runningOn_1 : decode cX0_runningOn 1 = .ok (.istore_n 3, 1) := by decide +kernel
theorem dX0_runningOn_2 : decode cX0_runningOn 2 = .ok (.iload_n 3, 1) := by decide +kernel
theorem dX0_runningOn_3 : decode cX0_runningOn 3 = .ok (.aload_n 0, 1) := by decide +kernel
theorem dX0_runningOn_4 : decode cX0_runningOn 4 = .ok (.getfield 26, 3) := by decide +kernel
theorem dX0_runningOn_7 : decode cX0_runningOn 7 = .ok (.getfield 90, 3) := by decide +kernel
theorem dX0_runningOn_10 : decode cX0_runningOn 10 = .ok (.if_icmp .ge 52, 3) := by decide +kernel
theorem dX0_runningOn_13 : decode cX0_runningOn 13 = .ok (.aload_n 0, 1) := by decide +kernel
theorem dX0_runningOn_14 : decode cX0_runningOn 14 = .ok (.getfield 26, 3) := by decide +kernel
theorem dX0_runningOn_17 : decode cX0_runningOn 17 = .ok (.iload_n 3, 1) := by decide +kernel
theorem dX0_runningOn_18 : decode cX0_runningOn 18 = .ok (.iconst 1, 1) := by decide +kernel
theorem dX0_runningOn_19 : decode cX0_runningOn 19 = .ok (.invokevirtual 60, 3) := by decide +kernel
theorem dX0_runningOn_22 : decode cX0_runningOn 22 = .ok (.iload_n 1, 1) := by decide +kernel
theorem dX0_runningOn_23 : decode cX0_runningOn 23 = .ok (.if_icmp .ne 33, 3) := by decide +kernel
theorem dX0_runningOn_26 : decode cX0_runningOn 26 = .ok (.aload_n 0, 1) := by decide +kernel
theorem dX0_runningOn_27 : decode cX0_runningOn 27 = .ok (.iload_n 3, 1) := by decide +kernel
theorem dX0_runningOn_28 : decode cX0_runningOn 28 = .ok (.iload_n 2, 1) := by decide +kernel
theorem dX0_runningOn_29 : decode cX0_runningOn 29 = .ok (.invokevirtual 145, 3) := by decide +kernel
theorem dX0_runningOn_32 : decode cX0_runningOn 32 = .ok (.istore 4, 2) := by decide +kernel
theorem dX0_runningOn_34 : decode cX0_runningOn 34 = .ok (.iload 4, 2) := by decide +kernel
theorem dX0_runningOn_36 : decode cX0_runningOn 36 = .ok (.iconst (-1), 1) := by decide +kernel
theorem dX0_runningOn_37 : decode cX0_runningOn 37 = .ok (.if_icmp .eq 19, 3) := by decide +kernel
theorem dX0_runningOn_40 : decode cX0_runningOn 40 = .ok (.bipush 6, 2) := by decide +kernel
theorem dX0_runningOn_42 : decode cX0_runningOn 42 = .ok (.aload_n 0, 1) := by decide +kernel
theorem dX0_runningOn_43 : decode cX0_runningOn 43 = .ok (.getfield 26, 3) := by decide +kernel
theorem dX0_runningOn_46 : decode cX0_runningOn 46 = .ok (.iload_n 3, 1) := by decide +kernel
theorem dX0_runningOn_47 : decode cX0_runningOn 47 = .ok (.iconst 0, 1) := by decide +kernel
theorem dX0_runningOn_48 : decode cX0_runningOn 48 = .ok (.invokevirtual 60, 3) := by decide +kernel
theorem dX0_runningOn_51 : decode cX0_runningOn 51 = .ok (.imul, 1) := by decide +kernel
theorem dX0_runningOn_52 : decode cX0_runningOn 52 = .ok (.iload 4, 2) := by decide +kernel
theorem dX0_runningOn_54 : decode cX0_runningOn 54 = .ok (.iadd, 1) := by decide +kernel
theorem dX0_runningOn_55 : decode cX0_runningOn 55 = .ok (.ireturn, 1) := by decide +kernel
theorem dX0_runningOn_56 : decode cX0_runningOn 56 = .ok (.iinc 3 1, 3) := by decide +kernel
theorem dX0_runningOn_59 : decode cX0_runningOn 59 = .ok (.goto (-57), 3) := by decide +kernel
theorem dX0_runningOn_62 : decode cX0_runningOn 62 = .ok (.iconst (-1), 1) := by decide +kernel
theorem dX0_runningOn_63 : decode cX0_runningOn 63 = .ok (.ireturn, 1) := by decide +kernel
theorem dX0_reelAt_0 : decode cX0_reelAt 0 = .ok (.aload_n 0, 1) := by decide +kernel
theorem dX0_reelAt_1 : decode cX0_reelAt 1 = .ok (.getfield 26, 3) := by decide +kernel
theorem dX0_reelAt_4 : decode cX0_reelAt 4 = .ok (.iload_n 1, 1) := by decide +kernel
theorem dX0_reelAt_5 : decode cX0_reelAt 5 = .ok (.iconst 0, 1) := by decide +kernel
theorem dX0_reelAt_6 : decode cX0_reelAt 6 = .ok (.invokevirtual 60, 3) := by decide +kernel
theorem dX0_reelAt_9 : decode cX0_reelAt 9 = .ok (.istore_n 3, 1) := by decide +kernel
theorem dX0_reelAt_10 : decode cX0_reelAt 10 = .ok (.aload_n 0, 1) := by decide +kernel
theorem dX0_reelAt_11 : decode cX0_reelAt 11 = .ok (.getfield 14, 3) := by decide +kernel
theorem dX0_reelAt_14 : decode cX0_reelAt 14 = .ok (.iload_n 3, 1) := by decide +kernel
theorem dX0_reelAt_15 : decode cX0_reelAt 15 = .ok (.iconst 0, 1) := by decide +kernel
theorem dX0_reelAt_16 : decode cX0_reelAt 16 = .ok (.invokevirtual 60, 3) := by decide +kernel
theorem dX0_reelAt_19 : decode cX0_reelAt 19 = .ok (.istore 4, 2) := by decide +kernel
theorem dX0_reelAt_21 : decode cX0_reelAt 21 = .ok (.aload_n 0, 1) := by decide +kernel
theorem dX0_reelAt_22 : decode cX0_reelAt 22 = .ok (.getfield 14, 3) := by decide +kernel
theorem dX0_reelAt_25 : decode cX0_reelAt 25 = .ok (.iload_n 3, 1) := by decide +kernel
theorem dX0_reelAt_26 : decode cX0_reelAt 26 = .ok (.iconst 1, 1) := by decide +kernel
theorem dX0_reelAt_27 : decode cX0_reelAt 27 = .ok (.invokevirtual 60, 3) := by decide +kernel
theorem dX0_reelAt_30 : decode cX0_reelAt 30 = .ok (.istore 5, 2) := by decide +kernel
theorem dX0_reelAt_32 : decode cX0_reelAt 32 = .ok (.aload_n 0, 1) := by decide +kernel
theorem dX0_reelAt_33 : decode cX0_reelAt 33 = .ok (.getfield 26, 3) := by decide +kernel
theorem dX0_reelAt_36 : decode cX0_reelAt 36 = .ok (.iload_n 1, 1) := by decide +kernel
theorem dX0_reelAt_37 : decode cX0_reelAt 37 = .ok (.iconst 2, 1) := by decide +kernel
theorem dX0_reelAt_38 : decode cX0_reelAt 38 = .ok (.invokevirtual 60, 3) := by decide +kernel
theorem dX0_reelAt_41 : decode cX0_reelAt 41 = .ok (.istore 6, 2) := by decide +kernel
theorem dX0_reelAt_43 : decode cX0_reelAt 43 = .ok (.aload_n 0, 1) := by decide +kernel
theorem dX0_reelAt_44 : decode cX0_reelAt 44 = .ok (.getfield 26, 3) := by decide +kernel
theorem dX0_reelAt_47 : decode cX0_reelAt 47 = .ok (.iload_n 1, 1) := by decide +kernel
theorem dX0_reelAt_48 : decode cX0_reelAt 48 = .ok (.iconst 3, 1) := by decide +kernel
theorem dX0_reelAt_49 : decode cX0_reelAt 49 = .ok (.invokevirtual 60, 3) := by decide +kernel
theorem dX0_reelAt_52 : decode cX0_reelAt 52 = .ok (.istore 7, 2) := by decide +kernel
theorem dX0_reelAt_54 : decode cX0_reelAt 54 = .ok (.iconst 0, 1) := by decide +kernel
theorem dX0_reelAt_55 : decode cX0_reelAt 55 = .ok (.istore 8, 2) := by decide +kernel
theorem dX0_reelAt_57 : decode cX0_reelAt 57 = .ok (.iload 8, 2) := by decide +kernel
theorem dX0_reelAt_59 : decode cX0_reelAt 59 = .ok (.iload 4, 2) := by decide +kernel
theorem dX0_reelAt_61 : decode cX0_reelAt 61 = .ok (.if_icmp .ge 42, 3) := by decide +kernel
theorem dX0_reelAt_64 : decode cX0_reelAt 64 = .ok (.iload 6, 2) := by decide +kernel
theorem dX0_reelAt_66 : decode cX0_reelAt 66 = .ok (.iload 7, 2) := by decide +kernel
theorem dX0_reelAt_68 : decode cX0_reelAt 68 = .ok (.iload 4, 2) := by decide +kernel
theorem dX0_reelAt_70 : decode cX0_reelAt 70 = .ok (.iload 5, 2) := by decide +kernel
theorem dX0_reelAt_72 : decode cX0_reelAt 72 = .ok (.iload 8, 2) := by decide +kernel
theorem dX0_reelAt_74 : decode cX0_reelAt 74 = .ok (.invokestatic 97, 3) := by decide +kernel
theorem dX0_reelAt_77 : decode cX0_reelAt 77 = .ok (.istore 9, 2) := by decide +kernel
theorem dX0_reelAt_79 : decode cX0_reelAt 79 = .ok (.iload_n 2, 1) := by decide +kernel
theorem dX0_reelAt_80 : decode cX0_reelAt 80 = .ok (.iload 9, 2) := by decide +kernel
theorem dX0_reelAt_82 : decode cX0_reelAt 82 = .ok (.if_icmp .lt 15, 3) := by decide +kernel
theorem dX0_reelAt_85 : decode cX0_reelAt 85 = .ok (.iload_n 2, 1) := by decide +kernel
theorem dX0_reelAt_86 : decode cX0_reelAt 86 = .ok (.iload 9, 2) := by decide +kernel
theorem dX0_reelAt_88 : decode cX0_reelAt 88 = .ok (.iload 5, 2) := by decide +kernel
theorem dX0_reelAt_90 : decode cX0_reelAt 90 = .ok (.iadd, 1) := by decide +kernel
theorem dX0_reelAt_91 : decode cX0_reelAt 91 = .ok (.if_icmp .ge 6, 3) := by decide +kernel
theorem dX0_reelAt_94 : decode cX0_reelAt 94 = .ok (.iload 8, 2) := by decide +kernel
theorem dX0_reelAt_96 : decode cX0_reelAt 96 = .ok (.ireturn, 1) := by decide +kernel
theorem dX0_reelAt_97 : decode cX0_reelAt 97 = .ok (.iinc 8 1, 3) := by decide +kernel
theorem dX0_reelAt_100 : decode cX0_reelAt 100 = .ok (.goto (-43), 3) := by decide +kernel
theorem dX0_reelAt_103 : decode cX0_reelAt 103 = .ok (.iconst (-1), 1) := by decide +kernel
theorem dX0_reelAt_104 : decode cX0_reelAt 104 = .ok (.ireturn, 1) := by decide +kernel
theorem dX0_screenNumber_0 : decode cX0_screenNumber 0 = .ok (.iload_n 2, 1) := by decide +kernel
theorem dX0_screenNumber_1 : decode cX0_screenNumber 1 = .ok (.tableswitch 60 0 3 #[31, 41, 48, 54], 31) := by decide +kernel
theorem dX0_screenNumber_32 : decode cX0_screenNumber 32 = .ok (.aload_n 0, 1) := by decide +kernel
theorem dX0_screenNumber_33 : decode cX0_screenNumber 33 = .ok (.getfield 20, 3) := by decide +kernel
theorem dX0_screenNumber_36 : decode cX0_screenNumber 36 = .ok (.iload_n 1, 1) := by decide +kernel
theorem dX0_screenNumber_37 : decode cX0_screenNumber 37 = .ok (.iconst 0, 1) := by decide +kernel
theorem dX0_screenNumber_38 : decode cX0_screenNumber 38 = .ok (.invokevirtual 60, 3) := by decide +kernel
theorem dX0_screenNumber_41 : decode cX0_screenNumber 41 = .ok (.ireturn, 1) := by decide +kernel
theorem dX0_screenNumber_42 : decode cX0_screenNumber 42 = .ok (.aload_n 0, 1) := by decide +kernel
theorem dX0_screenNumber_43 : decode cX0_screenNumber 43 = .ok (.iconst 1, 1) := by decide +kernel
theorem dX0_screenNumber_44 : decode cX0_screenNumber 44 = .ok (.iload_n 1, 1) := by decide +kernel
theorem dX0_screenNumber_45 : decode cX0_screenNumber 45 = .ok (.invokevirtual 139, 3) := by decide +kernel
theorem dX0_screenNumber_48 : decode cX0_screenNumber 48 = .ok (.ireturn, 1) := by decide +kernel
theorem dX0_screenNumber_49 : decode cX0_screenNumber 49 = .ok (.aload_n 0, 1) := by decide +kernel
theorem dX0_screenNumber_50 : decode cX0_screenNumber 50 = .ok (.iload_n 1, 1) := by decide +kernel
theorem dX0_screenNumber_51 : decode cX0_screenNumber 51 = .ok (.invokevirtual 148, 3) := by decide +kernel
theorem dX0_screenNumber_54 : decode cX0_screenNumber 54 = .ok (.ireturn, 1) := by decide +kernel
theorem dX0_screenNumber_55 : decode cX0_screenNumber 55 = .ok (.aload_n 0, 1) := by decide +kernel
theorem dX0_screenNumber_56 : decode cX0_screenNumber 56 = .ok (.iload_n 1, 1) := by decide +kernel
theorem dX0_screenNumber_57 : decode cX0_screenNumber 57 = .ok (.invokevirtual 151, 3) := by decide +kernel
theorem dX0_screenNumber_60 : decode cX0_screenNumber 60 = .ok (.ireturn, 1) := by decide +kernel
theorem dX0_screenNumber_61 : decode cX0_screenNumber 61 = .ok (.aload_n 0, 1) := by decide +kernel
theorem dX0_screenNumber_62 : decode cX0_screenNumber 62 = .ok (.iload_n 1, 1) := by decide +kernel
theorem dX0_screenNumber_63 : decode cX0_screenNumber 63 = .ok (.invokevirtual 154, 3) := by decide +kernel
theorem dX0_screenNumber_66 : decode cX0_screenNumber 66 = .ok (.ireturn, 1) := by decide +kernel
theorem dX0_reckonedMinutes_0 : decode cX0_reckonedMinutes 0 = .ok (.iconst 0, 1) := by decide +kernel
theorem dX0_reckonedMinutes_1 : decode cX0_reckonedMinutes 1 = .ok (.istore_n 2, 1) := by decide +kernel
theorem dX0_reckonedMinutes_2 : decode cX0_reckonedMinutes 2 = .ok (.iconst 0, 1) := by decide +kernel
theorem dX0_reckonedMinutes_3 : decode cX0_reckonedMinutes 3 = .ok (.istore_n 3, 1) := by decide +kernel
theorem dX0_reckonedMinutes_4 : decode cX0_reckonedMinutes 4 = .ok (.iload_n 3, 1) := by decide +kernel
theorem dX0_reckonedMinutes_5 : decode cX0_reckonedMinutes 5 = .ok (.aload_n 0, 1) := by decide +kernel
theorem dX0_reckonedMinutes_6 : decode cX0_reckonedMinutes 6 = .ok (.getfield 26, 3) := by decide +kernel
theorem dX0_reckonedMinutes_9 : decode cX0_reckonedMinutes 9 = .ok (.getfield 90, 3) := by decide +kernel
theorem dX0_reckonedMinutes_12 : decode cX0_reckonedMinutes 12 = .ok (.if_icmp .ge 38, 3) := by decide +kernel
theorem dX0_reckonedMinutes_15 : decode cX0_reckonedMinutes 15 = .ok (.aload_n 0, 1) := by decide +kernel
theorem dX0_reckonedMinutes_16 : decode cX0_reckonedMinutes 16 = .ok (.getfield 26, 3) := by decide +kernel
theorem dX0_reckonedMinutes_19 : decode cX0_reckonedMinutes 19 = .ok (.iload_n 3, 1) := by decide +kernel
theorem dX0_reckonedMinutes_20 : decode cX0_reckonedMinutes 20 = .ok (.iconst 1, 1) := by decide +kernel
theorem dX0_reckonedMinutes_21 : decode cX0_reckonedMinutes 21 = .ok (.invokevirtual 60, 3) := by decide +kernel
theorem dX0_reckonedMinutes_24 : decode cX0_reckonedMinutes 24 = .ok (.iload_n 1, 1) := by decide +kernel
theorem dX0_reckonedMinutes_25 : decode cX0_reckonedMinutes 25 = .ok (.if_icmp .ne 19, 3) := by decide +kernel
theorem dX0_reckonedMinutes_28 : decode cX0_reckonedMinutes 28 = .ok (.iload_n 2, 1) := by decide +kernel
theorem dX0_reckonedMinutes_29 : decode cX0_reckonedMinutes 29 = .ok (.aload_n 0, 1) := by decide +kernel
theorem dX0_reckonedMinutes_30 : decode cX0_reckonedMinutes 30 = .ok (.aload_n 0, 1) := by decide +kernel
theorem dX0_reckonedMinutes_31 : decode cX0_reckonedMinutes 31 = .ok (.getfield 26, 3) := by decide +kernel
theorem dX0_reckonedMinutes_34 : decode cX0_reckonedMinutes 34 = .ok (.iload_n 3, 1) := by decide +kernel
theorem dX0_reckonedMinutes_35 : decode cX0_reckonedMinutes 35 = .ok (.iconst 0, 1) := by decide +kernel
theorem dX0_reckonedMinutes_36 : decode cX0_reckonedMinutes 36 = .ok (.invokevirtual 60, 3) := by decide +kernel
theorem dX0_reckonedMinutes_39 : decode cX0_reckonedMinutes 39 = .ok (.invokevirtual 104, 3) := by decide +kernel
theorem dX0_reckonedMinutes_42 : decode cX0_reckonedMinutes 42 = .ok (.iadd, 1) := by decide +kernel
theorem dX0_reckonedMinutes_43 : decode cX0_reckonedMinutes 43 = .ok (.istore_n 2, 1) := by decide +kernel
theorem dX0_reckonedMinutes_44 : decode cX0_reckonedMinutes 44 = .ok (.iinc 3 1, 3) := by decide +kernel
theorem dX0_reckonedMinutes_47 : decode cX0_reckonedMinutes 47 = .ok (.goto (-43), 3) := by decide +kernel
theorem dX0_reckonedMinutes_50 : decode cX0_reckonedMinutes 50 = .ok (.iload_n 2, 1) := by decide +kernel
theorem dX0_reckonedMinutes_51 : decode cX0_reckonedMinutes 51 = .ok (.ireturn, 1) := by decide +kernel
theorem dX0_countedMinutes_0 : decode cX0_countedMinutes 0 = .ok (.iconst 0, 1) := by decide +kernel
theorem dX0_countedMinutes_1 : decode cX0_countedMinutes 1 = .ok (.istore_n 2, 1) := by decide +kernel
theorem dX0_countedMinutes_2 : decode cX0_countedMinutes 2 = .ok (.iconst 0, 1) := by decide +kernel
theorem dX0_countedMinutes_3 : decode cX0_countedMinutes 3 = .ok (.istore_n 3, 1) := by decide +kernel
theorem dX0_countedMinutes_4 : decode cX0_countedMinutes 4 = .ok (.iload_n 3, 1) := by decide +kernel
theorem dX0_countedMinutes_5 : decode cX0_countedMinutes 5 = .ok (.aload_n 0, 1) := by decide +kernel
theorem dX0_countedMinutes_6 : decode cX0_countedMinutes 6 = .ok (.getfield 26, 3) := by decide +kernel
theorem dX0_countedMinutes_9 : decode cX0_countedMinutes 9 = .ok (.getfield 90, 3) := by decide +kernel
theorem dX0_countedMinutes_12 : decode cX0_countedMinutes 12 = .ok (.if_icmp .ge 78, 3) := by decide +kernel
theorem dX0_countedMinutes_15 : decode cX0_countedMinutes 15 = .ok (.aload_n 0, 1) := by decide +kernel
theorem dX0_countedMinutes_16 : decode cX0_countedMinutes 16 = .ok (.getfield 26, 3) := by decide +kernel
theorem dX0_countedMinutes_19 : decode cX0_countedMinutes 19 = .ok (.iload_n 3, 1) := by decide +kernel
theorem dX0_countedMinutes_20 : decode cX0_countedMinutes 20 = .ok (.iconst 1, 1) := by decide +kernel
theorem dX0_countedMinutes_21 : decode cX0_countedMinutes 21 = .ok (.invokevirtual 60, 3) := by decide +kernel
theorem dX0_countedMinutes_24 : decode cX0_countedMinutes 24 = .ok (.iload_n 1, 1) := by decide +kernel
theorem dX0_countedMinutes_25 : decode cX0_countedMinutes 25 = .ok (.if_icmp .eq 6, 3) := by decide +kernel
theorem dX0_countedMinutes_28 : decode cX0_countedMinutes 28 = .ok (.goto 56, 3) := by decide +kernel
theorem dX0_countedMinutes_31 : decode cX0_countedMinutes 31 = .ok (.aload_n 0, 1) := by decide +kernel
theorem dX0_countedMinutes_32 : decode cX0_countedMinutes 32 = .ok (.iload_n 3, 1) := by decide +kernel
theorem dX0_countedMinutes_33 : decode cX0_countedMinutes 33 = .ok (.invokevirtual 87, 3) := by decide +kernel
theorem dX0_countedMinutes_36 : decode cX0_countedMinutes 36 = .ok (.istore 4, 2) := by decide +kernel
theorem dX0_countedMinutes_38 : decode cX0_countedMinutes 38 = .ok (.aload_n 0, 1) := by decide +kernel
theorem dX0_countedMinutes_39 : decode cX0_countedMinutes 39 = .ok (.getfield 26, 3) := by decide +kernel
theorem dX0_countedMinutes_42 : decode cX0_countedMinutes 42 = .ok (.iload_n 3, 1) := by decide +kernel
theorem dX0_countedMinutes_43 : decode cX0_countedMinutes 43 = .ok (.iconst 2, 1) := by decide +kernel
theorem dX0_countedMinutes_44 : decode cX0_countedMinutes 44 = .ok (.invokevirtual 60, 3) := by decide +kernel
theorem dX0_countedMinutes_47 : decode cX0_countedMinutes 47 = .ok (.istore 5, 2) := by decide +kernel
theorem dX0_countedMinutes_49 : decode cX0_countedMinutes 49 = .ok (.iload 5, 2) := by decide +kernel
theorem dX0_countedMinutes_51 : decode cX0_countedMinutes 51 = .ok (.iload 4, 2) := by decide +kernel
theorem dX0_countedMinutes_53 : decode cX0_countedMinutes 53 = .ok (.if_icmp .ge 31, 3) := by decide +kernel
theorem dX0_countedMinutes_56 : decode cX0_countedMinutes 56 = .ok (.iload 5, 2) := by decide +kernel

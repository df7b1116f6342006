theorem dX4_canGo_82 : decode cX4_canGo 82 = .ok (.ifCond .ne 7, 3) := by decide +kernel
theorem dX4_canGo_85 : decode cX4_canGo 85 = .ok (.iconst 1, 1) := by decide +kernel
theorem dX4_canGo_86 : decode cX4_canGo 86 = .ok (.goto 4, 3) := by decide +kernel
theorem dX4_canGo_89 : decode cX4_canGo 89 = .ok (.iconst 0, 1) := by decide +kernel
theorem dX4_canGo_90 : decode cX4_canGo 90 = .ok (.istore_n 3, 1) := by decide +kernel
theorem dX4_canGo_91 : decode cX4_canGo 91 = .ok (.iinc 4 1, 3) := by decide +kernel
theorem dX4_canGo_94 : decode cX4_canGo 94 = .ok (.goto (-89), 3) := by decide +kernel
theorem dX4_canGo_97 : decode cX4_canGo 97 = .ok (.iload_n 3, 1) := by decide +kernel
theorem dX4_canGo_98 : decode cX4_canGo 98 = .ok (.ireturn, 1) := by decide +kernel
theorem dX4_move_0 : decode cX4_move 0 = .ok (.aload_n 0, 1) := by decide +kernel
theorem dX4_move_1 : decode cX4_move 1 = .ok (.iconst 0, 1) := by decide +kernel
theorem dX4_move_2 : decode cX4_move 2 = .ok (.putfield 29, 3) := by decide +kernel
theorem dX4_move_5 : decode cX4_move 5 = .ok (.aload_n 0, 1) := by decide +kernel
theorem dX4_move_6 : decode cX4_move 6 = .ok (.iload_n 1, 1) := by decide +kernel
theorem dX4_move_7 : decode cX4_move 7 = .ok (.invokevirtual 115, 3) := by decide +kernel
theorem dX4_move_10 : decode cX4_move 10 = .ok (.ifCond .ne 9, 3) := by decide +kernel
theorem dX4_move_13 : decode cX4_move 13 = .ok (.aload_n 0, 1) := by decide +kernel
theorem dX4_move_14 : decode cX4_move 14 = .ok (.iconst 1, 1) := by decide +kernel
theorem dX4_move_15 : decode cX4_move 15 = .ok (.invokevirtual 92, 3) := by decide +kernel
theorem dX4_move_18 : decode cX4_move 18 = .ok (.ireturn, 1) := by decide +kernel
theorem dX4_move_19 : decode cX4_move 19 = .ok (.iload_n 2, 1) := by decide +kernel
theorem dX4_move_20 : decode cX4_move 20 = .ok (.invokestatic 105, 3) := by decide +kernel
theorem dX4_move_23 : decode cX4_move 23 = .ok (.ifCond .ne 9, 3) := by decide +kernel
theorem dX4_move_26 : decode cX4_move 26 = .ok (.aload_n 0, 1) := by decide +kernel
theorem dX4_move_27 : decode cX4_move 27 = .ok (.iconst 2, 1) := by decide +kernel
theorem dX4_move_28 : decode cX4_move 28 = .ok (.invokevirtual 92, 3) := by decide +kernel
theorem dX4_move_31 : decode cX4_move 31 = .ok (.ireturn, 1) := by decide +kernel
theorem dX4_move_32 : decode cX4_move 32 = .ok (.aload_n 0, 1) := by decide +kernel
theorem dX4_move_33 : decode cX4_move 33 = .ok (.aload_n 0, 1) := by decide +kernel
theorem dX4_move_34 : decode cX4_move 34 = .ok (.iload_n 1, 1) := by decide +kernel
theorem dX4_move_35 : decode cX4_move 35 = .ok (.iconst 0, 1) := by decide +kernel
theorem dX4_move_36 : decode cX4_move 36 = .ok (.invokevirtual 47, 3) := by decide +kernel
theorem dX4_move_39 : decode cX4_move 39 = .ok (.aload_n 0, 1) := by decide +kernel
theorem dX4_move_40 : decode cX4_move 40 = .ok (.iload_n 1, 1) := by decide +kernel
theorem dX4_move_41 : decode cX4_move 41 = .ok (.iconst 1, 1) := by decide +kernel
theorem dX4_move_42 : decode cX4_move 42 = .ok (.invokevirtual 47, 3) := by decide +kernel
theorem dX4_move_45 : decode cX4_move 45 = .ok (.iload_n 2, 1) := by decide +kernel
theorem dX4_move_46 : decode cX4_move 46 = .ok (.aload_n 0, 1) := by decide +kernel
theorem dX4_move_47 : decode cX4_move 47 = .ok (.iload_n 1, 1) := by decide +kernel
theorem dX4_move_48 : decode cX4_move 48 = .ok (.iconst 3, 1) := by decide +kernel
theorem dX4_move_49 : decode cX4_move 49 = .ok (.invokevirtual 47, 3) := by decide +kernel
theorem dX4_move_52 : decode cX4_move 52 = .ok (.iload_n 1, 1) := by decide +kernel
theorem dX4_move_53 : decode cX4_move 53 = .ok (.invokevirtual 81, 3) := by decide +kernel
theorem dX4_move_56 : decode cX4_move 56 = .ok (.aload_n 0, 1) := by decide +kernel
theorem dX4_move_57 : decode cX4_move 57 = .ok (.getfield 55, 3) := by decide +kernel
theorem dX4_move_60 : decode cX4_move 60 = .ok (.ifCond .eq 9, 3) := by decide +kernel
theorem dX4_move_63 : decode cX4_move 63 = .ok (.aload_n 0, 1) := by decide +kernel
theorem dX4_move_64 : decode cX4_move 64 = .ok (.iconst 3, 1) := by decide +kernel
theorem dX4_move_65 : decode cX4_move 65 = .ok (.invokevirtual 92, 3) := by decide +kernel
theorem dX4_move_68 : decode cX4_move 68 = .ok (.ireturn, 1) := by decide +kernel
theorem dX4_move_69 : decode cX4_move 69 = .ok (.aload_n 0, 1) := by decide +kernel
theorem dX4_move_70 : decode cX4_move 70 = .ok (.invokevirtual 95, 3) := by decide +kernel
theorem dX4_move_73 : decode cX4_move 73 = .ok (.aload_n 0, 1) := by decide +kernel
theorem dX4_move_74 : decode cX4_move 74 = .ok (.iload_n 1, 1) := by decide +kernel
theorem dX4_move_75 : decode cX4_move 75 = .ok (.iconst 2, 1) := by decide +kernel
theorem dX4_move_76 : decode cX4_move 76 = .ok (.iload_n 2, 1) := by decide +kernel
theorem dX4_move_77 : decode cX4_move 77 = .ok (.invokevirtual 85, 3) := by decide +kernel
theorem dX4_move_80 : decode cX4_move 80 = .ok (.iconst 0, 1) := by decide +kernel
theorem dX4_move_81 : decode cX4_move 81 = .ok (.istore_n 3, 1) := by decide +kernel
theorem dX4_move_82 : decode cX4_move 82 = .ok (.iconst 0, 1) := by decide +kernel
theorem dX4_move_83 : decode cX4_move 83 = .ok (.istore 4, 2) := by decide +kernel
theorem dX4_move_85 : decode cX4_move 85 = .ok (.iload 4, 2) := by decide +kernel
theorem dX4_move_87 : decode cX4_move 87 = .ok (.iconst 3, 1) := by decide +kernel
theorem dX4_move_88 : decode cX4_move 88 = .ok (.if_icmp .ge 49, 3) := by decide +kernel
theorem dX4_move_91 : decode cX4_move 91 = .ok (.aload_n 0, 1) := by decide +kernel
theorem dX4_move_92 : decode cX4_move 92 = .ok (.iload 4, 2) := by decide +kernel
theorem dX4_move_94 : decode cX4_move 94 = .ok (.iload_n 1, 1) := by decide +kernel
theorem dX4_move_95 : decode cX4_move 95 = .ok (.invokevirtual 121, 3) := by decide +kernel
theorem dX4_move_98 : decode cX4_move 98 = .ok (.ifCond .eq 33, 3) := by decide +kernel
theorem dX4_move_101 : decode cX4_move 101 = .ok (.aload_n 0, 1) := by decide +kernel
theorem dX4_move_102 : decode cX4_move 102 = .ok (.iload 4, 2) := by decide +kernel
theorem dX4_move_104 : decode cX4_move 104 = .ok (.iload_n 1, 1) := by decide +kernel
theorem dX4_move_105 : decode cX4_move 105 = .ok (.invokevirtual 125, 3) := by decide +kernel
theorem dX4_move_108 : decode cX4_move 108 = .ok (.ifCond .ne 23, 3) := by decide +kernel
theorem dX4_move_111 : decode cX4_move 111 = .ok (.aload_n 0, 1) := by decide +kernel
theorem dX4_move_112 : decode cX4_move 112 = .ok (.iload_n 1, 1) := by decide +kernel
theorem dX4_move_113 : decode cX4_move 113 = .ok (.iconst 4, 1) := by decide +kernel
theorem dX4_move_114 : decode cX4_move 114 = .ok (.aload_n 0, 1) := by decide +kernel
theorem dX4_move_115 : decode cX4_move 115 = .ok (.iload_n 1, 1) := by decide +kernel
theorem dX4_move_116 : decode cX4_move 116 = .ok (.iconst 4, 1) := by decide +kernel
theorem dX4_move_117 : decode cX4_move 117 = .ok (.invokevirtual 47, 3) := by decide +kernel
theorem dX4_move_120 : decode cX4_move 120 = .ok (.iconst 1, 1) := by decide +kernel
theorem dX4_move_121 : decode cX4_move 121 = .ok (.iload 4, 2) := by decide +kernel
theorem dX4_move_123 : decode cX4_move 123 = .ok (.ishl, 1) := by decide +kernel
theorem dX4_move_124 : decode cX4_move 124 = .ok (.isub, 1) := by decide +kernel
theorem dX4_move_125 : decode cX4_move 125 = .ok (.invokevirtual 85, 3) := by decide +kernel
theorem dX4_move_128 : decode cX4_move 128 = .ok (.iinc 3 1, 3) := by decide +kernel
theorem dX4_move_131 : decode cX4_move 131 = .ok (.iinc 4 1, 3) := by decide +kernel
theorem dX4_move_134 : decode cX4_move 134 = .ok (.goto (-49), 3) := by decide +kernel
theorem dX4_move_137 : decode cX4_move 137 = .ok (.iload_n 3, 1) := by decide +kernel
theorem dX4_move_138 : decode cX4_move 138 = .ok (.ireturn, 1) := by decide +kernel
theorem dX4_guest_0 : decode cX4_guest 0 = .ok (.aload_n 0, 1) := by decide +kernel
theorem dX4_guest_1 : decode cX4_guest 1 = .ok (.iconst 0, 1) := by decide +kernel
theorem dX4_guest_2 : decode cX4_guest 2 = .ok (.putfield 29, 3) := by decide +kernel
theorem dX4_guest_5 : decode cX4_guest 5 = .ok (.aload_n 0, 1) := by decide +kernel
theorem dX4_guest_6 : decode cX4_guest 6 = .ok (.iload_n 1, 1) := by decide +kernel
theorem dX4_guest_7 : decode cX4_guest 7 = .ok (.invokevirtual 102, 3) := by decide +kernel
theorem dX4_guest_10 : decode cX4_guest 10 = .ok (.ifCond .ne 9, 3) := by decide +kernel
theorem dX4_guest_13 : decode cX4_guest 13 = .ok (.aload_n 0, 1) := by decide +kernel
theorem dX4_guest_14 : decode cX4_guest 14 = .ok (.iconst 1, 1) := by decide +kernel
theorem dX4_guest_15 : decode cX4_guest 15 = .ok (.invokevirtual 92, 3) := by decide +kernel
theorem dX4_guest_18 : decode cX4_guest 18 = .ok (.ireturn, 1) := by decide +kernel
theorem dX4_guest_19 : decode cX4_guest 19 = .ok (.iload_n 2, 1) := by decide +kernel
theorem dX4_guest_20 : decode cX4_guest 20 = .ok (.invokestatic 105, 3) := by decide +kernel
theorem dX4_guest_23 : decode cX4_guest 23 = .ok (.ifCond .eq 15, 3) := by decide +kernel
theorem dX4_guest_26 : decode cX4_guest 26 = .ok (.iload_n 3, 1) := by decide +kernel
theorem dX4_guest_27 : decode cX4_guest 27 = .ok (.iload_n 2, 1) := by decide +kernel
theorem dX4_guest_28 : decode cX4_guest 28 = .ok (.if_icmp .le 10, 3) := by decide +kernel
theorem dX4_guest_31 : decode cX4_guest 31 = .ok (.iload_n 3, 1) := by decide +kernel
theorem dX4_guest_32 : decode cX4_guest 32 = .ok (.sipush 2000, 3) := by decide +kernel
theorem dX4_guest_35 : decode cX4_guest 35 = .ok (.if_icmp .le 9, 3) := by decide +kernel
theorem dX4_guest_38 : decode cX4_guest 38 = .ok (.aload_n 0, 1) := by decide +kernel
theorem dX4_guest_39 : decode cX4_guest 39 = .ok (.iconst 2, 1) := by decide +kernel
theorem dX4_guest_40 : decode cX4_guest 40 = .ok (.invokevirtual 92, 3) := by decide +kernel
theorem dX4_guest_43 : decode cX4_guest 43 = .ok (.ireturn, 1) := by decide +kernel
theorem dX4_guest_44 : decode cX4_guest 44 = .ok (.aload_n 0, 1) := by decide +kernel
theorem dX4_guest_45 : decode cX4_guest 45 = .ok (.getfield 7, 3) := by decide +kernel
theorem dX4_guest_48 : decode cX4_guest 48 = .ok (.iconst 2, 1) := by decide +kernel
theorem dX4_guest_49 : decode cX4_guest 49 = .ok (.iaload, 1) := by decide +kernel
theorem dX4_guest_50 : decode cX4_guest 50 = .ok (.bipush 6, 2) := by decide +kernel
theorem dX4_guest_52 : decode cX4_guest 52 = .ok (.if_icmp .ne 9, 3) := by decide +kernel
theorem dX4_guest_55 : decode cX4_guest 55 = .ok (.aload_n 0, 1) := by decide +kernel
theorem dX4_guest_56 : decode cX4_guest 56 = .ok (.iconst 3, 1) := by decide +kernel
theorem dX4_guest_57 : decode cX4_guest 57 = .ok (.invokevirtual 92, 3) := by decide +kernel
theorem dX4_guest_60 : decode cX4_guest 60 = .ok (.ireturn, 1) := by decide +kernel
theorem dX4_guest_61 : decode cX4_guest 61 = .ok (.aload_n 0, 1) := by decide +kernel
theorem dX4_guest_62 : decode cX4_guest 62 = .ok (.invokevirtual 95, 3) := by decide +kernel
theorem dX4_guest_65 : decode cX4_guest 65 = .ok (.bipush 86, 2) := by decide +kernel
theorem dX4_guest_67 : decode cX4_guest 67 = .ok (.iconst 3, 1) := by decide +kernel
theorem dX4_guest_68 : decode cX4_guest 68 = .ok (.aload_n 0, 1) := by decide +kernel
theorem dX4_guest_69 : decode cX4_guest 69 = .ok (.getfield 7, 3) := by decide +kernel
theorem dX4_guest_72 : decode cX4_guest 72 = .ok (.iconst 2, 1) := by decide +kernel
theorem dX4_guest_73 : decode cX4_guest 73 = .ok (.iaload, 1) := by decide +kernel
theorem dX4_guest_74 : decode cX4_guest 74 = .ok (.imul, 1) := by decide +kernel
theorem dX4_guest_75 : decode cX4_guest 75 = .ok (.iadd, 1) := by decide +kernel
theorem dX4_guest_76 : decode cX4_guest 76 = .ok (.istore 4, 2) := by decide +kernel
theorem dX4_guest_78 : decode cX4_guest 78 = .ok (.aload_n 0, 1) := by decide +kernel
theorem dX4_guest_79 : decode cX4_guest 79 = .ok (.getfield 7, 3) := by decide +kernel
theorem dX4_guest_82 : decode cX4_guest 82 = .ok (.iload 4, 2) := by decide +kernel
theorem dX4_guest_84 : decode cX4_guest 84 = .ok (.iload_n 1, 1) := by decide +kernel
theorem dX4_guest_85 : decode cX4_guest 85 = .ok (.iastore, 1) := by decide +kernel
theorem dX4_guest_86 : decode cX4_guest 86 = .ok (.aload_n 0, 1) := by decide +kernel
theorem dX4_guest_87 : decode cX4_guest 87 = .ok (.getfield 7, 3) := by decide +kernel
theorem dX4_guest_90 : decode cX4_guest 90 = .ok (.iload 4, 2) := by decide +kernel
theorem dX4_guest_92 : decode cX4_guest 92 = .ok (.iconst 1, 1) := by decide +kernel
theorem dX4_guest_93 : decode cX4_guest 93 = .ok (.iadd, 1) := by decide +kernel
theorem dX4_guest_94 : decode cX4_guest 94 = .ok (.iload_n 2, 1) := by decide +kernel
theorem dX4_guest_95 : decode cX4_guest 95 = .ok (.iastore, 1) := by decide +kernel
theorem dX4_guest_96 : decode cX4_guest 96 = .ok (.aload_n 0, 1) := by decide +kernel
theorem dX4_guest_97 : decode cX4_guest 97 = .ok (.getfield 7, 3) := by decide +kernel
theorem dX4_guest_100 : decode cX4_guest 100 = .ok (.iload 4, 2) := by decide +kernel
theorem dX4_guest_102 : decode cX4_guest 102 = .ok (.iconst 2, 1) := by decide +kernel
theorem dX4_guest_103 : decode cX4_guest 103 = .ok (.iadd, 1) := by decide +kernel
theorem dX4_guest_104 : decode cX4_guest 104 = .ok (.iload_n 3, 1) := by decide +kernel
theorem dX4_guest_105 : decode cX4_guest 105 = .ok (.iastore, 1) := by decide +kernel
theorem dX4_guest_106 : decode cX4_guest 106 = .ok (.aload_n 0, 1) := by decide +kernel
theorem dX4_guest_107 : decode cX4_guest 107 = .ok (.getfield 7, 3) := by decide +kernel
theorem dX4_guest_110 : decode cX4_guest 110 = .ok (.iconst 2, 1) := by decide +kernel
theorem dX4_guest_111 : decode cX4_guest 111 = .ok (.dup2, 1) := by decide +kernel
theorem dX4_guest_112 : decode cX4_guest 112 = .ok (.iaload, 1) := by decide +kernel
theorem dX4_guest_113 : decode cX4_guest 113 = .ok (.iconst 1, 1) := by decide +kernel
theorem dX4_guest_114 : decode cX4_guest 114 = .ok (.iadd, 1) := by decide +kernel
theorem dX4_guest_115 : decode cX4_guest 115 = .ok (.iastore, 1) := by decide +kernel
theorem dX4_guest_116 : decode cX4_guest 116 = .ok (.aload_n 0, 1) := by decide +kernel
theorem dX4_guest_117 : decode cX4_guest 117 = .ok (.getfield 7, 3) := by decide +kernel
theorem dX4_guest_120 : decode cX4_guest 120 = .ok (.iconst 2, 1) := by decide +kernel
theorem dX4_guest_121 : decode cX4_guest 121 = .ok (.iaload, 1) := by decide +kernel
theorem dX4_guest_122 : decode cX4_guest 122 = .ok (.iconst 1, 1) := by decide +kernel
theorem dX4_guest_123 : decode cX4_guest 123 = .ok (.isub, 1) := by decide +kernel
theorem dX4_guest_124 : decode cX4_guest 124 = .ok (.ireturn, 1) := by decide +kernel
theorem dX4_isJuror_0 : decode cX4_isJuror 0 = .ok (.iload_n 0, 1) := by decide +kernel
theorem dX4_isJuror_1 : decode cX4_isJuror 1 = .ok (.iconst 0, 1) := by decide +kernel
theorem dX4_isJuror_2 : decode cX4_isJuror 2 = .ok (.iconst 2, 1) := by decide +kernel
theorem dX4_isJuror_3 : decode cX4_isJuror 3 = .ok (.invokestatic 88, 3) := by decide +kernel
theorem dX4_isJuror_6 : decode cX4_isJuror 6 = .ok (.ireturn, 1) := by decide +kernel
theorem dX4_going_0 : decode cX4_going 0 = .ok (.iconst 0, 1) := by decide +kernel
theorem dX4_going_1 : decode cX4_going 1 = .ok (.istore_n 2, 1) := by decide +kernel
theorem dX4_going_2 : decode cX4_going 2 = .ok (.iconst 0, 1) := by decide +kernel
theorem dX4_going_3 : decode cX4_going 3 = .ok (.istore_n 3, 1) := by decide +kernel
theorem dX4_going_4 : decode cX4_going 4 = .ok (.iload_n 3, 1) := by decide +kernel
theorem dX4_going_5 : decode cX4_going 5 = .ok (.aload_n 0, 1) := by decide +kernel
theorem dX4_going_6 : decode cX4_going 6 = .ok (.getfield 7, 3) := by decide +kernel
theorem dX4_going_9 : decode cX4_going 9 = .ok (.iconst 1, 1) := by decide +kernel
theorem dX4_going_10 : decode cX4_going 10 = .ok (.iaload, 1) := by decide +kernel
theorem dX4_going_11 : decode cX4_going 11 = .ok (.if_icmp .ge 26, 3) := by decide +kernel
theorem dX4_going_14 : decode cX4_going 14 = .ok (.iload_n 2, 1) := by decide +kernel
theorem dX4_going_15 : decode cX4_going 15 = .ok (.aload_n 0, 1) := by decide +kernel
theorem dX4_going_16 : decode cX4_going 16 = .ok (.iload_n 1, 1) := by decide +kernel
theorem dX4_going_17 : decode cX4_going 17 = .ok (.iload_n 3, 1) := by decide +kernel
theorem dX4_going_18 : decode cX4_going 18 = .ok (.invokevirtual 121, 3) := by decide +kernel
theorem dX4_going_21 : decode cX4_going 21 = .ok (.ifCond .eq 7, 3) := by decide +kernel
theorem dX4_going_24 : decode cX4_going 24 = .ok (.iconst 1, 1) := by decide +kernel
theorem dX4_going_25 : decode cX4_going 25 = .ok (.goto 4, 3) := by decide +kernel
theorem dX4_going_28 : decode cX4_going 28 = .ok (.iconst 0, 1) := by decide +kernel
theorem dX4_going_29 : decode cX4_going 29 = .ok (.iadd, 1) := by decide +kernel
theorem dX4_going_30 : decode cX4_going 30 = .ok (.istore_n 2, 1) := by decide +kernel
theorem dX4_going_31 : decode cX4_going 31 = .ok (.iinc 3 1, 3) := by decide +kernel
theorem dX4_going_34 : decode cX4_going 34 = .ok (.goto (-30), 3) := by decide +kernel
theorem dX4_going_37 : decode cX4_going 37 = .ok (.iload_n 2, 1) := by decide +kernel
theorem dX4_going_38 : decode cX4_going 38 = .ok (.ireturn, 1) := by decide +kernel
theorem dX4_attend_0 : decode cX4_attend 0 = .ok (.aload_n 0, 1) := by decide +kernel
theorem dX4_attend_1 : decode cX4_attend 1 = .ok (.iconst 0, 1) := by decide +kernel
theorem dX4_attend_2 : decode cX4_attend 2 = .ok (.putfield 29, 3) := by decide +kernel
theorem dX4_attend_5 : decode cX4_attend 5 = .ok (.iload_n 1, 1) := by decide +kernel
theorem dX4_attend_6 : decode cX4_attend 6 = .ok (.invokestatic 128, 3) := by decide +kernel
theorem dX4_attend_9 : decode cX4_attend 9 = .ok (.ifCond .eq 11, 3) := by decide +kernel
theorem dX4_attend_12 : decode cX4_attend 12 = .ok (.aload_n 0, 1) := by decide +kernel
theorem dX4_attend_13 : decode cX4_attend 13 = .ok (.iload_n 2, 1) := by decide +kernel
theorem dX4_attend_14 : decode cX4_attend 14 = .ok (.invokevirtual 115, 3) := by decide +kernel
theorem dX4_attend_17 : decode cX4_attend 17 = .ok (.ifCond .ne 9, 3) := by decide +kernel
theorem dX4_attend_20 : decode cX4_attend 20 = .ok (.aload_n 0, 1) := by decide +kernel
theorem dX4_attend_21 : decode cX4_attend 21 = .ok (.iconst 1, 1) := by decide +kernel
theorem dX4_attend_22 : decode cX4_attend 22 = .ok (.invokevirtual 92, 3) := by decide +kernel
theorem dX4_attend_25 : decode cX4_attend 25 = .ok (.ireturn, 1) := by decide +kernel
theorem dX4_attend_26 : decode cX4_attend 26 = .ok (.aload_n 0, 1) := by decide +kernel
theorem dX4_attend_27 : decode cX4_attend 27 = .ok (.iload_n 1, 1) := by decide +kernel
theorem dX4_attend_28 : decode cX4_attend 28 = .ok (.iload_n 2, 1) := by decide +kernel
theorem dX4_attend_29 : decode cX4_attend 29 = .ok (.invokevirtual 121, 3) := by decide +kernel
theorem dX4_attend_32 : decode cX4_attend 32 = .ok (.ifCond .ne 12, 3) := by decide +kernel
theorem dX4_attend_35 : decode cX4_attend 35 = .ok (.aload_n 0, 1) := by decide +kernel
theorem dX4_attend_36 : decode cX4_attend 36 = .ok (.iload_n 1, 1) := by decide +kernel
theorem dX4_attend_37 : decode cX4_attend 37 = .ok (.iload_n 2, 1) := by decide +kernel
theorem dX4_attend_38 : decode cX4_attend 38 = .ok (.invokevirtual 125, 3) := by decide +kernel
theorem dX4_attend_41 : decode cX4_attend 41 = .ok (.ifCond .ne 9, 3) := by decide +kernel
theorem dX4_attend_44 : decode cX4_attend 44 = .ok (.aload_n 0, 1) := by decide +kernel
theorem dX4_attend_45 : decode cX4_attend 45 = .ok (.iconst 2, 1) := by decide +kernel
theorem dX4_attend_46 : decode cX4_attend 46 = .ok (.invokevirtual 92, 3) := by decide +kernel
theorem dX4_attend_49 : decode cX4_attend 49 = .ok (.ireturn, 1) := by decide +kernel
theorem dX4_attend_50 : decode cX4_attend 50 = .ok (.aload_n 0, 1) := by decide +kernel
theorem dX4_attend_51 : decode cX4_attend 51 = .ok (.invokevirtual 95, 3) := by decide +kernel
theorem dX4_attend_54 : decode cX4_attend 54 = .ok (.aload_n 0, 1) := by decide +kernel
theorem dX4_attend_55 : decode cX4_attend 55 = .ok (.iload_n 2, 1) := by decide +kernel
theorem dX4_attend_56 : decode cX4_attend 56 = .ok (.iconst 4, 1) := by decide +kernel
theorem dX4_attend_57 : decode cX4_attend 57 = .ok (.aload_n 0, 1) := by decide +kernel
theorem dX4_attend_58 : decode cX4_attend 58 = .ok (.iload_n 2, 1) := by decide +kernel
theorem dX4_attend_59 : decode cX4_attend 59 = .ok (.iconst 4, 1) := by decide +kernel
theorem dX4_attend_60 : decode cX4_attend 60 = .ok (.invokevirtual 47, 3) := by decide +kernel
theorem dX4_attend_63 : decode cX4_attend 63 = .ok (.iconst 1, 1) := by decide +kernel
theorem dX4_attend_64 : decode cX4_attend 64 = .ok (.iload_n 1, 1) := by decide +kernel
theorem dX4_attend_65 : decode cX4_attend 65 = .ok (.ishl, 1) := by decide +kernel
theorem dX4_attend_66 : decode cX4_attend 66 = .ok (.iadd, 1) := by decide +kernel
theorem dX4_attend_67 : decode cX4_attend 67 = .ok (.invokevirtual 85, 3) := by decide +kernel
theorem dX4_attend_70 : decode cX4_attend 70 = .ok (.aload_n 0, 1) := by decide +kernel
theorem dX4_attend_71 : decode cX4_attend 71 = .ok (.iload_n 1, 1) := by decide +kernel
theorem dX4_attend_72 : decode cX4_attend 72 = .ok (.invokevirtual 131, 3) := by decide +kernel
theorem dX4_attend_75 : decode cX4_attend 75 = .ok (.ireturn, 1) := by decide +kernel
theorem dX4_hasSeen_0 : decode cX4_hasSeen 0 = .ok (.iconst 0, 1) := by decide +kernel
theorem dX4_hasSeen_1 : decode cX4_hasSeen 1 = .ok (.istore_n 3, 1) := by decide +kernel
theorem dX4_hasSeen_2 : decode cX4_hasSeen 2 = .ok (.iconst 0, 1) := by decide +kernel
theorem dX4_hasSeen_3 : decode cX4_hasSeen 3 = .ok (.istore 4, 2) := by decide +kernel
theorem dX4_hasSeen_5 : decode cX4_hasSeen 5 = .ok (.iload 4, 2) := by decide +kernel
theorem dX4_hasSeen_7 : decode cX4_hasSeen 7 = .ok (.aload_n 0, 1) := by decide +kernel
theorem dX4_hasSeen_8 : decode cX4_hasSeen 8 = .ok (.getfield 7, 3) := by decide +kernel
theorem dX4_hasSeen_11 : decode cX4_hasSeen 11 = .ok (.iconst 1, 1) := by decide +kernel
theorem dX4_hasSeen_12 : decode cX4_hasSeen 12 = .ok (.iaload, 1) := by decide +kernel
theorem dX4_hasSeen_13 : decode cX4_hasSeen 13 = .ok (.if_icmp .ge 40, 3) := by decide +kernel
theorem dX4_hasSeen_16 : decode cX4_hasSeen 16 = .ok (.iload_n 3, 1) := by decide +kernel
theorem dX4_hasSeen_17 : decode cX4_hasSeen 17 = .ok (.ifCond .ne 24, 3) := by decide +kernel
theorem dX4_hasSeen_20 : decode cX4_hasSeen 20 = .ok (.aload_n 0, 1) := by decide +kernel
theorem dX4_hasSeen_21 : decode cX4_hasSeen 21 = .ok (.iload 4, 2) := by decide +kernel
theorem dX4_hasSeen_23 : decode cX4_hasSeen 23 = .ok (.iconst 0, 1) := by decide +kernel
theorem dX4_hasSeen_24 : decode cX4_hasSeen 24 = .ok (.invokevirtual 47, 3) := by decide +kernel
theorem dX4_hasSeen_27 : decode cX4_hasSeen 27 = .ok (.iload_n 2, 1) := by decide +kernel
theorem dX4_hasSeen_28 : decode cX4_hasSeen 28 = .ok (.if_icmp .ne 17, 3) := by decide +kernel
theorem dX4_hasSeen_31 : decode cX4_hasSeen 31 = .ok (.aload_n 0, 1) := by decide +kernel
theorem dX4_hasSeen_32 : decode cX4_hasSeen 32 = .ok (.iload_n 1, 1) := by decide +kernel
theorem dX4_hasSeen_33 : decode cX4_hasSeen 33 = .ok (.iload 4, 2) := by decide +kernel
theorem dX4_hasSeen_35 : decode cX4_hasSeen 35 = .ok (.invokevirtual 121, 3) := by decide +kernel
theorem dX4_hasSeen_38 : decode cX4_hasSeen 38 = .ok (.ifCond .eq 7, 3) := by decide +kernel
theorem dX4_hasSeen_41 : decode cX4_hasSeen 41 = .ok (.iconst 1, 1) := by decide +kernel
theorem dX4_hasSeen_42 : decode cX4_hasSeen 42 = .ok (.goto 4, 3) := by decide +kernel
theorem dX4_hasSeen_45 : decode cX4_hasSeen 45 = .ok (.iconst 0, 1) := by decide +kernel
theorem dX4_hasSeen_46 : decode cX4_hasSeen 46 = .ok (.istore_n 3, 1) := by decide +kernel
theorem dX4_hasSeen_47 : decode cX4_hasSeen 47 = .ok (.iinc 4 1, 3) := by decide +kernel
theorem dX4_hasSeen_50 : decode cX4_hasSeen 50 = .ok (.goto (-45), 3) := by decide +kernel
theorem dX4_hasSeen_53 : decode cX4_hasSeen 53 = .ok (.iload_n 3, 1) := by decide +kernel
theorem dX4_hasSeen_54 : decode cX4_hasSeen 54 = .ok (.ireturn, 1) := by decide +kernel
theorem dX4_vote_0 : decode cX4_vote 0 = .ok (.aload_n 0, 1) := by decide +kernel
theorem dX4_vote_1 : decode cX4_vote 1 = .ok (.iconst 0, 1) := by decide +kernel
theorem dX4_vote_2 : decode cX4_vote 2 = .ok (.putfield 29, 3) := by decide +kernel
theorem dX4_vote_5 : decode cX4_vote 5 = .ok (.iload_n 1, 1) := by decide +kernel
theorem dX4_vote_6 : decode cX4_vote 6 = .ok (.invokestatic 128, 3) := by decide +kernel
theorem dX4_vote_9 : decode cX4_vote 9 = .ok (.ifCond .eq 11, 3) := by decide +kernel
theorem dX4_vote_12 : decode cX4_vote 12 = .ok (.aload_n 0, 1) := by decide +kernel
theorem dX4_vote_13 : decode cX4_vote 13 = .ok (.iload_n 2, 1) := by decide +kernel
theorem dX4_vote_14 : decode cX4_vote 14 = .ok (.invokevirtual 102, 3) := by decide +kernel
theorem dX4_vote_17 : decode cX4_vote 17 = .ok (.ifCond .ne 9, 3) := by decide +kernel
theorem dX4_vote_20 : decode cX4_vote 20 = .ok (.aload_n 0, 1) := by decide +kernel
theorem dX4_vote_21 : decode cX4_vote 21 = .ok (.iconst 1, 1) := by decide +kernel
theorem dX4_vote_22 : decode cX4_vote 22 = .ok (.invokevirtual 92, 3) := by decide +kernel
theorem dX4_vote_25 : decode cX4_vote 25 = .ok (.ireturn, 1) := by decide +kernel
theorem dX4_vote_26 : decode cX4_vote 26 = .ok (.iload_n 3, 1) := by decide +kernel
theorem dX4_vote_27 : decode cX4_vote 27 = .ok (.iconst 0, 1) := by decide +kernel
theorem dX4_vote_28 : decode cX4_vote 28 = .ok (.bipush 10, 2) := by decide +kernel
theorem dX4_vote_30 : decode cX4_vote 30 = .ok (.invokestatic 88, 3) := by decide +kernel
theorem dX4_vote_33 : decode cX4_vote 33 = .ok (.ifCond .ne 9, 3) := by decide +kernel
theorem dX4_vote_36 : decode cX4_vote 36 = .ok (.aload_n 0, 1) := by decide +kernel
theorem dX4_vote_37 : decode cX4_vote 37 = .ok (.iconst 2, 1) := by decide +kernel
theorem dX4_vote_38 : decode cX4_vote 38 = .ok (.invokevirtual 92, 3) := by decide +kernel
theorem dX4_vote_41 : decode cX4_vote 41 = .ok (.ireturn, 1) := by decide +kernel
theorem dX4_vote_42 : decode cX4_vote 42 = .ok (.aload_n 0, 1) := by decide +kernel
theorem dX4_vote_43 : decode cX4_vote 43 = .ok (.iload_n 1, 1) := by decide +kernel
theorem dX4_vote_44 : decode cX4_vote 44 = .ok (.iload_n 2, 1) := by decide +kernel
theorem dX4_vote_45 : decode cX4_vote 45 = .ok (.invokevirtual 134, 3) := by decide +kernel
theorem dX4_vote_48 : decode cX4_vote 48 = .ok (.ifCond .ne 9, 3) := by decide +kernel
theorem dX4_vote_51 : decode cX4_vote 51 = .ok (.aload_n 0, 1) := by decide +kernel
theorem dX4_vote_52 : decode cX4_vote 52 = .ok (.iconst 3, 1) := by decide +kernel
theorem dX4_vote_53 : decode cX4_vote 53 = .ok (.invokevirtual 92, 3) := by decide +kernel
theorem dX4_vote_56 : decode cX4_vote 56 = .ok (.ireturn, 1) := by decide +kernel
theorem dX4_vote_57 : decode cX4_vote 57 = .ok (.aload_n 0, 1) := by decide +kernel
theorem dX4_vote_58 : decode cX4_vote 58 = .ok (.invokevirtual 95, 3) := by decide +kernel
theorem dX4_vote_61 : decode cX4_vote 61 = .ok (.bipush 104, 2) := by decide +kernel
theorem dX4_vote_63 : decode cX4_vote 63 = .ok (.bipush 8, 2) := by decide +kernel
theorem dX4_vote_65 : decode cX4_vote 65 = .ok (.iload_n 1, 1) := by decide +kernel
theorem dX4_vote_66 : decode cX4_vote 66 = .ok (.imul, 1) := by decide +kernel
theorem dX4_vote_67 : decode cX4_vote 67 = .ok (.iadd, 1) := by decide +kernel
theorem dX4_vote_68 : decode cX4_vote 68 = .ok (.iload_n 2, 1) := by decide +kernel
theorem dX4_vote_69 : decode cX4_vote 69 = .ok (.iadd, 1) := by decide +kernel
theorem dX4_vote_70 : decode cX4_vote 70 = .ok (.istore 4, 2) := by decide +kernel
theorem dX4_vote_72 : decode cX4_vote 72 = .ok (.aload_n 0, 1) := by decide +kernel
theorem dX4_vote_73 : decode cX4_vote 73 = .ok (.getfield 7, 3) := by decide +kernel
theorem dX4_vote_76 : decode cX4_vote 76 = .ok (.iload 4, 2) := by decide +kernel
theorem dX4_vote_78 : decode cX4_vote 78 = .ok (.iaload, 1) := by decide +kernel
theorem dX4_vote_79 : decode cX4_vote 79 = .ok (.istore 5, 2) := by decide +kernel
theorem dX4_vote_81 : decode cX4_vote 81 = .ok (.aload_n 0, 1) := by decide +kernel
theorem dX4_vote_82 : decode cX4_vote 82 = .ok (.getfield 7, 3) := by decide +kernel
theorem dX4_vote_85 : decode cX4_vote 85 = .ok (.iload 4, 2) := by decide +kernel
theorem dX4_vote_87 : decode cX4_vote 87 = .ok (.iload_n 3, 1) := by decide +kernel
theorem dX4_vote_88 : decode cX4_vote 88 = .ok (.iastore, 1) := by decide +kernel
theorem dX4_vote_89 : decode cX4_vote 89 = .ok (.iload 5, 2) := by decide +kernel
theorem dX4_vote_91 : decode cX4_vote 91 = .ok (.ireturn, 1) := by decide +kernel
theorem dX4_append_0 : decode cX4_append 0 = .ok (.aload_n 0, 1) := by decide +kernel
theorem dX4_append_1 : decode cX4_append 1 = .ok (.iconst 0, 1) := by decide +kernel
theorem dX4_append_2 : decode cX4_append 2 = .ok (.putfield 29, 3) := by decide +kernel
theorem dX4_append_5 : decode cX4_append 5 = .ok (.iload_n 1, 1) := by decide +kernel
theorem dX4_append_6 : decode cX4_append 6 = .ok (.bipush 33, 2) := by decide +kernel
theorem dX4_append_8 : decode cX4_append 8 = .ok (.bipush 126, 2) := by decide +kernel
theorem dX4_append_10 : decode cX4_append 10 = .ok (.invokestatic 88, 3) := by decide +kernel
theorem dX4_append_13 : decode cX4_append 13 = .ok (.ifCond .ne 9, 3) := by decide +kernel
theorem dX4_append_16 : decode cX4_append 16 = .ok (.aload_n 0, 1) := by decide +kernel
theorem dX4_append_17 : decode cX4_append 17 = .ok (.iconst 1, 1) := by decide +kernel
theorem dX4_append_18 : decode cX4_append 18 = .ok (.invokevirtual 92, 3) := by decide +kernel
theorem dX4_append_21 : decode cX4_append 21 = .ok (.ireturn, 1) := by decide +kernel
theorem dX4_append_22 : decode cX4_append 22 = .ok (.aload_n 0, 1) := by decide +kernel
theorem dX4_append_23 : decode cX4_append 23 = .ok (.getfield 137, 3) := by decide +kernel
theorem dX4_append_26 : decode cX4_append 26 = .ok (.bipush 60, 2) := by decide +kernel
theorem dX4_append_28 : decode cX4_append 28 = .ok (.if_icmp .ne 9, 3) := by decide +kernel
theorem dX4_append_31 : decode cX4_append 31 = .ok (.aload_n 0, 1) := by decide +kernel
theorem dX4_append_32 : decode cX4_append 32 = .ok (.iconst 2, 1) := by decide +kernel
theorem dX4_append_33 : decode cX4_append 33 = .ok (.invokevirtual 92, 3) := by decide +kernel
theorem dX4_append_36 : decode cX4_append 36 = .ok (.ireturn, 1) := by decide +kernel
theorem dX4_append_37 : decode cX4_append 37 = .ok (.aload_n 0, 1) := by decide +kernel
theorem dX4_append_38 : decode cX4_append 38 = .ok (.getfield 19, 3) := by decide +kernel
theorem dX4_append_41 : decode cX4_append 41 = .ok (.aload_n 0, 1) := by decide +kernel
theorem dX4_append_42 : decode cX4_append 42 = .ok (.getfield 137, 3) := by decide +kernel
theorem dX4_append_45 : decode cX4_append 45 = .ok (.iload_n 1, 1) := by decide +kernel
theorem dX4_append_46 : decode cX4_append 46 = .ok (.iastore, 1) := by decide +kernel
theorem dX4_append_47 : decode cX4_append 47 = .ok (.aload_n 0, 1) := by decide +kernel
theorem dX4_append_48 : decode cX4_append 48 = .ok (.dup, 1) := by decide +kernel
theorem dX4_append_49 : decode cX4_append 49 = .ok (.getfield 137, 3) := by decide +kernel
theorem dX4_append_52 : decode cX4_append 52 = .ok (.iconst 1, 1) := by decide +kernel
theorem dX4_append_53 : decode cX4_append 53 = .ok (.iadd, 1) := by decide +kernel
theorem dX4_append_54 : decode cX4_append 54 = .ok (.putfield 137, 3) := by decide +kernel
theorem dX4_append_57 : decode cX4_append 57 = .ok (.aload_n 0, 1) := by decide +kernel
theorem dX4_append_58 : decode cX4_append 58 = .ok (.getfield 137, 3) := by decide +kernel
theorem dX4_append_61 : decode cX4_append 61 = .ok (.ireturn, 1) := by decide +kernel
theorem dX4_clearBuffer_0 : decode cX4_clearBuffer 0 = .ok (.aload_n 0, 1) := by decide +kernel
theorem dX4_clearBuffer_1 : decode cX4_clearBuffer 1 = .ok (.iconst 0, 1) := by decide +kernel
theorem dX4_clearBuffer_2 : decode cX4_clearBuffer 2 = .ok (.putfield 29, 3) := by decide +kernel
theorem dX4_clearBuffer_5 : decode cX4_clearBuffer 5 = .ok (.aload_n 0, 1) := by decide +kernel
theorem dX4_clearBuffer_6 : decode cX4_clearBuffer 6 = .ok (.getfield 137, 3) := by decide +kernel
theorem dX4_clearBuffer_9 : decode cX4_clearBuffer 9 = .ok (.istore_n 1, 1) := by decide +kernel
theorem dX4_clearBuffer_10 : decode cX4_clearBuffer 10 = .ok (.aload_n 0, 1) := by decide +kernel
theorem dX4_clearBuffer_11 : decode cX4_clearBuffer 11 = .ok (.iconst 0, 1) := by decide +kernel
theorem dX4_clearBuffer_12 : decode cX4_clearBuffer 12 = .ok (.putfield 137, 3) := by decide +kernel
theorem dX4_clearBuffer_15 : decode cX4_clearBuffer 15 = .ok (.iload_n 1, 1) := by decide +kernel
theorem dX4_clearBuffer_16 : decode cX4_clearBuffer 16 = .ok (.ireturn, 1) := by decide +kernel
theorem dX4_sees_0 : decode cX4_sees 0 = .ok (.aload_n 0, 1) := by decide +kernel
theorem dX4_sees_1 : decode cX4_sees 1 = .ok (.getfield 140, 3) := by decide +kernel
theorem dX4_sees_4 : decode cX4_sees 4 = .ok (.aload_n 0, 1) := by decide +kernel
theorem dX4_sees_5 : decode cX4_sees 5 = .ok (.getfield 137, 3) := by decide +kernel
theorem dX4_sees_8 : decode cX4_sees 8 = .ok (.if_icmp .ge 24, 3) := by decide +kernel
theorem dX4_sees_11 : decode cX4_sees 11 = .ok (.aload_n 0, 1) := by decide +kernel
theorem dX4_sees_12 : decode cX4_sees 12 = .ok (.getfield 19, 3) := by decide +kernel
theorem dX4_sees_15 : decode cX4_sees 15 = .ok (.aload_n 0, 1) := by decide +kernel
theorem dX4_sees_16 : decode cX4_sees 16 = .ok (.getfield 140, 3) := by decide +kernel
theorem dX4_sees_19 : decode cX4_sees 19 = .ok (.iaload, 1) := by decide +kernel
theorem dX4_sees_20 : decode cX4_sees 20 = .ok (.iload_n 1, 1) := by decide +kernel
theorem dX4_sees_21 : decode cX4_sees 21 = .ok (.iload_n 2, 1) := by decide +kernel
theorem dX4_sees_22 : decode cX4_sees 22 = .ok (.invokestatic 88, 3) := by decide +kernel
theorem dX4_sees_25 : decode cX4_sees 25 = .ok (.ifCond .eq 7, 3) := by decide +kernel
theorem dX4_sees_28 : decode cX4_sees 28 = .ok (.iconst 1, 1) := by decide +kernel
theorem dX4_sees_29 : decode cX4_sees 29 = .ok (.goto 4, 3) := by decide +kernel
theorem dX4_sees_32 : decode cX4_sees 32 = .ok (.iconst 0, 1) := by decide +kernel
theorem dX4_sees_33 : decode cX4_sees 33 = .ok (.ireturn, 1) := by decide +kernel
theorem dX4_takes_0 : decode cX4_takes 0 = .ok (.aload_n 0, 1) := by decide +kernel
theorem dX4_takes_1 : decode cX4_takes 1 = .ok (.iload_n 1, 1) := by decide +kernel
theorem dX4_takes_2 : decode cX4_takes 2 = .ok (.iload_n 1, 1) := by decide +kernel
theorem dX4_takes_3 : decode cX4_takes 3 = .ok (.invokevirtual 143, 3) := by decide +kernel
theorem dX4_takes_6 : decode cX4_takes 6 = .ok (.istore_n 2, 1) := by decide +kernel
theorem dX4_takes_7 : decode cX4_takes 7 = .ok (.aload_n 0, 1) := by decide +kernel
theorem dX4_takes_8 : decode cX4_takes 8 = .ok (.dup, 1) := by decide +kernel
theorem dX4_takes_9 : decode cX4_takes 9 = .ok (.getfield 140, 3) := by decide +kernel
theorem dX4_takes_12 : decode cX4_takes 12 = .ok (.iload_n 2, 1) := by decide +kernel
theorem dX4_takes_13 : decode cX4_takes 13 = .ok (.ifCond .eq 7, 3) := by decide +kernel
theorem dX4_takes_16 : decode cX4_takes 16 = .ok (.iconst 1, 1) := by decide +kernel
theorem dX4_takes_17 : decode cX4_takes 17 = .ok (.goto 4, 3) := by decide +kernel
theorem dX4_takes_20 : decode cX4_takes 20 = .ok (.iconst 0, 1) := by decide +kernel
theorem dX4_takes_21 : decode cX4_takes 21 = .ok (.iadd, 1) := by decide +kernel
theorem dX4_takes_22 : decode cX4_takes 22 = .ok (.putfield 140, 3) := by decide +kernel
theorem dX4_takes_25 : decode cX4_takes 25 = .ok (.iload_n 2, 1) := by decide +kernel
theorem dX4_takes_26 : decode cX4_takes 26 = .ok (.ireturn, 1) := by decide +kernel
theorem dX4_isNumber_0 : decode cX4_isNumber 0 = .ok (.aload_n 0, 1) := by decide +kernel
theorem dX4_isNumber_1 : decode cX4_isNumber 1 = .ok (.bipush 48, 2) := by decide +kernel
theorem dX4_isNumber_3 : decode cX4_isNumber 3 = .ok (.bipush 48, 2) := by decide +kernel
theorem dX4_isNumber_5 : decode cX4_isNumber 5 = .ok (.iload_n 2, 1) := by decide +kernel
theorem dX4_isNumber_6 : decode cX4_isNumber 6 = .ok (.bipush 9, 2) := by decide +kernel
theorem dX4_isNumber_8 : decode cX4_isNumber 8 = .ok (.if_icmp .ge 7, 3) := by decide +kernel
theorem dX4_isNumber_11 : decode cX4_isNumber 11 = .ok (.iload_n 2, 1) := by decide +kernel
theorem dX4_isNumber_12 : decode cX4_isNumber 12 = .ok (.goto 5, 3) := by decide +kernel
theorem dX4_isNumber_15 : decode cX4_isNumber 15 = .ok (.bipush 9, 2) := by decide +kernel
theorem dX4_isNumber_17 : decode cX4_isNumber 17 = .ok (.iadd, 1) := by decide +kernel
theorem dX4_isNumber_18 : decode cX4_isNumber 18 = .ok (.invokevirtual 143, 3) := by decide +kernel
theorem dX4_isNumber_21 : decode cX4_isNumber 21 = .ok (.ifCond .ne 5, 3) := by decide +kernel
theorem dX4_isNumber_24 : decode cX4_isNumber 24 = .ok (.iconst 0, 1) := by decide +kernel
theorem dX4_isNumber_25 : decode cX4_isNumber 25 = .ok (.ireturn, 1) := by decide +kernel
theorem dX4_isNumber_26 : decode cX4_isNumber 26 = .ok (.aload_n 0, 1) := by decide +kernel
theorem dX4_isNumber_27 : decode cX4_isNumber 27 = .ok (.getfield 19, 3) := by decide +kernel
theorem dX4_isNumber_30 : decode cX4_isNumber 30 = .ok (.aload_n 0, 1) := by decide +kernel
theorem dX4_isNumber_31 : decode cX4_isNumber 31 = .ok (.getfield 140, 3) := by decide +kernel
theorem dX4_isNumber_34 : decode cX4_isNumber 34 = .ok (.iaload, 1) := by decide +kernel
theorem dX4_isNumber_35 : decode cX4_isNumber 35 = .ok (.bipush 48, 2) := by decide +kernel
theorem dX4_isNumber_37 : decode cX4_isNumber 37 = .ok (.isub, 1) := by decide +kernel
theorem dX4_isNumber_38 : decode cX4_isNumber 38 = .ok (.istore_n 3, 1) := by decide +kernel
theorem dX4_isNumber_39 : decode cX4_isNumber 39 = .ok (.aload_n 0, 1) := by decide +kernel
theorem dX4_isNumber_40 : decode cX4_isNumber 40 = .ok (.dup, 1) := by decide +kernel
theorem dX4_isNumber_41 : decode cX4_isNumber 41 = .ok (.getfield 140, 3) := by decide +kernel
theorem dX4_isNumber_44 : decode cX4_isNumber 44 = .ok (.iconst 1, 1) := by decide +kernel
theorem dX4_isNumber_45 : decode cX4_isNumber 45 = .ok (.iadd, 1) := by decide +kernel
theorem dX4_isNumber_46 : decode cX4_isNumber 46 = .ok (.putfield 140, 3) := by decide +kernel
theorem dX4_isNumber_49 : decode cX4_isNumber 49 = .ok (.iload_n 3, 1) := by decide +kernel
theorem dX4_isNumber_50 : decode cX4_isNumber 50 = .ok (.ifCond .le 66, 3) := by decide +kernel
theorem dX4_isNumber_53 : decode cX4_isNumber 53 = .ok (.aload_n 0, 1) := by decide +kernel
theorem dX4_isNumber_54 : decode cX4_isNumber 54 = .ok (.bipush 48, 2) := by decide +kernel
theorem dX4_isNumber_56 : decode cX4_isNumber 56 = .ok (.bipush 57, 2) := by decide +kernel
theorem dX4_isNumber_58 : decode cX4_isNumber 58 = .ok (.invokevirtual 143, 3) := by decide +kernel
theorem dX4_isNumber_61 : decode cX4_isNumber 61 = .ok (.ifCond .eq 55, 3) := by decide +kernel
theorem dX4_isNumber_64 : decode cX4_isNumber 64 = .ok (.bipush 10, 2) := by decide +kernel
theorem dX4_isNumber_66 : decode cX4_isNumber 66 = .ok (.iload_n 3, 1) := by decide +kernel
theorem dX4_isNumber_67 : decode cX4_isNumber 67 = .ok (.imul, 1) := by decide +kernel
theorem dX4_isNumber_68 : decode cX4_isNumber 68 = .ok (.aload_n 0, 1) := by decide +kernel
theorem dX4_isNumber_69 : decode cX4_isNumber 69 = .ok (.getfield 19, 3) := by decide +kernel
theorem dX4_isNumber_72 : decode cX4_isNumber 72 = .ok (.aload_n 0, 1) := by decide +kernel
theorem dX4_isNumber_73 : decode cX4_isNumber 73 = .ok (.getfield 140, 3) := by decide +kernel
theorem dX4_isNumber_76 : decode cX4_isNumber 76 = .ok (.iaload, 1) := by decide +kernel
theorem dX4_isNumber_77 : decode cX4_isNumber 77 = .ok (.iadd, 1) := by decide +kernel
theorem dX4_isNumber_78 : decode cX4_isNumber 78 = .ok (.bipush 48, 2) := by decide +kernel
theorem dX4_isNumber_80 : decode cX4_isNumber 80 = .ok (.isub, 1) := by decide +kernel
theorem dX4_isNumber_81 : decode cX4_isNumber 81 = .ok (.iload_n 2, 1) := by decide +kernel
theorem dX4_isNumber_82 : decode cX4_isNumber 82 = .ok (.if_icmp .gt 34, 3) := by decide +kernel
theorem dX4_isNumber_85 : decode cX4_isNumber 85 = .ok (.bipush 10, 2) := by decide +kernel
theorem dX4_isNumber_87 : decode cX4_isNumber 87 = .ok (.iload_n 3, 1) := by decide +kernel
theorem dX4_isNumber_88 : decode cX4_isNumber 88 = .ok (.imul, 1) := by decide +kernel
theorem dX4_isNumber_89 : decode cX4_isNumber 89 = .ok (.aload_n 0, 1) := by decide +kernel
theorem dX4_isNumber_90 : decode cX4_isNumber 90 = .ok (.getfield 19, 3) := by decide +kernel
theorem dX4_isNumber_93 : decode cX4_isNumber 93 = .ok (.aload_n 0, 1) := by decide +kernel
theorem dX4_isNumber_94 : decode cX4_isNumber 94 = .ok (.getfield 140, 3) := by decide +kernel
theorem dX4_isNumber_97 : decode cX4_isNumber 97 = .ok (.iaload, 1) := by decide +kernel
theorem dX4_isNumber_98 : decode cX4_isNumber 98 = .ok (.iadd, 1) := by decide +kernel
theorem dX4_isNumber_99 : decode cX4_isNumber 99 = .ok (.bipush 48, 2) := by decide +kernel
theorem dX4_isNumber_101 : decode cX4_isNumber 101 = .ok (.isub, 1) := by decide +kernel
theorem dX4_isNumber_102 : decode cX4_isNumber 102 = .ok (.istore_n 3, 1) := by decide +kernel
theorem dX4_isNumber_103 : decode cX4_isNumber 103 = .ok (.aload_n 0, 1) := by decide +kernel
theorem dX4_isNumber_104 : decode cX4_isNumber 104 = .ok (.dup, 1) := by decide +kernel
theorem dX4_isNumber_105 : decode cX4_isNumber 105 = .ok (.getfield 140, 3) := by decide +kernel
theorem dX4_isNumber_108 : decode cX4_isNumber 108 = .ok (.iconst 1, 1) := by decide +kernel
theorem dX4_isNumber_109 : decode cX4_isNumber 109 = .ok (.iadd, 1) := by decide +kernel
theorem dX4_isNumber_110 : decode cX4_isNumber 110 = .ok (.putfield 140, 3) := by decide +kernel
theorem dX4_isNumber_113 : decode cX4_isNumber 113 = .ok (.goto (-64), 3) := by decide +kernel
theorem dX4_isNumber_116 : decode cX4_isNumber 116 = .ok (.aload_n 0, 1) := by decide +kernel
theorem dX4_isNumber_117 : decode cX4_isNumber 117 = .ok (.getfield 22, 3) := by decide +kernel
theorem dX4_isNumber_120 : decode cX4_isNumber 120 = .ok (.iconst 4, 1) := by decide +kernel
theorem dX4_isNumber_121 : decode cX4_isNumber 121 = .ok (.aload_n 0, 1) := by decide +kernel
theorem dX4_isNumber_122 : decode cX4_isNumber 122 = .ok (.getfield 146, 3) := by decide +kernel
theorem dX4_isNumber_125 : decode cX4_isNumber 125 = .ok (.imul, 1) := by decide +kernel
theorem dX4_isNumber_126 : decode cX4_isNumber 126 = .ok (.iload_n 1, 1) := by decide +kernel
theorem dX4_isNumber_127 : decode cX4_isNumber 127 = .ok (.iadd, 1) := by decide +kernel
theorem dX4_isNumber_128 : decode cX4_isNumber 128 = .ok (.iload_n 3, 1) := by decide +kernel
theorem dX4_isNumber_129 : decode cX4_isNumber 129 = .ok (.iastore, 1) := by decide +kernel
theorem dX4_isNumber_130 : decode cX4_isNumber 130 = .ok (.iconst 1, 1) := by decide +kernel
theorem dX4_isNumber_131 : decode cX4_isNumber 131 = .ok (.ireturn, 1) := by decide +kernel
theorem dX4_isPart_0 : decode cX4_isPart 0 = .ok (.aload_n 0, 1) := by decide +kernel
theorem dX4_isPart_1 : decode cX4_isPart 1 = .ok (.iconst 0, 1) := by decide +kernel
theorem dX4_isPart_2 : decode cX4_isPart 2 = .ok (.bipush 7, 2) := by decide +kernel
theorem dX4_isPart_4 : decode cX4_isPart 4 = .ok (.invokevirtual 149, 3) := by decide +kernel
theorem dX4_isPart_7 : decode cX4_isPart 7 = .ok (.ifCond .eq 41, 3) := by decide +kernel
theorem dX4_isPart_10 : decode cX4_isPart 10 = .ok (.aload_n 0, 1) := by decide +kernel
theorem dX4_isPart_11 : decode cX4_isPart 11 = .ok (.bipush 47, 2) := by decide +kernel
theorem dX4_isPart_13 : decode cX4_isPart 13 = .ok (.invokevirtual 152, 3) := by decide +kernel
theorem dX4_isPart_16 : decode cX4_isPart 16 = .ok (.ifCond .eq 32, 3) := by decide +kernel
theorem dX4_isPart_19 : decode cX4_isPart 19 = .ok (.aload_n 0, 1) := by decide +kernel
theorem dX4_isPart_20 : decode cX4_isPart 20 = .ok (.iconst 1, 1) := by decide +kernel
theorem dX4_isPart_21 : decode cX4_isPart 21 = .ok (.iconst 2, 1) := by decide +kernel
theorem dX4_isPart_22 : decode cX4_isPart 22 = .ok (.invokevirtual 149, 3) := by decide +kernel
theorem dX4_isPart_25 : decode cX4_isPart 25 = .ok (.ifCond .eq 23, 3) := by decide +kernel
theorem dX4_isPart_28 : decode cX4_isPart 28 = .ok (.aload_n 0, 1) := by decide +kernel
theorem dX4_isPart_29 : decode cX4_isPart 29 = .ok (.bipush 64, 2) := by decide +kernel
theorem dX4_isPart_31 : decode cX4_isPart 31 = .ok (.invokevirtual 152, 3) := by decide +kernel
theorem dX4_isPart_34 : decode cX4_isPart 34 = .ok (.ifCond .eq 14, 3) := by decide +kernel
theorem dX4_isPart_37 : decode cX4_isPart 37 = .ok (.aload_n 0, 1) := by decide +kernel
theorem dX4_isPart_38 : decode cX4_isPart 38 = .ok (.iconst 2, 1) := by decide +kernel
theorem dX4_isPart_39 : decode cX4_isPart 39 = .ok (.sipush 1999, 3) := by decide +kernel
theorem dX4_isPart_42 : decode cX4_isPart 42 = .ok (.invokevirtual 149, 3) := by decide +kernel
theorem dX4_isPart_45 : decode cX4_isPart 45 = .ok (.ifCond .ne 5, 3) := by decide +kernel
theorem dX4_isPart_48 : decode cX4_isPart 48 = .ok (.iconst 0, 1) := by decide +kernel
theorem dX4_isPart_49 : decode cX4_isPart 49 = .ok (.ireturn, 1) := by decide +kernel
theorem dX4_isPart_50 : decode cX4_isPart 50 = .ok (.aload_n 0, 1) := by decide +kernel
theorem dX4_isPart_51 : decode cX4_isPart 51 = .ok (.getfield 22, 3) := by decide +kernel
theorem dX4_isPart_54 : decode cX4_isPart 54 = .ok (.iconst 4, 1) := by decide +kernel
theorem dX4_isPart_55 : decode cX4_isPart 55 = .ok (.aload_n 0, 1) := by decide +kernel
theorem dX4_isPart_56 : decode cX4_isPart 56 = .ok (.getfield 146, 3) := by decide +kernel
theorem dX4_isPart_59 : decode cX4_isPart 59 = .ok (.imul, 1) := by decide +kernel
theorem dX4_isPart_60 : decode cX4_isPart 60 = .ok (.iconst 3, 1) := by decide +kernel
theorem dX4_isPart_61 : decode cX4_isPart 61 = .ok (.iadd, 1) := by decide +kernel
theorem dX4_isPart_62 : decode cX4_isPart 62 = .ok (.iconst 0, 1) := by decide +kernel
theorem dX4_isPart_63 : decode cX4_isPart 63 = .ok (.iastore, 1) := by decide +kernel
theorem dX4_isPart_64 : decode cX4_isPart 64 = .ok (.aload_n 0, 1) := by decide +kernel
theorem dX4_isPart_65 : decode cX4_isPart 65 = .ok (.bipush 43, 2) := by decide +kernel
theorem dX4_isPart_67 : decode cX4_isPart 67 = .ok (.invokevirtual 152, 3) := by decide +kernel
theorem dX4_isPart_70 : decode cX4_isPart 70 = .ok (.ifCond .eq 13, 3) := by decide +kernel
theorem dX4_isPart_73 : decode cX4_isPart 73 = .ok (.aload_n 0, 1) := by decide +kernel
theorem dX4_isPart_74 : decode cX4_isPart 74 = .ok (.iconst 3, 1) := by decide +kernel
theorem dX4_isPart_75 : decode cX4_isPart 75 = .ok (.bipush 20, 2) := by decide +kernel
theorem dX4_isPart_77 : decode cX4_isPart 77 = .ok (.invokevirtual 149, 3) := by decide +kernel
theorem dX4_isPart_80 : decode cX4_isPart 80 = .ok (.ifCond .eq 7, 3) := by decide +kernel
theorem dX4_isPart_83 : decode cX4_isPart 83 = .ok (.iconst 1, 1) := by decide +kernel
theorem dX4_isPart_84 : decode cX4_isPart 84 = .ok (.goto 4, 3) := by decide +kernel
theorem dX4_isPart_87 : decode cX4_isPart 87 = .ok (.iconst 0, 1) := by decide +kernel
theorem dX4_isPart_88 : decode cX4_isPart 88 = .ok (.ireturn, 1) := by decide +kernel
theorem dX4_isWhole_0 : decode cX4_isWhole 0 = .ok (.aload_n 0, 1) := by decide +kernel
theorem dX4_isWhole_1 : decode cX4_isWhole 1 = .ok (.iconst 0, 1) := by decide +kernel
theorem dX4_isWhole_2 : decode cX4_isWhole 2 = .ok (.putfield 140, 3) := by decide +kernel
theorem dX4_isWhole_5 : decode cX4_isWhole 5 = .ok (.aload_n 0, 1) := by decide +kernel
theorem dX4_isWhole_6 : decode cX4_isWhole 6 = .ok (.iconst 0, 1) := by decide +kernel
theorem dX4_isWhole_7 : decode cX4_isWhole 7 = .ok (.putfield 146, 3) := by decide +kernel
theorem dX4_isWhole_10 : decode cX4_isWhole 10 = .ok (.iconst 1, 1) := by decide +kernel
theorem dX4_isWhole_11 : decode cX4_isWhole 11 = .ok (.istore_n 1, 1) := by decide +kernel
theorem dX4_isWhole_12 : decode cX4_isWhole 12 = .ok (.iload_n 1, 1) := by decide +kernel
theorem dX4_isWhole_13 : decode cX4_isWhole 13 = .ok (.ifCond .eq 32, 3) := by decide +kernel
theorem dX4_isWhole_16 : decode cX4_isWhole 16 = .ok (.aload_n 0, 1) := by decide +kernel
theorem dX4_isWhole_17 : decode cX4_isWhole 17 = .ok (.invokevirtual 155, 3) := by decide +kernel
theorem dX4_isWhole_20 : decode cX4_isWhole 20 = .ok (.ifCond .ne 5, 3) := by decide +kernel
theorem dX4_isWhole_23 : decode cX4_isWhole 23 = .ok (.iconst 0, 1) := by decide +kernel
theorem dX4_isWhole_24 : decode cX4_isWhole 24 = .ok (.ireturn, 1) := by decide +kernel
theorem dX4_isWhole_25 : decode cX4_isWhole 25 = .ok (.aload_n 0, 1) := by decide +kernel
theorem dX4_isWhole_26 : decode cX4_isWhole 26 = .ok (.dup, 1) := by decide +kernel
theorem dX4_isWhole_27 : decode cX4_isWhole 27 = .ok (.getfield 146, 3) := by decide +kernel
theorem dX4_isWhole_30 : decode cX4_isWhole 30 = .ok (.iconst 1, 1) := by decide +kernel
theorem dX4_isWhole_31 : decode cX4_isWhole 31 = .ok (.iadd, 1) := by decide +kernel
theorem dX4_isWhole_32 : decode cX4_isWhole 32 = .ok (.putfield 146, 3) := by decide +kernel
theorem dX4_isWhole_35 : decode cX4_isWhole 35 = .ok (.aload_n 0, 1) := by decide +kernel
theorem dX4_isWhole_36 : decode cX4_isWhole 36 = .ok (.bipush 59, 2) := by decide +kernel
theorem dX4_isWhole_38 : decode cX4_isWhole 38 = .ok (.invokevirtual 152, 3) := by decide +kernel
theorem dX4_isWhole_41 : decode cX4_isWhole 41 = .ok (.istore_n 1, 1) := by decide +kernel
theorem dX4_isWhole_42 : decode cX4_isWhole 42 = .ok (.goto (-30), 3) := by decide +kernel
theorem dX4_isWhole_45 : decode cX4_isWhole 45 = .ok (.aload_n 0, 1) := by decide +kernel
theorem dX4_isWhole_46 : decode cX4_isWhole 46 = .ok (.getfield 140, 3) := by decide +kernel
theorem dX4_isWhole_49 : decode cX4_isWhole 49 = .ok (.aload_n 0, 1) := by decide +kernel
theorem dX4_isWhole_50 : decode cX4_isWhole 50 = .ok (.getfield 137, 3) := by decide +kernel
theorem dX4_isWhole_53 : decode cX4_isWhole 53 = .ok (.if_icmp .ne 7, 3) := by decide +kernel
theorem dX4_isWhole_56 : decode cX4_isWhole 56 = .ok (.iconst 1, 1) := by decide +kernel
theorem dX4_isWhole_57 : decode cX4_isWhole 57 = .ok (.goto 4, 3) := by decide +kernel
theorem dX4_isWhole_60 : decode cX4_isWhole 60 = .ok (.iconst 0, 1) := by decide +kernel
theorem dX4_isWhole_61 : decode cX4_isWhole 61 = .ok (.ireturn, 1) := by decide +kernel
theorem dX4_firstError_0 : decode cX4_firstError 0 = .ok (.aload_n 0, 1) := by decide +kernel
theorem dX4_firstError_1 : decode cX4_firstError 1 = .ok (.iconst 0, 1) := by decide +kernel
theorem dX4_firstError_2 : decode cX4_firstError 2 = .ok (.putfield 29, 3) := by decide +kernel
theorem dX4_firstError_5 : decode cX4_firstError 5 = .ok (.aload_n 0, 1) := by decide +kernel
theorem dX4_firstError_6 : decode cX4_firstError 6 = .ok (.invokevirtual 159, 3) := by decide +kernel
theorem dX4_firstError_9 : decode cX4_firstError 9 = .ok (.ifCond .eq 10, 3) := by decide +kernel
theorem dX4_firstError_12 : decode cX4_firstError 12 = .ok (.aload_n 0, 1) := by decide +kernel
theorem dX4_firstError_13 : decode cX4_firstError 13 = .ok (.getfield 137, 3) := by decide +kernel
theorem dX4_firstError_16 : decode cX4_firstError 16 = .ok (.goto 7, 3) := by decide +kernel
theorem dX4_firstError_19 : decode cX4_firstError 19 = .ok (.aload_n 0, 1) := by decide +kernel
theorem dX4_firstError_20 : decode cX4_firstError 20 = .ok (.getfield 140, 3) := by decide +kernel
theorem dX4_firstError_23 : decode cX4_firstError 23 = .ok (.ireturn, 1) := by decide +kernel
theorem dX4_isStopped_0 : decode cX4_isStopped 0 = .ok (.aload_n 0, 1) := by decide +kernel
theorem dX4_isStopped_1 : decode cX4_isStopped 1 = .ok (.getfield 22, 3) := by decide +kernel
theorem dX4_isStopped_4 : decode cX4_isStopped 4 = .ok (.iconst 4, 1) := by decide +kernel
theorem dX4_isStopped_5 : decode cX4_isStopped 5 = .ok (.iload_n 1, 1) := by decide +kernel
theorem dX4_isStopped_6 : decode cX4_isStopped 6 = .ok (.imul, 1) := by decide +kernel
theorem dX4_isStopped_7 : decode cX4_isStopped 7 = .ok (.iaload, 1) := by decide +kernel
theorem dX4_isStopped_8 : decode cX4_isStopped 8 = .ok (.istore_n 2, 1) := by decide +kernel
theorem dX4_isStopped_9 : decode cX4_isStopped 9 = .ok (.aload_n 0, 1) := by decide +kernel
theorem dX4_isStopped_10 : decode cX4_isStopped 10 = .ok (.getfield 22, 3) := by decide +kernel
theorem dX4_isStopped_13 : decode cX4_isStopped 13 = .ok (.iconst 4, 1) := by decide +kernel
theorem dX4_isStopped_14 : decode cX4_isStopped 14 = .ok (.iload_n 1, 1) := by decide +kernel
theorem dX4_isStopped_15 : decode cX4_isStopped 15 = .ok (.imul, 1) := by decide +kernel
theorem dX4_isStopped_16 : decode cX4_isStopped 16 = .ok (.iconst 1, 1) := by decide +kernel
theorem dX4_isStopped_17 : decode cX4_isStopped 17 = .ok (.iadd, 1) := by decide +kernel
theorem dX4_isStopped_18 : decode cX4_isStopped 18 = .ok (.iaload, 1) := by decide +kernel
theorem dX4_isStopped_19 : decode cX4_isStopped 19 = .ok (.istore_n 3, 1) := by decide +kernel
theorem dX4_isStopped_20 : decode cX4_isStopped 20 = .ok (.aload_n 0, 1) := by decide +kernel
theorem dX4_isStopped_21 : decode cX4_isStopped 21 = .ok (.getfield 22, 3) := by decide +kernel
theorem dX4_isStopped_24 : decode cX4_isStopped 24 = .ok (.iconst 4, 1) := by decide +kernel
theorem dX4_isStopped_25 : decode cX4_isStopped 25 = .ok (.iload_n 1, 1) := by decide +kernel
theorem dX4_isStopped_26 : decode cX4_isStopped 26 = .ok (.imul, 1) := by decide +kernel
theorem dX4_isStopped_27 : decode cX4_isStopped 27 = .ok (.iconst 2, 1) := by decide +kernel
theorem dX4_isStopped_28 : decode cX4_isStopped 28 = .ok (.iadd, 1) := by decide +kernel
theorem dX4_isStopped_29 : decode cX4_isStopped 29 = .ok (.iaload, 1) := by decide +kernel
theorem dX4_isStopped_30 : decode cX4_isStopped 30 = .ok (.istore 4, 2) := by decide +kernel
theorem dX4_isStopped_32 : decode cX4_isStopped 32 = .ok (.aload_n 0, 1) := by decide +kernel
theorem dX4_isStopped_33 : decode cX4_isStopped 33 = .ok (.getfield 22, 3) := by decide +kernel
theorem dX4_isStopped_36 : decode cX4_isStopped 36 = .ok (.iconst 4, 1) := by decide +kernel
theorem dX4_isStopped_37 : decode cX4_isStopped 37 = .ok (.iload_n 1, 1) := by decide +kernel
theorem dX4_isStopped_38 : decode cX4_isStopped 38 = .ok (.imul, 1) := by decide +kernel
theorem dX4_isStopped_39 : decode cX4_isStopped 39 = .ok (.iconst 3, 1) := by decide +kernel
theorem dX4_isStopped_40 : decode cX4_isStopped 40 = .ok (.iadd, 1) := by decide +kernel
theorem dX4_isStopped_41 : decode cX4_isStopped 41 = .ok (.iaload, 1) := by decide +kernel
theorem dX4_isStopped_42 : decode cX4_isStopped 42 = .ok (.istore 5, 2) := by decide +kernel
theorem dX4_isStopped_44 : decode cX4_isStopped 44 = .ok (.aload_n 0, 1) := by decide +kernel
theorem dX4_isStopped_45 : decode cX4_isStopped 45 = .ok (.iload_n 2, 1) := by decide +kernel
theorem dX4_isStopped_46 : decode cX4_isStopped 46 = .ok (.invokevirtual 102, 3) := by decide +kernel
theorem dX4_isStopped_49 : decode cX4_isStopped 49 = .ok (.ifCond .ne 12, 3) := by decide +kernel
theorem dX4_isStopped_52 : decode cX4_isStopped 52 = .ok (.aload_n 0, 1) := by decide +kernel
theorem dX4_isStopped_53 : decode cX4_isStopped 53 = .ok (.iload_n 1, 1) := by decide +kernel
theorem dX4_isStopped_54 : decode cX4_isStopped 54 = .ok (.iconst 5, 1) := by decide +kernel
theorem dX4_isStopped_55 : decode cX4_isStopped 55 = .ok (.iconst (-1), 1) := by decide +kernel
theorem dX4_isStopped_56 : decode cX4_isStopped 56 = .ok (.invokevirtual 25, 3) := by decide +kernel
theorem dX4_isStopped_59 : decode cX4_isStopped 59 = .ok (.iconst 1, 1) := by decide +kernel
theorem dX4_isStopped_60 : decode cX4_isStopped 60 = .ok (.ireturn, 1) := by decide +kernel
theorem dX4_isStopped_61 : decode cX4_isStopped 61 = .ok (.aload_n 0, 1) := by decide +kernel
theorem dX4_isStopped_62 : decode cX4_isStopped 62 = .ok (.iload_n 2, 1) := by decide +kernel
theorem dX4_isStopped_63 : decode cX4_isStopped 63 = .ok (.iload_n 3, 1) := by decide +kernel
theorem dX4_isStopped_64 : decode cX4_isStopped 64 = .ok (.iload 4, 2) := by decide +kernel
theorem dX4_isStopped_66 : decode cX4_isStopped 66 = .ok (.iload 5, 2) := by decide +kernel
theorem dX4_isStopped_68 : decode cX4_isStopped 68 = .ok (.invokevirtual 108, 3) := by decide +kernel
theorem dX4_isStopped_71 : decode cX4_isStopped 71 = .ok (.ifCond .eq 18, 3) := by decide +kernel
theorem dX4_isStopped_74 : decode cX4_isStopped 74 = .ok (.aload_n 0, 1) := by decide +kernel
theorem dX4_isStopped_75 : decode cX4_isStopped 75 = .ok (.iload_n 1, 1) := by decide +kernel
theorem dX4_isStopped_76 : decode cX4_isStopped 76 = .ok (.aload_n 0, 1) := by decide +kernel
theorem dX4_isStopped_77 : decode cX4_isStopped 77 = .ok (.getfield 55, 3) := by decide +kernel
theorem dX4_isStopped_80 : decode cX4_isStopped 80 = .ok (.aload_n 0, 1) := by decide +kernel
theorem dX4_isStopped_81 : decode cX4_isStopped 81 = .ok (.getfield 58, 3) := by decide +kernel
theorem dX4_isStopped_84 : decode cX4_isStopped 84 = .ok (.invokevirtual 25, 3) := by decide +kernel
theorem dX4_isStopped_87 : decode cX4_isStopped 87 = .ok (.iconst 1, 1) := by decide +kernel
theorem dX4_isStopped_88 : decode cX4_isStopped 88 = .ok (.ireturn, 1) := by decide +kernel
theorem dX4_isStopped_89 : decode cX4_isStopped 89 = .ok (.aload_n 0, 1) := by decide +kernel
theorem dX4_isStopped_90 : decode cX4_isStopped 90 = .ok (.iload_n 2, 1) := by decide +kernel
theorem dX4_isStopped_91 : decode cX4_isStopped 91 = .ok (.iload_n 3, 1) := by decide +kernel
theorem dX4_isStopped_92 : decode cX4_isStopped 92 = .ok (.iload 4, 2) := by decide +kernel
theorem dX4_isStopped_94 : decode cX4_isStopped 94 = .ok (.iload 5, 2) := by decide +kernel
theorem dX4_isStopped_96 : decode cX4_isStopped 96 = .ok (.invokevirtual 111, 3) := by decide +kernel
theorem dX4_isStopped_99 : decode cX4_isStopped 99 = .ok (.iconst 0, 1) := by decide +kernel
theorem dX4_isStopped_100 : decode cX4_isStopped 100 = .ok (.ireturn, 1) := by decide +kernel
theorem dX4_program_0 : decode cX4_program 0 = .ok (.aload_n 0, 1) := by decide +kernel
theorem dX4_program_1 : decode cX4_program 1 = .ok (.iconst 0, 1) := by decide +kernel
theorem dX4_program_2 : decode cX4_program 2 = .ok (.putfield 29, 3) := by decide +kernel
theorem dX4_program_5 : decode cX4_program 5 = .ok (.aload_n 0, 1) := by decide +kernel
theorem dX4_program_6 : decode cX4_program 6 = .ok (.invokevirtual 159, 3) := by decide +kernel
theorem dX4_program_9 : decode cX4_program 9 = .ok (.ifCond .ne 9, 3) := by decide +kernel
theorem dX4_program_12 : decode cX4_program 12 = .ok (.aload_n 0, 1) := by decide +kernel
theorem dX4_program_13 : decode cX4_program 13 = .ok (.iconst 1, 1) := by decide +kernel
theorem dX4_program_14 : decode cX4_program 14 = .ok (.invokevirtual 92, 3) := by decide +kernel
theorem dX4_program_17 : decode cX4_program 17 = .ok (.ireturn, 1) := by decide +kernel
theorem dX4_program_18 : decode cX4_program 18 = .ok (.aload_n 0, 1) := by decide +kernel
theorem dX4_program_19 : decode cX4_program 19 = .ok (.invokevirtual 95, 3) := by decide +kernel
theorem dX4_program_22 : decode cX4_program 22 = .ok (.aload_n 0, 1) := by decide +kernel
theorem dX4_program_23 : decode cX4_program 23 = .ok (.iconst (-1), 1) := by decide +kernel
theorem dX4_program_24 : decode cX4_program 24 = .ok (.iconst (-1), 1) := by decide +kernel
theorem dX4_program_25 : decode cX4_program 25 = .ok (.iconst (-1), 1) := by decide +kernel
theorem dX4_program_26 : decode cX4_program 26 = .ok (.invokevirtual 25, 3) := by decide +kernel
theorem dX4_program_29 : decode cX4_program 29 = .ok (.aload_n 0, 1) := by decide +kernel
theorem dX4_program_30 : decode cX4_program 30 = .ok (.iconst 0, 1) := by decide +kernel
theorem dX4_program_31 : decode cX4_program 31 = .ok (.putfield 137, 3) := by decide +kernel
theorem dX4_program_34 : decode cX4_program 34 = .ok (.iconst 0, 1) := by decide +kernel
theorem dX4_program_35 : decode cX4_program 35 = .ok (.istore_n 1, 1) := by decide +kernel
theorem dX4_program_36 : decode cX4_program 36 = .ok (.iload_n 1, 1) := by decide +kernel
theorem dX4_program_37 : decode cX4_program 37 = .ok (.aload_n 0, 1) := by decide +kernel
theorem dX4_program_38 : decode cX4_program 38 = .ok (.getfield 146, 3) := by decide +kernel
theorem dX4_program_41 : decode cX4_program 41 = .ok (.if_icmp .ge 17, 3) := by decide +kernel
theorem dX4_program_44 : decode cX4_program 44 = .ok (.aload_n 0, 1) := by decide +kernel
theorem dX4_program_45 : decode cX4_program 45 = .ok (.iload_n 1, 1) := by decide +kernel
theorem dX4_program_46 : decode cX4_program 46 = .ok (.invokevirtual 162, 3) := by decide +kernel
theorem dX4_program_49 : decode cX4_program 49 = .ok (.ifCond .ne 9, 3) := by decide +kernel
theorem dX4_program_52 : decode cX4_program 52 = .ok (.iinc 1 1, 3) := by decide +kernel
theorem dX4_program_55 : decode cX4_program 55 = .ok (.goto (-19), 3) := by decide +kernel
theorem dX4_program_58 : decode cX4_program 58 = .ok (.iload_n 1, 1) := by decide +kernel
theorem dX4_program_59 : decode cX4_program 59 = .ok (.ireturn, 1) := by decide +kernel
theorem dX4_stopped_0 : decode cX4_stopped 0 = .ok (.aload_n 0, 1) := by decide +kernel
theorem dX4_stopped_1 : decode cX4_stopped 1 = .ok (.iconst 0, 1) := by decide +kernel
theorem dX4_stopped_2 : decode cX4_stopped 2 = .ok (.putfield 29, 3) := by decide +kernel
theorem dX4_stopped_5 : decode cX4_stopped 5 = .ok (.iload_n 1, 1) := by decide +kernel
theorem dX4_stopped_6 : decode cX4_stopped 6 = .ok (.iconst 0, 1) := by decide +kernel
theorem dX4_stopped_7 : decode cX4_stopped 7 = .ok (.iconst 2, 1) := by decide +kernel
theorem dX4_stopped_8 : decode cX4_stopped 8 = .ok (.invokestatic 88, 3) := by decide +kernel
theorem dX4_stopped_11 : decode cX4_stopped 11 = .ok (.ifCond .eq 16, 3) := by decide +kernel
theorem dX4_stopped_14 : decode cX4_stopped 14 = .ok (.aload_n 0, 1) := by decide +kernel
theorem dX4_stopped_15 : decode cX4_stopped 15 = .ok (.getfield 7, 3) := by decide +kernel
theorem dX4_stopped_18 : decode cX4_stopped 18 = .ok (.sipush 129, 3) := by decide +kernel
theorem dX4_stopped_21 : decode cX4_stopped 21 = .ok (.iload_n 1, 1) := by decide +kernel
theorem dX4_stopped_22 : decode cX4_stopped 22 = .ok (.iadd, 1) := by decide +kernel
theorem dX4_stopped_23 : decode cX4_stopped 23 = .ok (.iaload, 1) := by decide +kernel
theorem dX4_stopped_24 : decode cX4_stopped 24 = .ok (.goto 8, 3) := by decide +kernel
theorem dX4_stopped_27 : decode cX4_stopped 27 = .ok (.aload_n 0, 1) := by decide +kernel
theorem dX4_stopped_28 : decode cX4_stopped 28 = .ok (.iconst 1, 1) := by decide +kernel
theorem dX4_stopped_29 : decode cX4_stopped 29 = .ok (.invokevirtual 92, 3) := by decide +kernel
theorem dX4_stopped_32 : decode cX4_stopped 32 = .ok (.ireturn, 1) := by decide +kernel
theorem dX4_undo_0 : decode cX4_undo 0 = .ok (.aload_n 0, 1) := by decide +kernel
theorem dX4_undo_1 : decode cX4_undo 1 = .ok (.iconst 0, 1) := by decide +kernel
theorem dX4_undo_2 : decode cX4_undo 2 = .ok (.putfield 29, 3) := by decide +kernel
theorem dX4_undo_5 : decode cX4_undo 5 = .ok (.aload_n 0, 1) := by decide +kernel
theorem dX4_undo_6 : decode cX4_undo 6 = .ok (.getfield 33, 3) := by decide +kernel
theorem dX4_undo_9 : decode cX4_undo 9 = .ok (.ifCond .ne 9, 3) := by decide +kernel
theorem dX4_undo_12 : decode cX4_undo 12 = .ok (.aload_n 0, 1) := by decide +kernel
theorem dX4_undo_13 : decode cX4_undo 13 = .ok (.iconst 1, 1) := by decide +kernel
theorem dX4_undo_14 : decode cX4_undo 14 = .ok (.invokevirtual 92, 3) := by decide +kernel
theorem dX4_undo_17 : decode cX4_undo 17 = .ok (.ireturn, 1) := by decide +kernel
theorem dX4_undo_18 : decode cX4_undo 18 = .ok (.aload_n 0, 1) := by decide +kernel
theorem dX4_undo_19 : decode cX4_undo 19 = .ok (.dup, 1) := by decide +kernel
theorem dX4_undo_20 : decode cX4_undo 20 = .ok (.getfield 33, 3) := by decide +kernel
theorem dX4_undo_23 : decode cX4_undo 23 = .ok (.iconst 1, 1) := by decide +kernel
theorem dX4_undo_24 : decode cX4_undo 24 = .ok (.isub, 1) := by decide +kernel
theorem dX4_undo_25 : decode cX4_undo 25 = .ok (.putfield 33, 3) := by decide +kernel
theorem dX4_undo_28 : decode cX4_undo 28 = .ok (.aload_n 0, 1) := by decide +kernel
theorem dX4_undo_29 : decode cX4_undo 29 = .ok (.getfield 13, 3) := by decide +kernel
theorem dX4_undo_32 : decode cX4_undo 32 = .ok (.sipush 132, 3) := by decide +kernel
theorem dX4_undo_35 : decode cX4_undo 35 = .ok (.aload_n 0, 1) := by decide +kernel
theorem dX4_undo_36 : decode cX4_undo 36 = .ok (.getfield 33, 3) := by decide +kernel
theorem dX4_undo_39 : decode cX4_undo 39 = .ok (.imul, 1) := by decide +kernel
theorem dX4_undo_40 : decode cX4_undo 40 = .ok (.aload_n 0, 1) := by decide +kernel
theorem dX4_undo_41 : decode cX4_undo 41 = .ok (.getfield 7, 3) := by decide +kernel
theorem dX4_undo_44 : decode cX4_undo 44 = .ok (.iconst 0, 1) := by decide +kernel
theorem dX4_undo_45 : decode cX4_undo 45 = .ok (.invokestatic 36, 3) := by decide +kernel
theorem dX4_undo_48 : decode cX4_undo 48 = .ok (.aload_n 0, 1) := by decide +kernel
theorem dX4_undo_49 : decode cX4_undo 49 = .ok (.getfield 33, 3) := by decide +kernel
theorem dX4_undo_52 : decode cX4_undo 52 = .ok (.ireturn, 1) := by decide +kernel
theorem dX4_keep_0 : decode cX4_keep 0 = .ok (.aload_n 0, 1) := by decide +kernel
theorem dX4_keep_1 : decode cX4_keep 1 = .ok (.iconst 0, 1) := by decide +kernel
theorem dX4_keep_2 : decode cX4_keep 2 = .ok (.putfield 29, 3) := by decide +kernel
theorem dX4_keep_5 : decode cX4_keep 5 = .ok (.aload_n 0, 1) := by decide +kernel
theorem dX4_keep_6 : decode cX4_keep 6 = .ok (.getfield 7, 3) := by decide +kernel
theorem dX4_keep_9 : decode cX4_keep 9 = .ok (.iconst 0, 1) := by decide +kernel
theorem dX4_keep_10 : decode cX4_keep 10 = .ok (.aload_n 0, 1) := by decide +kernel
theorem dX4_keep_11 : decode cX4_keep 11 = .ok (.getfield 16, 3) := by decide +kernel
theorem dX4_keep_14 : decode cX4_keep 14 = .ok (.iconst 0, 1) := by decide +kernel
theorem dX4_keep_15 : decode cX4_keep 15 = .ok (.invokestatic 36, 3) := by decide +kernel
theorem dX4_keep_18 : decode cX4_keep 18 = .ok (.aload_n 0, 1) := by decide +kernel
theorem dX4_keep_19 : decode cX4_keep 19 = .ok (.iconst 1, 1) := by decide +kernel
theorem dX4_keep_20 : decode cX4_keep 20 = .ok (.putfield 165, 3) := by decide +kernel
theorem dX4_keep_23 : decode cX4_keep 23 = .ok (.aload_n 0, 1) := by decide +kernel
theorem dX4_keep_24 : decode cX4_keep 24 = .ok (.getfield 7, 3) := by decide +kernel
theorem dX4_keep_27 : decode cX4_keep 27 = .ok (.iconst 1, 1) := by decide +kernel
theorem dX4_keep_28 : decode cX4_keep 28 = .ok (.iaload, 1) := by decide +kernel
theorem dX4_keep_29 : decode cX4_keep 29 = .ok (.ireturn, 1) := by decide +kernel
theorem dX4_restore_0 : decode cX4_restore 0 = .ok (.aload_n 0, 1) := by decide +kernel
theorem dX4_restore_1 : decode cX4_restore 1 = .ok (.iconst 0, 1) := by decide +kernel
theorem dX4_restore_2 : decode cX4_restore 2 = .ok (.putfield 29, 3) := by decide +kernel
theorem dX4_restore_5 : decode cX4_restore 5 = .ok (.aload_n 0, 1) := by decide +kernel
theorem dX4_restore_6 : decode cX4_restore 6 = .ok (.getfield 165, 3) := by decide +kernel
theorem dX4_restore_9 : decode cX4_restore 9 = .ok (.ifCond .ne 9, 3) := by decide +kernel
theorem dX4_restore_12 : decode cX4_restore 12 = .ok (.aload_n 0, 1) := by decide +kernel
theorem dX4_restore_13 : decode cX4_restore 13 = .ok (.iconst 1, 1) := by decide +kernel
theorem dX4_restore_14 : decode cX4_restore 14 = .ok (.invokevirtual 92, 3) := by decide +kernel
theorem dX4_restore_17 : decode cX4_restore 17 = .ok (.ireturn, 1) := by decide +kernel
theorem dX4_restore_18 : decode cX4_restore 18 = .ok (.aload_n 0, 1) := by decide +kernel
theorem dX4_restore_19 : decode cX4_restore 19 = .ok (.invokevirtual 95, 3) := by decide +kernel
theorem dX4_restore_22 : decode cX4_restore 22 = .ok (.aload_n 0, 1) := by decide +kernel
theorem dX4_restore_23 : decode cX4_restore 23 = .ok (.getfield 16, 3) := by decide +kernel
theorem dX4_restore_26 : decode cX4_restore 26 = .ok (.iconst 0, 1) := by decide +kernel
theorem dX4_restore_27 : decode cX4_restore 27 = .ok (.aload_n 0, 1) := by decide +kernel
theorem dX4_restore_28 : decode cX4_restore 28 = .ok (.getfield 7, 3) := by decide +kernel
theorem dX4_restore_31 : decode cX4_restore 31 = .ok (.iconst 0, 1) := by decide +kernel
theorem dX4_restore_32 : decode cX4_restore 32 = .ok (.invokestatic 36, 3) := by decide +kernel
theorem dX4_restore_35 : decode cX4_restore 35 = .ok (.aload_n 0, 1) := by decide +kernel
theorem dX4_restore_36 : decode cX4_restore 36 = .ok (.getfield 7, 3) := by decide +kernel
theorem dX4_restore_39 : decode cX4_restore 39 = .ok (.iconst 1, 1) := by decide +kernel
theorem dX4_restore_40 : decode cX4_restore 40 = .ok (.iaload, 1) := by decide +kernel
theorem dX4_restore_41 : decode cX4_restore 41 = .ok (.ireturn, 1) := by decide +kernel
theorem dX4_showings_0 : decode cX4_showings 0 = .ok (.iconst 0, 1) := by decide +kernel
theorem dX4_showings_1 : decode cX4_showings 1 = .ok (.istore_n 2, 1) := by decide +kernel
theorem dX4_showings_2 : decode cX4_showings 2 = .ok (.iconst 0, 1) := by decide +kernel
theorem dX4_showings_3 : decode cX4_showings 3 = .ok (.istore_n 3, 1) := by decide +kernel
theorem dX4_showings_4 : decode cX4_showings 4 = .ok (.iload_n 3, 1) := by decide +kernel
theorem dX4_showings_5 : decode cX4_showings 5 = .ok (.aload_n 0, 1) := by decide +kernel
theorem dX4_showings_6 : decode cX4_showings 6 = .ok (.getfield 7, 3) := by decide +kernel
theorem dX4_showings_9 : decode cX4_showings 9 = .ok (.iconst 1, 1) := by decide +kernel
theorem dX4_showings_10 : decode cX4_showings 10 = .ok (.iaload, 1) := by decide +kernel
theorem dX4_showings_11 : decode cX4_showings 11 = .ok (.if_icmp .ge 27, 3) := by decide +kernel
theorem dX4_showings_14 : decode cX4_showings 14 = .ok (.iload_n 2, 1) := by decide +kernel
theorem dX4_showings_15 : decode cX4_showings 15 = .ok (.aload_n 0, 1) := by decide +kernel
theorem dX4_showings_16 : decode cX4_showings 16 = .ok (.iload_n 3, 1) := by decide +kernel
theorem dX4_showings_17 : decode cX4_showings 17 = .ok (.iconst 0, 1) := by decide +kernel
theorem dX4_showings_18 : decode cX4_showings 18 = .ok (.invokevirtual 47, 3) := by decide +kernel
theorem dX4_showings_21 : decode cX4_showings 21 = .ok (.iload_n 1, 1) := by decide +kernel
theorem dX4_showings_22 : decode cX4_showings 22 = .ok (.if_icmp .ne 7, 3) := by decide +kernel
theorem dX4_showings_25 : decode cX4_showings 25 = .ok (.iconst 1, 1) := by decide +kernel
theorem dX4_showings_26 : decode cX4_showings 26 = .ok (.goto 4, 3) := by decide +kernel
theorem dX4_showings_29 : decode cX4_showings 29 = .ok (.iconst 0, 1) := by decide +kernel
theorem dX4_showings_30 : decode cX4_showings 30 = .ok (.iadd, 1) := by decide +kernel
theorem dX4_showings_31 : decode cX4_showings 31 = .ok (.istore_n 2, 1) := by decide +kernel
theorem dX4_showings_32 : decode cX4_showings 32 = .ok (.iinc 3 1, 3) := by decide +kernel
theorem dX4_showings_35 : decode cX4_showings 35 = .ok (.goto (-31), 3) := by decide +kernel
theorem dX4_showings_38 : decode cX4_showings 38 = .ok (.iload_n 2, 1) := by decide +kernel
theorem dX4_showings_39 : decode cX4_showings 39 = .ok (.ireturn, 1) := by decide +kernel
theorem dX4_seatsOf_0 : decode cX4_seatsOf 0 = .ok (.iconst 0, 1) := by decide +kernel
theorem dX4_seatsOf_1 : decode cX4_seatsOf 1 = .ok (.istore_n 2, 1) := by decide +kernel
theorem dX4_seatsOf_2 : decode cX4_seatsOf 2 = .ok (.iconst 0, 1) := by decide +kernel
theorem dX4_seatsOf_3 : decode cX4_seatsOf 3 = .ok (.istore_n 3, 1) := by decide +kernel
theorem dX4_seatsOf_4 : decode cX4_seatsOf 4 = .ok (.iload_n 3, 1) := by decide +kernel
theorem dX4_seatsOf_5 : decode cX4_seatsOf 5 = .ok (.aload_n 0, 1) := by decide +kernel
theorem dX4_seatsOf_6 : decode cX4_seatsOf 6 = .ok (.getfield 7, 3) := by decide +kernel
theorem dX4_seatsOf_9 : decode cX4_seatsOf 9 = .ok (.iconst 1, 1) := by decide +kernel
theorem dX4_seatsOf_10 : decode cX4_seatsOf 10 = .ok (.iaload, 1) := by decide +kernel
theorem dX4_seatsOf_11 : decode cX4_seatsOf 11 = .ok (.if_icmp .ge 45, 3) := by decide +kernel
theorem dX4_seatsOf_14 : decode cX4_seatsOf 14 = .ok (.iload_n 2, 1) := by decide +kernel
theorem dX4_seatsOf_15 : decode cX4_seatsOf 15 = .ok (.iload_n 1, 1) := by decide +kernel
theorem dX4_seatsOf_16 : decode cX4_seatsOf 16 = .ok (.iconst (-1), 1) := by decide +kernel
theorem dX4_seatsOf_17 : decode cX4_seatsOf 17 = .ok (.if_icmp .eq 13, 3) := by decide +kernel
theorem dX4_seatsOf_20 : decode cX4_seatsOf 20 = .ok (.aload_n 0, 1) := by decide +kernel
theorem dX4_seatsOf_21 : decode cX4_seatsOf 21 = .ok (.iload_n 3, 1) := by decide +kernel
theorem dX4_seatsOf_22 : decode cX4_seatsOf 22 = .ok (.iconst 0, 1) := by decide +kernel
theorem dX4_seatsOf_23 : decode cX4_seatsOf 23 = .ok (.invokevirtual 47, 3) := by decide +kernel
theorem dX4_seatsOf_26 : decode cX4_seatsOf 26 = .ok (.iload_n 1, 1) := by decide +kernel
theorem dX4_seatsOf_27 : decode cX4_seatsOf 27 = .ok (.if_icmp .ne 20, 3) := by decide +kernel
theorem dX4_seatsOf_30 : decode cX4_seatsOf 30 = .ok (.aload_n 0, 1) := by decide +kernel
theorem dX4_seatsOf_31 : decode cX4_seatsOf 31 = .ok (.getfield 7, 3) := by decide +kernel
theorem dX4_seatsOf_34 : decode cX4_seatsOf 34 = .ok (.bipush 7, 2) := by decide +kernel
theorem dX4_seatsOf_36 : decode cX4_seatsOf 36 = .ok (.aload_n 0, 1) := by decide +kernel
theorem dX4_seatsOf_37 : decode cX4_seatsOf 37 = .ok (.iload_n 3, 1) := by decide +kernel
theorem dX4_seatsOf_38 : decode cX4_seatsOf 38 = .ok (.iconst 1, 1) := by decide +kernel
theorem dX4_seatsOf_39 : decode cX4_seatsOf 39 = .ok (.invokevirtual 47, 3) := by decide +kernel
theorem dX4_seatsOf_42 : decode cX4_seatsOf 42 = .ok (.iadd, 1) := by decide +kernel
theorem dX4_seatsOf_43 : decode cX4_seatsOf 43 = .ok (.iaload, 1) := by decide +kernel
theorem dX4_seatsOf_44 : decode cX4_seatsOf 44 = .ok (.goto 4, 3) := by decide +kernel
theorem dX4_seatsOf_47 : decode cX4_seatsOf 47 = .ok (.iconst 0, 1) := by decide +kernel
theorem dX4_seatsOf_48 : decode cX4_seatsOf 48 = .ok (.iadd, 1) := by decide +kernel
theorem dX4_seatsOf_49 : decode cX4_seatsOf 49 = .ok (.istore_n 2, 1) := by decide +kernel
theorem dX4_seatsOf_50 : decode cX4_seatsOf 50 = .ok (.iinc 3 1, 3) := by decide +kernel
theorem dX4_seatsOf_53 : decode cX4_seatsOf 53 = .ok (.goto (-49), 3) := by decide +kernel
theorem dX4_seatsOf_56 : decode cX4_seatsOf 56 = .ok (.iload_n 2, 1) := by decide +kernel
theorem dX4_seatsOf_57 : decode cX4_seatsOf 57 = .ok (.ireturn, 1) := by decide +kernel
theorem dX4_seers_0 : decode cX4_seers 0 = .ok (.iconst 0, 1) := by decide +kernel
theorem dX4_seers_1 : decode cX4_seers 1 = .ok (.istore_n 2, 1) := by decide +kernel
theorem dX4_seers_2 : decode cX4_seers 2 = .ok (.iconst 0, 1) := by decide +kernel
theorem dX4_seers_3 : decode cX4_seers 3 = .ok (.istore_n 3, 1) := by decide +kernel
theorem dX4_seers_4 : decode cX4_seers 4 = .ok (.iload_n 3, 1) := by decide +kernel
theorem dX4_seers_5 : decode cX4_seers 5 = .ok (.iconst 3, 1) := by decide +kernel
theorem dX4_seers_6 : decode cX4_seers 6 = .ok (.if_icmp .ge 28, 3) := by decide +kernel
theorem dX4_seers_9 : decode cX4_seers 9 = .ok (.iload_n 2, 1) := by decide +kernel
theorem dX4_seers_10 : decode cX4_seers 10 = .ok (.aload_n 0, 1) := by decide +kernel
theorem dX4_seers_11 : decode cX4_seers 11 = .ok (.iload_n 3, 1) := by decide +kernel
theorem dX4_seers_12 : decode cX4_seers 12 = .ok (.iload_n 1, 1) := by decide +kernel
theorem dX4_seers_13 : decode cX4_seers 13 = .ok (.invokevirtual 134, 3) := by decide +kernel
theorem dX4_seers_16 : decode cX4_seers 16 = .ok (.ifCond .eq 9, 3) := by decide +kernel
theorem dX4_seers_19 : decode cX4_seers 19 = .ok (.iconst 1, 1) := by decide +kernel
theorem dX4_seers_20 : decode cX4_seers 20 = .ok (.iload_n 3, 1) := by decide +kernel
theorem dX4_seers_21 : decode cX4_seers 21 = .ok (.ishl, 1) := by decide +kernel
theorem dX4_seers_22 : decode cX4_seers 22 = .ok (.goto 4, 3) := by decide +kernel
theorem dX4_seers_25 : decode cX4_seers 25 = .ok (.iconst 0, 1) := by decide +kernel
theorem dX4_seers_26 : decode cX4_seers 26 = .ok (.ior, 1) := by decide +kernel
theorem dX4_seers_27 : decode cX4_seers 27 = .ok (.istore_n 2, 1) := by decide +kernel
theorem dX4_seers_28 : decode cX4_seers 28 = .ok (.iinc 3 1, 3) := by decide +kernel
theorem dX4_seers_31 : decode cX4_seers 31 = .ok (.goto (-27), 3) := by decide +kernel
theorem dX4_seers_34 : decode cX4_seers 34 = .ok (.iload_n 2, 1) := by decide +kernel
theorem dX4_seers_35 : decode cX4_seers 35 = .ok (.ireturn, 1) := by decide +kernel
theorem dX4_points_0 : decode cX4_points 0 = .ok (.iconst 0, 1) := by decide +kernel
theorem dX4_points_1 : decode cX4_points 1 = .ok (.istore_n 2, 1) := by decide +kernel
theorem dX4_points_2 : decode cX4_points 2 = .ok (.iconst 0, 1) := by decide +kernel
theorem dX4_points_3 : decode cX4_points 3 = .ok (.istore_n 3, 1) := by decide +kernel
theorem dX4_points_4 : decode cX4_points 4 = .ok (.iload_n 3, 1) := by decide +kernel
theorem dX4_points_5 : decode cX4_points 5 = .ok (.iconst 3, 1) := by decide +kernel
theorem dX4_points_6 : decode cX4_points 6 = .ok (.if_icmp .ge 39, 3) := by decide +kernel
theorem dX4_points_9 : decode cX4_points 9 = .ok (.iload_n 2, 1) := by decide +kernel
theorem dX4_points_10 : decode cX4_points 10 = .ok (.aload_n 0, 1) := by decide +kernel
theorem dX4_points_11 : decode cX4_points 11 = .ok (.iload_n 3, 1) := by decide +kernel
theorem dX4_points_12 : decode cX4_points 12 = .ok (.iload_n 1, 1) := by decide +kernel
theorem dX4_points_13 : decode cX4_points 13 = .ok (.invokevirtual 134, 3) := by decide +kernel
theorem dX4_points_16 : decode cX4_points 16 = .ok (.ifCond .eq 20, 3) := by decide +kernel
theorem dX4_points_19 : decode cX4_points 19 = .ok (.aload_n 0, 1) := by decide +kernel
theorem dX4_points_20 : decode cX4_points 20 = .ok (.getfield 7, 3) := by decide +kernel
theorem dX4_points_23 : decode cX4_points 23 = .ok (.bipush 104, 2) := by decide +kernel
theorem dX4_points_25 : decode cX4_points 25 = .ok (.bipush 8, 2) := by decide +kernel
theorem dX4_points_27 : decode cX4_points 27 = .ok (.iload_n 3, 1) := by decide +kernel
theorem dX4_points_28 : decode cX4_points 28 = .ok (.imul, 1) := by decide +kernel
theorem dX4_points_29 : decode cX4_points 29 = .ok (.iadd, 1) := by decide +kernel
theorem dX4_points_30 : decode cX4_points 30 = .ok (.iload_n 1, 1) := by decide +kernel
theorem dX4_points_31 : decode cX4_points 31 = .ok (.iadd, 1) := by decide +kernel
theorem dX4_points_32 : decode cX4_points 32 = .ok (.iaload, 1) := by decide +kernel
theorem dX4_points_33 : decode cX4_points 33 = .ok (.goto 4, 3) := by decide +kernel
theorem dX4_points_36 : decode cX4_points 36 = .ok (.iconst 0, 1) := by decide +kernel
theorem dX4_points_37 : decode cX4_points 37 = .ok (.iadd, 1) := by decide +kernel
theorem dX4_points_38 : decode cX4_points 38 = .ok (.istore_n 2, 1) := by decide +kernel
theorem dX4_points_39 : decode cX4_points 39 = .ok (.iinc 3 1, 3) := by decide +kernel
theorem dX4_points_42 : decode cX4_points 42 = .ok (.goto (-38), 3) := by decide +kernel
theorem dX4_points_45 : decode cX4_points 45 = .ok (.iload_n 2, 1) := by decide +kernel
theorem dX4_points_46 : decode cX4_points 46 = .ok (.ireturn, 1) := by decide +kernel
theorem dX4_aboutFilm_0 : decode cX4_aboutFilm 0 = .ok (.iload_n 2, 1) := by decide +kernel
theorem dX4_aboutFilm_1 : decode cX4_aboutFilm 1 = .ok (.tableswitch 65 0 4 #[35, 41, 47, 53, 59], 35) := by decide +kernel
theorem dX4_aboutFilm_36 : decode cX4_aboutFilm 36 = .ok (.aload_n 0, 1) := by decide +kernel
theorem dX4_aboutFilm_37 : decode cX4_aboutFilm 37 = .ok (.iload_n 1, 1) := by decide +kernel
theorem dX4_aboutFilm_38 : decode cX4_aboutFilm 38 = .ok (.invokevirtual 44, 3) := by decide +kernel
theorem dX4_aboutFilm_41 : decode cX4_aboutFilm 41 = .ok (.ireturn, 1) := by decide +kernel
theorem dX4_aboutFilm_42 : decode cX4_aboutFilm 42 = .ok (.aload_n 0, 1) := by decide +kernel
theorem dX4_aboutFilm_43 : decode cX4_aboutFilm 43 = .ok (.iload_n 1, 1) := by decide +kernel
theorem dX4_aboutFilm_44 : decode cX4_aboutFilm 44 = .ok (.invokevirtual 40, 3) := by decide +kernel
theorem dX4_aboutFilm_47 : decode cX4_aboutFilm 47 = .ok (.ireturn, 1) := by decide +kernel
theorem dX4_aboutFilm_48 : decode cX4_aboutFilm 48 = .ok (.aload_n 0, 1) := by decide +kernel
theorem dX4_aboutFilm_49 : decode cX4_aboutFilm 49 = .ok (.iload_n 1, 1) := by decide +kernel
theorem dX4_aboutFilm_50 : decode cX4_aboutFilm 50 = .ok (.invokevirtual 169, 3) := by decide +kernel
theorem dX4_aboutFilm_53 : decode cX4_aboutFilm 53 = .ok (.ireturn, 1) := by decide +kernel
theorem dX4_aboutFilm_54 : decode cX4_aboutFilm 54 = .ok (.aload_n 0, 1) := by decide +kernel
theorem dX4_aboutFilm_55 : decode cX4_aboutFilm 55 = .ok (.iload_n 1, 1) := by decide +kernel
theorem dX4_aboutFilm_56 : decode cX4_aboutFilm 56 = .ok (.invokevirtual 172, 3) := by decide +kernel
theorem dX4_aboutFilm_59 : decode cX4_aboutFilm 59 = .ok (.ireturn, 1) := by decide +kernel
theorem dX4_aboutFilm_60 : decode cX4_aboutFilm 60 = .ok (.aload_n 0, 1) := by decide +kernel
theorem dX4_aboutFilm_61 : decode cX4_aboutFilm 61 = .ok (.iload_n 1, 1) := by decide +kernel
theorem dX4_aboutFilm_62 : decode cX4_aboutFilm 62 = .ok (.invokevirtual 175, 3) := by decide +kernel
theorem dX4_aboutFilm_65 : decode cX4_aboutFilm 65 = .ok (.ireturn, 1) := by decide +kernel
theorem dX4_aboutFilm_66 : decode cX4_aboutFilm 66 = .ok (.aload_n 0, 1) := by decide +kernel
theorem dX4_aboutFilm_67 : decode cX4_aboutFilm 67 = .ok (.iload_n 1, 1) := by decide +kernel
theorem dX4_aboutFilm_68 : decode cX4_aboutFilm 68 = .ok (.invokevirtual 178, 3) := by decide +kernel
theorem dX4_aboutFilm_71 : decode cX4_aboutFilm 71 = .ok (.ireturn, 1) := by decide +kernel
theorem dX4_filmOf_0 : decode cX4_filmOf 0 = .ok (.aload_n 0, 1) := by decide +kernel
theorem dX4_filmOf_1 : decode cX4_filmOf 1 = .ok (.iconst 0, 1) := by decide +kernel
theorem dX4_filmOf_2 : decode cX4_filmOf 2 = .ok (.putfield 29, 3) := by decide +kernel
theorem dX4_filmOf_5 : decode cX4_filmOf 5 = .ok (.aload_n 0, 1) := by decide +kernel
theorem dX4_filmOf_6 : decode cX4_filmOf 6 = .ok (.iload_n 1, 1) := by decide +kernel
theorem dX4_filmOf_7 : decode cX4_filmOf 7 = .ok (.invokevirtual 102, 3) := by decide +kernel
theorem dX4_filmOf_10 : decode cX4_filmOf 10 = .ok (.ifCond .ne 9, 3) := by decide +kernel
theorem dX4_filmOf_13 : decode cX4_filmOf 13 = .ok (.aload_n 0, 1) := by decide +kernel
theorem dX4_filmOf_14 : decode cX4_filmOf 14 = .ok (.iconst 1, 1) := by decide +kernel
theorem dX4_filmOf_15 : decode cX4_filmOf 15 = .ok (.invokevirtual 92, 3) := by decide +kernel
theorem dX4_filmOf_18 : decode cX4_filmOf 18 = .ok (.ireturn, 1) := by decide +kernel
theorem dX4_filmOf_19 : decode cX4_filmOf 19 = .ok (.iload_n 2, 1) := by decide +kernel
theorem dX4_filmOf_20 : decode cX4_filmOf 20 = .ok (.iconst 0, 1) := by decide +kernel
theorem dX4_filmOf_21 : decode cX4_filmOf 21 = .ok (.iconst 5, 1) := by decide +kernel
theorem dX4_filmOf_22 : decode cX4_filmOf 22 = .ok (.invokestatic 88, 3) := by decide +kernel
theorem dX4_filmOf_25 : decode cX4_filmOf 25 = .ok (.ifCond .eq 12, 3) := by decide +kernel
theorem dX4_filmOf_28 : decode cX4_filmOf 28 = .ok (.aload_n 0, 1) := by decide +kernel
theorem dX4_filmOf_29 : decode cX4_filmOf 29 = .ok (.iload_n 1, 1) := by decide +kernel
theorem dX4_filmOf_30 : decode cX4_filmOf 30 = .ok (.iload_n 2, 1) := by decide +kernel
theorem dX4_filmOf_31 : decode cX4_filmOf 31 = .ok (.invokevirtual 181, 3) := by decide +kernel
theorem dX4_filmOf_34 : decode cX4_filmOf 34 = .ok (.goto 8, 3) := by decide +kernel
theorem dX4_filmOf_37 : decode cX4_filmOf 37 = .ok (.aload_n 0, 1) := by decide +kernel
theorem dX4_filmOf_38 : decode cX4_filmOf 38 = .ok (.iconst 2, 1) := by decide +kernel
theorem dX4_filmOf_39 : decode cX4_filmOf 39 = .ok (.invokevirtual 92, 3) := by decide +kernel
theorem dX4_filmOf_42 : decode cX4_filmOf 42 = .ok (.ireturn, 1) := by decide +kernel
theorem dX4_aboutShowing_0 : decode cX4_aboutShowing 0 = .ok (.iload_n 2, 1) := by decide +kernel
theorem dX4_aboutShowing_1 : decode cX4_aboutShowing 1 = .ok (.tableswitch 47 3 5 #[27, 33, 40], 27) := by decide +kernel
theorem dX4_aboutShowing_28 : decode cX4_aboutShowing 28 = .ok (.aload_n 0, 1) := by decide +kernel
theorem dX4_aboutShowing_29 : decode cX4_aboutShowing 29 = .ok (.iload_n 1, 1) := by decide +kernel
theorem dX4_aboutShowing_30 : decode cX4_aboutShowing 30 = .ok (.invokevirtual 75, 3) := by decide +kernel
theorem dX4_aboutShowing_33 : decode cX4_aboutShowing 33 = .ok (.ireturn, 1) := by decide +kernel
theorem dX4_aboutShowing_34 : decode cX4_aboutShowing 34 = .ok (.aload_n 0, 1) := by decide +kernel
theorem dX4_aboutShowing_35 : decode cX4_aboutShowing 35 = .ok (.iload_n 1, 1) := by decide +kernel
theorem dX4_aboutShowing_36 : decode cX4_aboutShowing 36 = .ok (.iconst 3, 1) := by decide +kernel
theorem dX4_aboutShowing_37 : decode cX4_aboutShowing 37 = .ok (.invokevirtual 47, 3) := by decide +kernel
theorem dX4_aboutShowing_40 : decode cX4_aboutShowing 40 = .ok (.ireturn, 1) := by decide +kernel
theorem dX4_aboutShowing_41 : decode cX4_aboutShowing 41 = .ok (.aload_n 0, 1) := by decide +kernel
theorem dX4_aboutShowing_42 : decode cX4_aboutShowing 42 = .ok (.iload_n 1, 1) := by decide +kernel
theorem dX4_aboutShowing_43 : decode cX4_aboutShowing 43 = .ok (.iconst 4, 1) := by decide +kernel
theorem dX4_aboutShowing_44 : decode cX4_aboutShowing 44 = .ok (.invokevirtual 47, 3) := by decide +kernel
theorem dX4_aboutShowing_47 : decode cX4_aboutShowing 47 = .ok (.ireturn, 1) := by decide +kernel
theorem dX4_aboutShowing_48 : decode cX4_aboutShowing 48 = .ok (.aload_n 0, 1) := by decide +kernel
theorem dX4_aboutShowing_49 : decode cX4_aboutShowing 49 = .ok (.iload_n 1, 1) := by decide +kernel
theorem dX4_aboutShowing_50 : decode cX4_aboutShowing 50 = .ok (.iload_n 2, 1) := by decide +kernel
theorem dX4_aboutShowing_51 : decode cX4_aboutShowing 51 = .ok (.invokevirtual 47, 3) := by decide +kernel
theorem dX4_aboutShowing_54 : decode cX4_aboutShowing 54 = .ok (.ireturn, 1) := by decide +kernel
theorem dX4_showing_0 : decode cX4_showing 0 = .ok (.aload_n 0, 1) := by decide +kernel
theorem dX4_showing_1 : decode cX4_showing 1 = .ok (.iconst 0, 1) := by decide +kernel
theorem dX4_showing_2 : decode cX4_showing 2 = .ok (.putfield 29, 3) := by decide +kernel
theorem dX4_showing_5 : decode cX4_showing 5 = .ok (.aload_n 0, 1) := by decide +kernel
theorem dX4_showing_6 : decode cX4_showing 6 = .ok (.iload_n 1, 1) := by decide +kernel
theorem dX4_showing_7 : decode cX4_showing 7 = .ok (.invokevirtual 115, 3) := by decide +kernel
theorem dX4_showing_10 : decode cX4_showing 10 = .ok (.ifCond .ne 9, 3) := by decide +kernel
theorem dX4_showing_13 : decode cX4_showing 13 = .ok (.aload_n 0, 1) := by decide +kernel
theorem dX4_showing_14 : decode cX4_showing 14 = .ok (.iconst 1, 1) := by decide +kernel
theorem dX4_showing_15 : decode cX4_showing 15 = .ok (.invokevirtual 92, 3) := by decide +kernel
theorem dX4_showing_18 : decode cX4_showing 18 = .ok (.ireturn, 1) := by decide +kernel
theorem dX4_showing_19 : decode cX4_showing 19 = .ok (.iload_n 2, 1) := by decide +kernel
theorem dX4_showing_20 : decode cX4_showing 20 = .ok (.iconst 0, 1) := by decide +kernel
theorem dX4_showing_21 : decode cX4_showing 21 = .ok (.iconst 5, 1) := by decide +kernel
theorem dX4_showing_22 : decode cX4_showing 22 = .ok (.invokestatic 88, 3) := by decide +kernel
theorem dX4_showing_25 : decode cX4_showing 25 = .ok (.ifCond .eq 12, 3) := by decide +kernel
theorem dX4_showing_28 : decode cX4_showing 28 = .ok (.aload_n 0, 1) := by decide +kernel
theorem dX4_showing_29 : decode cX4_showing 29 = .ok (.iload_n 1, 1) := by decide +kernel
theorem dX4_showing_30 : decode cX4_showing 30 = .ok (.iload_n 2, 1) := by decide +kernel
theorem dX4_showing_31 : decode cX4_showing 31 = .ok (.invokevirtual 184, 3) := by decide +kernel
theorem dX4_showing_34 : decode cX4_showing 34 = .ok (.goto 8, 3) := by decide +kernel
theorem dX4_showing_37 : decode cX4_showing 37 = .ok (.aload_n 0, 1) := by decide +kernel
theorem dX4_showing_38 : decode cX4_showing 38 = .ok (.iconst 2, 1) := by decide +kernel
theorem dX4_showing_39 : decode cX4_showing 39 = .ok (.invokevirtual 92, 3) := by decide +kernel
theorem dX4_showing_42 : decode cX4_showing 42 = .ok (.ireturn, 1) := by decide +kernel
theorem dX4_reelAt_0 : decode cX4_reelAt 0 = .ok (.aload_n 0, 1) := by decide +kernel
theorem dX4_reelAt_1 : decode cX4_reelAt 1 = .ok (.iload_n 1, 1) := by decide +kernel
theorem dX4_reelAt_2 : decode cX4_reelAt 2 = .ok (.iconst 0, 1) := by decide +kernel
theorem dX4_reelAt_3 : decode cX4_reelAt 3 = .ok (.invokevirtual 47, 3) := by decide +kernel
theorem dX4_reelAt_6 : decode cX4_reelAt 6 = .ok (.istore_n 3, 1) := by decide +kernel
theorem dX4_reelAt_7 : decode cX4_reelAt 7 = .ok (.iload_n 2, 1) := by decide +kernel
theorem dX4_reelAt_8 : decode cX4_reelAt 8 = .ok (.aload_n 0, 1) := by decide +kernel
theorem dX4_reelAt_9 : decode cX4_reelAt 9 = .ok (.iload_n 3, 1) := by decide +kernel
theorem dX4_reelAt_10 : decode cX4_reelAt 10 = .ok (.invokevirtual 44, 3) := by decide +kernel
theorem dX4_reelAt_13 : decode cX4_reelAt 13 = .ok (.if_icmp .ge 24, 3) := by decide +kernel
theorem dX4_reelAt_16 : decode cX4_reelAt 16 = .ok (.aload_n 0, 1) := by decide +kernel
theorem dX4_reelAt_17 : decode cX4_reelAt 17 = .ok (.iload_n 3, 1) := by decide +kernel
theorem dX4_reelAt_18 : decode cX4_reelAt 18 = .ok (.aload_n 0, 1) := by decide +kernel
theorem dX4_reelAt_19 : decode cX4_reelAt 19 = .ok (.iload_n 1, 1) := by decide +kernel
theorem dX4_reelAt_20 : decode cX4_reelAt 20 = .ok (.iconst 2, 1) := by decide +kernel
theorem dX4_reelAt_21 : decode cX4_reelAt 21 = .ok (.invokevirtual 47, 3) := by decide +kernel
theorem dX4_reelAt_24 : decode cX4_reelAt 24 = .ok (.aload_n 0, 1) := by decide +kernel
theorem dX4_reelAt_25 : decode cX4_reelAt 25 = .ok (.iload_n 1, 1) := by decide +kernel
theorem dX4_reelAt_26 : decode cX4_reelAt 26 = .ok (.iconst 3, 1) := by decide +kernel
theorem dX4_reelAt_27 : decode cX4_reelAt 27 = .ok (.invokevirtual 47, 3) := by decide +kernel
theorem dX4_reelAt_30 : decode cX4_reelAt 30 = .ok (.iload_n 2, 1) := by decide +kernel
theorem dX4_reelAt_31 : decode cX4_reelAt 31 = .ok (.invokevirtual 64, 3) := by decide +kernel
theorem dX4_reelAt_34 : decode cX4_reelAt 34 = .ok (.goto 4, 3) := by decide +kernel
theorem dX4_reelAt_37 : decode cX4_reelAt 37 = .ok (.iconst (-1), 1) := by decide +kernel
theorem dX4_reelAt_38 : decode cX4_reelAt 38 = .ok (.ireturn, 1) := by decide +kernel
theorem dX4_reel_0 : decode cX4_reel 0 = .ok (.aload_n 0, 1) := by decide +kernel
theorem dX4_reel_1 : decode cX4_reel 1 = .ok (.iconst 0, 1) := by decide +kernel
theorem dX4_reel_2 : decode cX4_reel 2 = .ok (.putfield 29, 3) := by decide +kernel
theorem dX4_reel_5 : decode cX4_reel 5 = .ok (.aload_n 0, 1) := by decide +kernel
theorem dX4_reel_6 : decode cX4_reel 6 = .ok (.iload_n 1, 1) := by decide +kernel
theorem dX4_reel_7 : decode cX4_reel 7 = .ok (.invokevirtual 115, 3) := by decide +kernel
theorem dX4_reel_10 : decode cX4_reel 10 = .ok (.ifCond .ne 9, 3) := by decide +kernel
theorem dX4_reel_13 : decode cX4_reel 13 = .ok (.aload_n 0, 1) := by decide +kernel
theorem dX4_reel_14 : decode cX4_reel 14 = .ok (.iconst 1, 1) := by decide +kernel
theorem dX4_reel_15 : decode cX4_reel 15 = .ok (.invokevirtual 92, 3) := by decide +kernel
theorem dX4_reel_18 : decode cX4_reel 18 = .ok (.ireturn, 1) := by decide +kernel
theorem dX4_reel_19 : decode cX4_reel 19 = .ok (.iload_n 2, 1) := by decide +kernel
theorem dX4_reel_20 : decode cX4_reel 20 = .ok (.iconst 0, 1) := by decide +kernel
theorem dX4_reel_21 : decode cX4_reel 21 = .ok (.iconst 5, 1) := by decide +kernel
theorem dX4_reel_22 : decode cX4_reel 22 = .ok (.invokestatic 88, 3) := by decide +kernel
theorem dX4_reel_25 : decode cX4_reel 25 = .ok (.ifCond .eq 12, 3) := by decide +kernel
theorem dX4_reel_28 : decode cX4_reel 28 = .ok (.aload_n 0, 1) := by decide +kernel
theorem dX4_reel_29 : decode cX4_reel 29 = .ok (.iload_n 1, 1) := by decide +kernel
theorem dX4_reel_30 : decode cX4_reel 30 = .ok (.iload_n 2, 1) := by decide +kernel
theorem dX4_reel_31 : decode cX4_reel 31 = .ok (.invokevirtual 187, 3) := by decide +kernel
theorem dX4_reel_34 : decode cX4_reel 34 = .ok (.goto 8, 3) := by decide +kernel
theorem dX4_reel_37 : decode cX4_reel 37 = .ok (.aload_n 0, 1) := by decide +kernel
theorem dX4_reel_38 : decode cX4_reel 38 = .ok (.iconst 2, 1) := by decide +kernel
theorem dX4_reel_39 : decode cX4_reel 39 = .ok (.invokevirtual 92, 3) := by decide +kernel
theorem dX4_reel_42 : decode cX4_reel 42 = .ok (.ireturn, 1) := by decide +kernel
theorem dX4_running_0 : decode cX4_running 0 = .ok (.iconst (-1), 1) := by decide +kernel
theorem dX4_running_1 : decode cX4_running 1 = .ok (.istore_n 3, 1) := by decide +kernel
theorem dX4_running_2 : decode cX4_running 2 = .ok (.iconst 0, 1) := by decide +kernel
theorem dX4_running_3 : decode cX4_running 3 = .ok (.istore 4, 2) := by decide +kernel
theorem dX4_running_5 : decode cX4_running 5 = .ok (.iload 4, 2) := by decide +kernel
theorem dX4_running_7 : decode cX4_running 7 = .ok (.bipush 6, 2) := by decide +kernel
theorem dX4_running_9 : decode cX4_running 9 = .ok (.aload_n 0, 1) := by decide +kernel
theorem dX4_running_10 : decode cX4_running 10 = .ok (.getfield 7, 3) := by decide +kernel
theorem dX4_running_13 : decode cX4_running 13 = .ok (.iconst 1, 1) := by decide +kernel
theorem dX4_running_14 : decode cX4_running 14 = .ok (.iaload, 1) := by decide +kernel
theorem dX4_running_15 : decode cX4_running 15 = .ok (.imul, 1) := by decide +kernel
theorem dX4_running_16 : decode cX4_running 16 = .ok (.if_icmp .ge 104, 3) := by decide +kernel
theorem dX4_running_19 : decode cX4_running 19 = .ok (.iload 4, 2) := by decide +kernel
theorem dX4_running_21 : decode cX4_running 21 = .ok (.bipush 6, 2) := by decide +kernel
theorem dX4_running_23 : decode cX4_running 23 = .ok (.idiv, 1) := by decide +kernel
theorem dX4_running_24 : decode cX4_running 24 = .ok (.istore 5, 2) := by decide +kernel
theorem dX4_running_26 : decode cX4_running 26 = .ok (.aload_n 0, 1) := by decide +kernel
theorem dX4_running_27 : decode cX4_running 27 = .ok (.iload 5, 2) := by decide +kernel
theorem dX4_running_29 : decode cX4_running 29 = .ok (.iload 4, 2) := by decide +kernel
theorem dX4_running_31 : decode cX4_running 31 = .ok (.bipush 6, 2) := by decide +kernel
theorem dX4_running_33 : decode cX4_running 33 = .ok (.irem, 1) := by decide +kernel
theorem dX4_running_34 : decode cX4_running 34 = .ok (.invokevirtual 187, 3) := by decide +kernel
theorem dX4_running_37 : decode cX4_running 37 = .ok (.istore 6, 2) := by decide +kernel
theorem dX4_running_39 : decode cX4_running 39 = .ok (.aload_n 0, 1) := by decide +kernel
theorem dX4_running_40 : decode cX4_running 40 = .ok (.iload 5, 2) := by decide +kernel
theorem dX4_running_42 : decode cX4_running 42 = .ok (.iconst 1, 1) := by decide +kernel
theorem dX4_running_43 : decode cX4_running 43 = .ok (.invokevirtual 47, 3) := by decide +kernel
theorem dX4_running_46 : decode cX4_running 46 = .ok (.iload_n 1, 1) := by decide +kernel
theorem dX4_running_47 : decode cX4_running 47 = .ok (.if_icmp .ne 38, 3) := by decide +kernel
theorem dX4_running_50 : decode cX4_running 50 = .ok (.iload 6, 2) := by decide +kernel
theorem dX4_running_52 : decode cX4_running 52 = .ok (.iconst (-1), 1) := by decide +kernel
theorem dX4_running_53 : decode cX4_running 53 = .ok (.if_icmp .eq 32, 3) := by decide +kernel
theorem dX4_running_56 : decode cX4_running 56 = .ok (.iload_n 2, 1) := by decide +kernel
theorem dX4_running_57 : decode cX4_running 57 = .ok (.iload 6, 2) := by decide +kernel
theorem dX4_running_59 : decode cX4_running 59 = .ok (.iload 6, 2) := by decide +kernel
theorem dX4_running_61 : decode cX4_running 61 = .ok (.aload_n 0, 1) := by decide +kernel
theorem dX4_running_62 : decode cX4_running 62 = .ok (.aload_n 0, 1) := by decide +kernel
theorem dX4_running_63 : decode cX4_running 63 = .ok (.iload 5, 2) := by decide +kernel
theorem dX4_running_65 : decode cX4_running 65 = .ok (.iconst 0, 1) := by decide +kernel
theorem dX4_running_66 : decode cX4_running 66 = .ok (.invokevirtual 47, 3) := by decide +kernel
theorem dX4_running_69 : decode cX4_running 69 = .ok (.invokevirtual 40, 3) := by decide +kernel
theorem dX4_running_72 : decode cX4_running 72 = .ok (.iadd, 1) := by decide +kernel
theorem dX4_running_73 : decode cX4_running 73 = .ok (.iconst 1, 1) := by decide +kernel
theorem dX4_running_74 : decode cX4_running 74 = .ok (.isub, 1) := by decide +kernel
theorem dX4_running_75 : decode cX4_running 75 = .ok (.invokestatic 88, 3) := by decide +kernel
theorem dX4_running_78 : decode cX4_running 78 = .ok (.ifCond .eq 7, 3) := by decide +kernel
theorem dX4_running_81 : decode cX4_running 81 = .ok (.iconst 1, 1) := by decide +kernel
theorem dX4_running_82 : decode cX4_running 82 = .ok (.goto 4, 3) := by decide +kernel
theorem dX4_running_85 : decode cX4_running 85 = .ok (.iconst 0, 1) := by decide +kernel
theorem dX4_running_86 : decode cX4_running 86 = .ok (.istore 7, 2) := by decide +kernel
theorem dX4_running_88 : decode cX4_running 88 = .ok (.iload 7, 2) := by decide +kernel
theorem dX4_running_90 : decode cX4_running 90 = .ok (.ifCond .eq 22, 3) := by decide +kernel
theorem dX4_running_93 : decode cX4_running 93 = .ok (.bipush 6, 2) := by decide +kernel
theorem dX4_running_95 : decode cX4_running 95 = .ok (.aload_n 0, 1) := by decide +kernel
theorem dX4_running_96 : decode cX4_running 96 = .ok (.iload 5, 2) := by decide +kernel
theorem dX4_running_98 : decode cX4_running 98 = .ok (.iconst 0, 1) := by decide +kernel
theorem dX4_running_99 : decode cX4_running 99 = .ok (.invokevirtual 47, 3) := by decide +kernel
theorem dX4_running_102 : decode cX4_running 102 = .ok (.imul, 1) := by decide +kernel
theorem dX4_running_103 : decode cX4_running 103 = .ok (.iload 4, 2) := by decide +kernel
theorem dX4_running_105 : decode cX4_running 105 = .ok (.bipush 6, 2) := by decide +kernel
theorem dX4_running_107 : decode cX4_running 107 = .ok (.irem, 1) := by decide +kernel
theorem dX4_running_108 : decode cX4_running 108 = .ok (.iadd, 1) := by decide +kernel
theorem dX4_running_109 : decode cX4_running 109 = .ok (.goto 4, 3) := by decide +kernel
theorem dX4_running_112 : decode cX4_running 112 = .ok (.iload_n 3, 1) := by decide +kernel
theorem dX4_running_113 : decode cX4_running 113 = .ok (.istore_n 3, 1) := by decide +kernel
theorem dX4_running_114 : decode cX4_running 114 = .ok (.iinc 4 1, 3) := by decide +kernel
theorem dX4_running_117 : decode cX4_running 117 = .ok (.goto (-112), 3) := by decide +kernel
theorem dX4_running_120 : decode cX4_running 120 = .ok (.iload_n 3, 1) := by decide +kernel
theorem dX4_running_121 : decode cX4_running 121 = .ok (.ireturn, 1) := by decide +kernel
theorem dX4_runs_0 : decode cX4_runs 0 = .ok (.aload_n 0, 1) := by decide +kernel
theorem dX4_runs_1 : decode cX4_runs 1 = .ok (.iconst 0, 1) := by decide +kernel
theorem dX4_runs_2 : decode cX4_runs 2 = .ok (.putfield 29, 3) := by decide +kernel
theorem dX4_runs_5 : decode cX4_runs 5 = .ok (.iload_n 1, 1) := by decide +kernel
theorem dX4_runs_6 : decode cX4_runs 6 = .ok (.invokestatic 98, 3) := by decide +kernel
theorem dX4_runs_9 : decode cX4_runs 9 = .ok (.ifCond .ne 9, 3) := by decide +kernel
theorem dX4_runs_12 : decode cX4_runs 12 = .ok (.aload_n 0, 1) := by decide +kernel
theorem dX4_runs_13 : decode cX4_runs 13 = .ok (.iconst 1, 1) := by decide +kernel
theorem dX4_runs_14 : decode cX4_runs 14 = .ok (.invokevirtual 92, 3) := by decide +kernel
theorem dX4_runs_17 : decode cX4_runs 17 = .ok (.ireturn, 1) := by decide +kernel
theorem dX4_runs_18 : decode cX4_runs 18 = .ok (.iload_n 2, 1) := by decide +kernel
theorem dX4_runs_19 : decode cX4_runs 19 = .ok (.invokestatic 105, 3) := by decide +kernel
theorem dX4_runs_22 : decode cX4_runs 22 = .ok (.ifCond .eq 12, 3) := by decide +kernel
theorem dX4_runs_25 : decode cX4_runs 25 = .ok (.aload_n 0, 1) := by decide +kernel
theorem dX4_runs_26 : decode cX4_runs 26 = .ok (.iload_n 1, 1) := by decide +kernel
theorem dX4_runs_27 : decode cX4_runs 27 = .ok (.iload_n 2, 1) := by decide +kernel
theorem dX4_runs_28 : decode cX4_runs 28 = .ok (.invokevirtual 190, 3) := by decide +kernel
theorem dX4_runs_31 : decode cX4_runs 31 = .ok (.goto 8, 3) := by decide +kernel
theorem dX4_runs_34 : decode cX4_runs 34 = .ok (.aload_n 0, 1) := by decide +kernel
theorem dX4_runs_35 : decode cX4_runs 35 = .ok (.iconst 2, 1) := by decide +kernel
theorem dX4_runs_36 : decode cX4_runs 36 = .ok (.invokevirtual 92, 3) := by decide +kernel
theorem dX4_runs_39 : decode cX4_runs 39 = .ok (.ireturn, 1) := by decide +kernel
theorem dX4_onScreen_0 : decode cX4_onScreen 0 = .ok (.iconst 0, 1) := by decide +kernel
theorem dX4_onScreen_1 : decode cX4_onScreen 1 = .ok (.istore_n 2, 1) := by decide +kernel
theorem dX4_onScreen_2 : decode cX4_onScreen 2 = .ok (.iconst 0, 1) := by decide +kernel
theorem dX4_onScreen_3 : decode cX4_onScreen 3 = .ok (.istore_n 3, 1) := by decide +kernel
theorem dX4_onScreen_4 : decode cX4_onScreen 4 = .ok (.iload_n 3, 1) := by decide +kernel
theorem dX4_onScreen_5 : decode cX4_onScreen 5 = .ok (.aload_n 0, 1) := by decide +kernel
theorem dX4_onScreen_6 : decode cX4_onScreen 6 = .ok (.getfield 7, 3) := by decide +kernel
theorem dX4_onScreen_9 : decode cX4_onScreen 9 = .ok (.iconst 1, 1) := by decide +kernel
theorem dX4_onScreen_10 : decode cX4_onScreen 10 = .ok (.iaload, 1) := by decide +kernel
theorem dX4_onScreen_11 : decode cX4_onScreen 11 = .ok (.if_icmp .ge 27, 3) := by decide +kernel
theorem dX4_onScreen_14 : decode cX4_onScreen 14 = .ok (.iload_n 2, 1) := by decide +kernel
theorem dX4_onScreen_15 : decode cX4_onScreen 15 = .ok (.aload_n 0, 1) := by decide +kernel
theorem dX4_onScreen_16 : decode cX4_onScreen 16 = .ok (.iload_n 3, 1) := by decide +kernel
theorem dX4_onScreen_17 : decode cX4_onScreen 17 = .ok (.iconst 1, 1) := by decide +kernel
theorem dX4_onScreen_18 : decode cX4_onScreen 18 = .ok (.invokevirtual 47, 3) := by decide +kernel
theorem dX4_onScreen_21 : decode cX4_onScreen 21 = .ok (.iload_n 1, 1) := by decide +kernel
theorem dX4_onScreen_22 : decode cX4_onScreen 22 = .ok (.if_icmp .ne 7, 3) := by decide +kernel
theorem dX4_onScreen_25 : decode cX4_onScreen 25 = .ok (.iconst 1, 1) := by decide +kernel
theorem dX4_onScreen_26 : decode cX4_onScreen 26 = .ok (.goto 4, 3) := by decide +kernel
theorem dX4_onScreen_29 : decode cX4_onScreen 29 = .ok (.iconst 0, 1) := by decide +kernel
theorem dX4_onScreen_30 : decode cX4_onScreen 30 = .ok (.iadd, 1) := by decide +kernel
theorem dX4_onScreen_31 : decode cX4_onScreen 31 = .ok (.istore_n 2, 1) := by decide +kernel
theorem dX4_onScreen_32 : decode cX4_onScreen 32 = .ok (.iinc 3 1, 3) := by decide +kernel
theorem dX4_onScreen_35 : decode cX4_onScreen 35 = .ok (.goto (-31), 3) := by decide +kernel
theorem dX4_onScreen_38 : decode cX4_onScreen 38 = .ok (.iload_n 2, 1) := by decide +kernel
theorem dX4_onScreen_39 : decode cX4_onScreen 39 = .ok (.ireturn, 1) := by decide +kernel
theorem dX4_used_0 : decode cX4_used 0 = .ok (.iconst 0, 1) := by decide +kernel
theorem dX4_used_1 : decode cX4_used 1 = .ok (.istore_n 2, 1) := by decide +kernel
theorem dX4_used_2 : decode cX4_used 2 = .ok (.iconst 0, 1) := by decide +kernel
theorem dX4_used_3 : decode cX4_used 3 = .ok (.istore_n 3, 1) := by decide +kernel
theorem dX4_used_4 : decode cX4_used 4 = .ok (.iload_n 3, 1) := by decide +kernel
theorem dX4_used_5 : decode cX4_used 5 = .ok (.aload_n 0, 1) := by decide +kernel
theorem dX4_used_6 : decode cX4_used 6 = .ok (.getfield 7, 3) := by decide +kernel
theorem dX4_used_9 : decode cX4_used 9 = .ok (.iconst 1, 1) := by decide +kernel
theorem dX4_used_10 : decode cX4_used 10 = .ok (.iaload, 1) := by decide +kernel
theorem dX4_used_11 : decode cX4_used 11 = .ok (.if_icmp .ge 47, 3) := by decide +kernel
theorem dX4_used_14 : decode cX4_used 14 = .ok (.iload_n 2, 1) := by decide +kernel
theorem dX4_used_15 : decode cX4_used 15 = .ok (.aload_n 0, 1) := by decide +kernel
theorem dX4_used_16 : decode cX4_used 16 = .ok (.iload_n 3, 1) := by decide +kernel
theorem dX4_used_17 : decode cX4_used 17 = .ok (.iconst 1, 1) := by decide +kernel
theorem dX4_used_18 : decode cX4_used 18 = .ok (.invokevirtual 47, 3) := by decide +kernel
theorem dX4_used_21 : decode cX4_used 21 = .ok (.iload_n 1, 1) := by decide +kernel
theorem dX4_used_22 : decode cX4_used 22 = .ok (.if_icmp .ne 27, 3) := by decide +kernel
theorem dX4_used_25 : decode cX4_used 25 = .ok (.aload_n 0, 1) := by decide +kernel
theorem dX4_used_26 : decode cX4_used 26 = .ok (.aload_n 0, 1) := by decide +kernel
theorem dX4_used_27 : decode cX4_used 27 = .ok (.iload_n 3, 1) := by decide +kernel
theorem dX4_used_28 : decode cX4_used 28 = .ok (.iconst 0, 1) := by decide +kernel
theorem dX4_used_29 : decode cX4_used 29 = .ok (.invokevirtual 47, 3) := by decide +kernel
theorem dX4_used_32 : decode cX4_used 32 = .ok (.invokevirtual 44, 3) := by decide +kernel
theorem dX4_used_35 : decode cX4_used 35 = .ok (.aload_n 0, 1) := by decide +kernel
theorem dX4_used_36 : decode cX4_used 36 = .ok (.aload_n 0, 1) := by decide +kernel
theorem dX4_used_37 : decode cX4_used 37 = .ok (.iload_n 3, 1) := by decide +kernel
theorem dX4_used_38 : decode cX4_used 38 = .ok (.iconst 0, 1) := by decide +kernel
theorem dX4_used_39 : decode cX4_used 39 = .ok (.invokevirtual 47, 3) := by decide +kernel
theorem dX4_used_42 : decode cX4_used 42 = .ok (.invokevirtual 40, 3) := by decide +kernel
theorem dX4_used_45 : decode cX4_used 45 = .ok (.imul, 1) := by decide +kernel
theorem dX4_used_46 : decode cX4_used 46 = .ok (.goto 4, 3) := by decide +kernel
theorem dX4_used_49 : decode cX4_used 49 = .ok (.iconst 0, 1) := by decide +kernel
theorem dX4_used_50 : decode cX4_used 50 = .ok (.iadd, 1) := by decide +kernel
theorem dX4_used_51 : decode cX4_used 51 = .ok (.istore_n 2, 1) := by decide +kernel
theorem dX4_used_52 : decode cX4_used 52 = .ok (.iinc 3 1, 3) := by decide +kernel
theorem dX4_used_55 : decode cX4_used 55 = .ok (.goto (-51), 3) := by decide +kernel
theorem dX4_used_58 : decode cX4_used 58 = .ok (.iload_n 2, 1) := by decide +kernel
theorem dX4_used_59 : decode cX4_used 59 = .ok (.ireturn, 1) := by decide +kernel
theorem dX4_last_0 : decode cX4_last 0 = .ok (.iconst (-1), 1) := by decide +kernel
theorem dX4_last_1 : decode cX4_last 1 = .ok (.istore_n 2, 1) := by decide +kernel
theorem dX4_last_2 : decode cX4_last 2 = .ok (.iconst 0, 1) := by decide +kernel
theorem dX4_last_3 : decode cX4_last 3 = .ok (.istore_n 3, 1) := by decide +kernel
theorem dX4_last_4 : decode cX4_last 4 = .ok (.iload_n 3, 1) := by decide +kernel
theorem dX4_last_5 : decode cX4_last 5 = .ok (.aload_n 0, 1) := by decide +kernel
theorem dX4_last_6 : decode cX4_last 6 = .ok (.getfield 7, 3) := by decide +kernel
theorem dX4_last_9 : decode cX4_last 9 = .ok (.iconst 1, 1) := by decide +kernel
theorem dX4_last_10 : decode cX4_last 10 = .ok (.iaload, 1) := by decide +kernel
theorem dX4_last_11 : decode cX4_last 11 = .ok (.if_icmp .ge 38, 3) := by decide +kernel
theorem dX4_last_14 : decode cX4_last 14 = .ok (.aload_n 0, 1) := by decide +kernel
theorem dX4_last_15 : decode cX4_last 15 = .ok (.iload_n 3, 1) := by decide +kernel
theorem dX4_last_16 : decode cX4_last 16 = .ok (.iconst 1, 1) := by decide +kernel
theorem dX4_last_17 : decode cX4_last 17 = .ok (.invokevirtual 47, 3) := by decide +kernel
theorem dX4_last_20 : decode cX4_last 20 = .ok (.iload_n 1, 1) := by decide +kernel
theorem dX4_last_21 : decode cX4_last 21 = .ok (.if_icmp .ne 20, 3) := by decide +kernel
theorem dX4_last_24 : decode cX4_last 24 = .ok (.aload_n 0, 1) := by decide +kernel
theorem dX4_last_25 : decode cX4_last 25 = .ok (.iload_n 3, 1) := by decide +kernel
theorem dX4_last_26 : decode cX4_last 26 = .ok (.invokevirtual 75, 3) := by decide +kernel
theorem dX4_last_29 : decode cX4_last 29 = .ok (.iload_n 2, 1) := by decide +kernel
theorem dX4_last_30 : decode cX4_last 30 = .ok (.if_icmp .le 11, 3) := by decide +kernel
theorem dX4_last_33 : decode cX4_last 33 = .ok (.aload_n 0, 1) := by decide +kernel
theorem dX4_last_34 : decode cX4_last 34 = .ok (.iload_n 3, 1) := by decide +kernel
theorem dX4_last_35 : decode cX4_last 35 = .ok (.invokevirtual 75, 3) := by decide +kernel
theorem dX4_last_38 : decode cX4_last 38 = .ok (.goto 4, 3) := by decide +kernel
theorem dX4_last_41 : decode cX4_last 41 = .ok (.iload_n 2, 1) := by decide +kernel
theorem dX4_last_42 : decode cX4_last 42 = .ok (.istore_n 2, 1) := by decide +kernel
theorem dX4_last_43 : decode cX4_last 43 = .ok (.iinc 3 1, 3) := by decide +kernel
theorem dX4_last_46 : decode cX4_last 46 = .ok (.goto (-42), 3) := by decide +kernel
theorem dX4_last_49 : decode cX4_last 49 = .ok (.iload_n 2, 1) := by decide +kernel
theorem dX4_last_50 : decode cX4_last 50 = .ok (.ireturn, 1) := by decide +kernel
theorem dX4_aboutScreen_0 : decode cX4_aboutScreen 0 = .ok (.iload_n 2, 1) := by decide +kernel
theorem dX4_aboutScreen_1 : decode cX4_aboutScreen 1 = .ok (.tableswitch 53 0 3 #[31, 41, 47, 47], 31) := by decide +kernel
theorem dX4_aboutScreen_32 : decode cX4_aboutScreen 32 = .ok (.aload_n 0, 1) := by decide +kernel
theorem dX4_aboutScreen_33 : decode cX4_aboutScreen 33 = .ok (.getfield 7, 3) := by decide +kernel
theorem dX4_aboutScreen_36 : decode cX4_aboutScreen 36 = .ok (.bipush 7, 2) := by decide +kernel
theorem dX4_aboutScreen_38 : decode cX4_aboutScreen 38 = .ok (.iload_n 1, 1) := by decide +kernel
theorem dX4_aboutScreen_39 : decode cX4_aboutScreen 39 = .ok (.iadd, 1) := by decide +kernel
theorem dX4_aboutScreen_40 : decode cX4_aboutScreen 40 = .ok (.iaload, 1) := by decide +kernel
theorem dX4_aboutScreen_41 : decode cX4_aboutScreen 41 = .ok (.ireturn, 1) := by decide +kernel
theorem dX4_aboutScreen_42 : decode cX4_aboutScreen 42 = .ok (.aload_n 0, 1) := by decide +kernel
theorem dX4_aboutScreen_43 : decode cX4_aboutScreen 43 = .ok (.iload_n 1, 1) := by decide +kernel
theorem dX4_aboutScreen_44 : decode cX4_aboutScreen 44 = .ok (.invokevirtual 193, 3) := by decide +kernel
theorem dX4_aboutScreen_47 : decode cX4_aboutScreen 47 = .ok (.ireturn, 1) := by decide +kernel
theorem dX4_aboutScreen_48 : decode cX4_aboutScreen 48 = .ok (.aload_n 0, 1) := by decide +kernel
theorem dX4_aboutScreen_49 : decode cX4_aboutScreen 49 = .ok (.iload_n 1, 1) := by decide +kernel
theorem dX4_aboutScreen_50 : decode cX4_aboutScreen 50 = .ok (.invokevirtual 196, 3) := by decide +kernel
theorem dX4_aboutScreen_53 : decode cX4_aboutScreen 53 = .ok (.ireturn, 1) := by decide +kernel
theorem dX4_aboutScreen_54 : decode cX4_aboutScreen 54 = .ok (.aload_n 0, 1) := by decide +kernel
theorem dX4_aboutScreen_55 : decode cX4_aboutScreen 55 = .ok (.iload_n 1, 1) := by decide +kernel
theorem dX4_aboutScreen_56 : decode cX4_aboutScreen 56 = .ok (.invokevirtual 199, 3) := by decide +kernel
theorem dX4_aboutScreen_59 : decode cX4_aboutScreen 59 = .ok (.ireturn, 1) := by decide +kernel
theorem dX4_screen_0 : decode cX4_screen 0 = .ok (.aload_n 0, 1) := by decide +kernel
theorem dX4_screen_1 : decode cX4_screen 1 = .ok (.iconst 0, 1) := by decide +kernel
theorem dX4_screen_2 : decode cX4_screen 2 = .ok (.putfield 29, 3) := by decide +kernel
theorem dX4_screen_5 : decode cX4_screen 5 = .ok (.iload_n 1, 1) := by decide +kernel
theorem dX4_screen_6 : decode cX4_screen 6 = .ok (.invokestatic 98, 3) := by decide +kernel
theorem dX4_screen_9 : decode cX4_screen 9 = .ok (.ifCond .ne 9, 3) := by decide +kernel
theorem dX4_screen_12 : decode cX4_screen 12 = .ok (.aload_n 0, 1) := by decide +kernel
theorem dX4_screen_13 : decode cX4_screen 13 = .ok (.iconst 1, 1) := by decide +kernel
theorem dX4_screen_14 : decode cX4_screen 14 = .ok (.invokevirtual 92, 3) := by decide +kernel
theorem dX4_screen_17 : decode cX4_screen 17 = .ok (.ireturn, 1) := by decide +kernel
theorem dX4_screen_18 : decode cX4_screen 18 = .ok (.iload_n 2, 1) := by decide +kernel
theorem dX4_screen_19 : decode cX4_screen 19 = .ok (.iconst 0, 1) := by decide +kernel
theorem dX4_screen_20 : decode cX4_screen 20 = .ok (.iconst 4, 1) := by decide +kernel
theorem dX4_screen_21 : decode cX4_screen 21 = .ok (.invokestatic 88, 3) := by decide +kernel
theorem dX4_screen_24 : decode cX4_screen 24 = .ok (.ifCond .eq 12, 3) := by decide +kernel
theorem dX4_screen_27 : decode cX4_screen 27 = .ok (.aload_n 0, 1) := by decide +kernel
theorem dX4_screen_28 : decode cX4_screen 28 = .ok (.iload_n 1, 1) := by decide +kernel
theorem dX4_screen_29 : decode cX4_screen 29 = .ok (.iload_n 2, 1) := by decide +kernel
theorem dX4_screen_30 : decode cX4_screen 30 = .ok (.invokevirtual 202, 3) := by decide +kernel
theorem dX4_screen_33 : decode cX4_screen 33 = .ok (.goto 8, 3) := by decide +kernel
theorem dX4_screen_36 : decode cX4_screen 36 = .ok (.aload_n 0, 1) := by decide +kernel
theorem dX4_screen_37 : decode cX4_screen 37 = .ok (.iconst 2, 1) := by decide +kernel
theorem dX4_screen_38 : decode cX4_screen 38 = .ok (.invokevirtual 92, 3) := by decide +kernel
theorem dX4_screen_41 : decode cX4_screen 41 = .ok (.ireturn, 1) := by decide +kernel
theorem dX4_guestHas_0 : decode cX4_guestHas 0 = .ok (.aload_n 0, 1) := by decide +kernel
theorem dX4_guestHas_1 : decode cX4_guestHas 1 = .ok (.getfield 7, 3) := by decide +kernel
theorem dX4_guestHas_4 : decode cX4_guestHas 4 = .ok (.bipush 86, 2) := by decide +kernel
theorem dX4_guestHas_6 : decode cX4_guestHas 6 = .ok (.iconst 3, 1) := by decide +kernel
theorem dX4_guestHas_7 : decode cX4_guestHas 7 = .ok (.iload_n 1, 1) := by decide +kernel
theorem dX4_guestHas_8 : decode cX4_guestHas 8 = .ok (.imul, 1) := by decide +kernel
theorem dX4_guestHas_9 : decode cX4_guestHas 9 = .ok (.iadd, 1) := by decide +kernel
theorem dX4_guestHas_10 : decode cX4_guestHas 10 = .ok (.iload_n 2, 1) := by decide +kernel
theorem dX4_guestHas_11 : decode cX4_guestHas 11 = .ok (.iadd, 1) := by decide +kernel
theorem dX4_guestHas_12 : decode cX4_guestHas 12 = .ok (.iaload, 1) := by decide +kernel
theorem dX4_guestHas_13 : decode cX4_guestHas 13 = .ok (.ireturn, 1) := by decide +kernel
theorem dX4_canGreet_0 : decode cX4_canGreet 0 = .ok (.aload_n 0, 1) := by decide +kernel
theorem dX4_canGreet_1 : decode cX4_canGreet 1 = .ok (.iload_n 1, 1) := by decide +kernel
theorem dX4_canGreet_2 : decode cX4_canGreet 2 = .ok (.iconst 0, 1) := by decide +kernel
theorem dX4_canGreet_3 : decode cX4_canGreet 3 = .ok (.invokevirtual 205, 3) := by decide +kernel
theorem dX4_canGreet_6 : decode cX4_canGreet 6 = .ok (.iload_n 2, 1) := by decide +kernel
theorem dX4_canGreet_7 : decode cX4_canGreet 7 = .ok (.if_icmp .ne 34, 3) := by decide +kernel
theorem dX4_canGreet_10 : decode cX4_canGreet 10 = .ok (.iload_n 3, 1) := by decide +kernel
theorem dX4_canGreet_11 : decode cX4_canGreet 11 = .ok (.aload_n 0, 1) := by decide +kernel
theorem dX4_canGreet_12 : decode cX4_canGreet 12 = .ok (.iload_n 1, 1) := by decide +kernel
theorem dX4_canGreet_13 : decode cX4_canGreet 13 = .ok (.iconst 1, 1) := by decide +kernel
theorem dX4_canGreet_14 : decode cX4_canGreet 14 = .ok (.invokevirtual 205, 3) := by decide +kernel
theorem dX4_canGreet_17 : decode cX4_canGreet 17 = .ok (.if_icmp .lt 24, 3) := by decide +kernel
theorem dX4_canGreet_20 : decode cX4_canGreet 20 = .ok (.iload_n 3, 1) := by decide +kernel
theorem dX4_canGreet_21 : decode cX4_canGreet 21 = .ok (.aload_n 0, 1) := by decide +kernel
theorem dX4_canGreet_22 : decode cX4_canGreet 22 = .ok (.getfield 7, 3) := by decide +kernel
theorem dX4_canGreet_25 : decode cX4_canGreet 25 = .ok (.iconst 5, 1) := by decide +kernel
theorem dX4_canGreet_26 : decode cX4_canGreet 26 = .ok (.iaload, 1) := by decide +kernel
theorem dX4_canGreet_27 : decode cX4_canGreet 27 = .ok (.iadd, 1) := by decide +kernel
theorem dX4_canGreet_28 : decode cX4_canGreet 28 = .ok (.aload_n 0, 1) := by decide +kernel
theorem dX4_canGreet_29 : decode cX4_canGreet 29 = .ok (.iload_n 1, 1) := by decide +kernel
theorem dX4_canGreet_30 : decode cX4_canGreet 30 = .ok (.iconst 2, 1) := by decide +kernel
theorem dX4_canGreet_31 : decode cX4_canGreet 31 = .ok (.invokevirtual 205, 3) := by decide +kernel
theorem dX4_canGreet_34 : decode cX4_canGreet 34 = .ok (.if_icmp .gt 7, 3) := by decide +kernel
theorem dX4_canGreet_37 : decode cX4_canGreet 37 = .ok (.iconst 1, 1) := by decide +kernel
theorem dX4_canGreet_38 : decode cX4_canGreet 38 = .ok (.goto 4, 3) := by decide +kernel
theorem dX4_canGreet_41 : decode cX4_canGreet 41 = .ok (.iconst 0, 1) := by decide +kernel
theorem dX4_canGreet_42 : decode cX4_canGreet 42 = .ok (.ireturn, 1) := by decide +kernel
theorem dX4_greets_0 : decode cX4_greets 0 = .ok (.iconst (-1), 1) := by decide +kernel
theorem dX4_greets_1 : decode cX4_greets 1 = .ok (.istore_n 2, 1) := by decide +kernel
theorem dX4_greets_2 : decode cX4_greets 2 = .ok (.iconst 0, 1) := by decide +kernel
theorem dX4_greets_3 : decode cX4_greets 3 = .ok (.istore_n 3, 1) := by decide +kernel
theorem dX4_greets_4 : decode cX4_greets 4 = .ok (.iload_n 3, 1) := by decide +kernel
theorem dX4_greets_5 : decode cX4_greets 5 = .ok (.aload_n 0, 1) := by decide +kernel
theorem dX4_greets_6 : decode cX4_greets 6 = .ok (.getfield 7, 3) := by decide +kernel
theorem dX4_greets_9 : decode cX4_greets 9 = .ok (.iconst 1, 1) := by decide +kernel
theorem dX4_greets_10 : decode cX4_greets 10 = .ok (.iaload, 1) := by decide +kernel
theorem dX4_greets_11 : decode cX4_greets 11 = .ok (.if_icmp .ge 56, 3) := by decide +kernel
theorem dX4_greets_14 : decode cX4_greets 14 = .ok (.aload_n 0, 1) := by decide +kernel
theorem dX4_greets_15 : decode cX4_greets 15 = .ok (.iload_n 1, 1) := by decide +kernel
theorem dX4_greets_16 : decode cX4_greets 16 = .ok (.aload_n 0, 1) := by decide +kernel
theorem dX4_greets_17 : decode cX4_greets 17 = .ok (.iload_n 3, 1) := by decide +kernel
theorem dX4_greets_18 : decode cX4_greets 18 = .ok (.iconst 0, 1) := by decide +kernel
theorem dX4_greets_19 : decode cX4_greets 19 = .ok (.invokevirtual 47, 3) := by decide +kernel
theorem dX4_greets_22 : decode cX4_greets 22 = .ok (.aload_n 0, 1) := by decide +kernel
theorem dX4_greets_23 : decode cX4_greets 23 = .ok (.iload_n 3, 1) := by decide +kernel
theorem dX4_greets_24 : decode cX4_greets 24 = .ok (.invokevirtual 75, 3) := by decide +kernel
theorem dX4_greets_27 : decode cX4_greets 27 = .ok (.invokevirtual 208, 3) := by decide +kernel
theorem dX4_greets_30 : decode cX4_greets 30 = .ok (.istore 4, 2) := by decide +kernel
theorem dX4_greets_32 : decode cX4_greets 32 = .ok (.iload 4, 2) := by decide +kernel
theorem dX4_greets_34 : decode cX4_greets 34 = .ok (.ifCond .eq 25, 3) := by decide +kernel
theorem dX4_greets_37 : decode cX4_greets 37 = .ok (.iload_n 2, 1) := by decide +kernel
theorem dX4_greets_38 : decode cX4_greets 38 = .ok (.iconst (-1), 1) := by decide +kernel
theorem dX4_greets_39 : decode cX4_greets 39 = .ok (.if_icmp .eq 16, 3) := by decide +kernel
theorem dX4_greets_42 : decode cX4_greets 42 = .ok (.aload_n 0, 1) := by decide +kernel
theorem dX4_greets_43 : decode cX4_greets 43 = .ok (.iload_n 3, 1) := by decide +kernel
theorem dX4_greets_44 : decode cX4_greets 44 = .ok (.invokevirtual 75, 3) := by decide +kernel
theorem dX4_greets_47 : decode cX4_greets 47 = .ok (.aload_n 0, 1) := by decide +kernel
theorem dX4_greets_48 : decode cX4_greets 48 = .ok (.iload_n 2, 1) := by decide +kernel
theorem dX4_greets_49 : decode cX4_greets 49 = .ok (.invokevirtual 75, 3) := by decide +kernel
theorem dX4_greets_52 : decode cX4_greets 52 = .ok (.if_icmp .ge 7, 3) := by decide +kernel
theorem dX4_greets_55 : decode cX4_greets 55 = .ok (.iload_n 3, 1) := by decide +kernel
theorem dX4_greets_56 : decode cX4_greets 56 = .ok (.goto 4, 3) := by decide +kernel
theorem dX4_greets_59 : decode cX4_greets 59 = .ok (.iload_n 2, 1) := by decide +kernel
theorem dX4_greets_60 : decode cX4_greets 60 = .ok (.istore_n 2, 1) := by decide +kernel
theorem dX4_greets_61 : decode cX4_greets 61 = .ok (.iinc 3 1, 3) := by decide +kernel
theorem dX4_greets_64 : decode cX4_greets 64 = .ok (.goto (-60), 3) := by decide +kernel
theorem dX4_greets_67 : decode cX4_greets 67 = .ok (.iload_n 2, 1) := by decide +kernel
theorem dX4_greets_68 : decode cX4_greets 68 = .ok (.ireturn, 1) := by decide +kernel
theorem dX4_aboutGuest_0 : decode cX4_aboutGuest 0 = .ok (.iload_n 2, 1) := by decide +kernel
theorem dX4_aboutGuest_1 : decode cX4_aboutGuest 1 = .ok (.iconst 3, 1) := by decide +kernel
theorem dX4_aboutGuest_2 : decode cX4_aboutGuest 2 = .ok (.if_icmp .ge 12, 3) := by decide +kernel
theorem dX4_aboutGuest_5 : decode cX4_aboutGuest 5 = .ok (.aload_n 0, 1) := by decide +kernel
theorem dX4_aboutGuest_6 : decode cX4_aboutGuest 6 = .ok (.iload_n 1, 1) := by decide +kernel
theorem dX4_aboutGuest_7 : decode cX4_aboutGuest 7 = .ok (.iload_n 2, 1) := by decide +kernel
theorem dX4_aboutGuest_8 : decode cX4_aboutGuest 8 = .ok (.invokevirtual 205, 3) := by decide +kernel
theorem dX4_aboutGuest_11 : decode cX4_aboutGuest 11 = .ok (.goto 8, 3) := by decide +kernel
theorem dX4_aboutGuest_14 : decode cX4_aboutGuest 14 = .ok (.aload_n 0, 1) := by decide +kernel
theorem dX4_aboutGuest_15 : decode cX4_aboutGuest 15 = .ok (.iload_n 1, 1) := by decide +kernel
theorem dX4_aboutGuest_16 : decode cX4_aboutGuest 16 = .ok (.invokevirtual 211, 3) := by decide +kernel
theorem dX4_aboutGuest_19 : decode cX4_aboutGuest 19 = .ok (.ireturn, 1) := by decide +kernel
theorem dX4_guestOf_0 : decode cX4_guestOf 0 = .ok (.aload_n 0, 1) := by decide +kernel
theorem dX4_guestOf_1 : decode cX4_guestOf 1 = .ok (.iconst 0, 1) := by decide +kernel
theorem dX4_guestOf_2 : decode cX4_guestOf 2 = .ok (.putfield 29, 3) := by decide +kernel
theorem dX4_guestOf_5 : decode cX4_guestOf 5 = .ok (.iload_n 1, 1) := by decide +kernel
theorem dX4_guestOf_6 : decode cX4_guestOf 6 = .ok (.iconst 0, 1) := by decide +kernel
theorem dX4_guestOf_7 : decode cX4_guestOf 7 = .ok (.aload_n 0, 1) := by decide +kernel
theorem dX4_guestOf_8 : decode cX4_guestOf 8 = .ok (.getfield 7, 3) := by decide +kernel
theorem dX4_guestOf_11 : decode cX4_guestOf 11 = .ok (.iconst 2, 1) := by decide +kernel
theorem dX4_guestOf_12 : decode cX4_guestOf 12 = .ok (.iaload, 1) := by decide +kernel
theorem dX4_guestOf_13 : decode cX4_guestOf 13 = .ok (.iconst 1, 1) := by decide +kernel
theorem dX4_guestOf_14 : decode cX4_guestOf 14 = .ok (.isub, 1) := by decide +kernel
theorem dX4_guestOf_15 : decode cX4_guestOf 15 = .ok (.invokestatic 88, 3) := by decide +kernel
theorem dX4_guestOf_18 : decode cX4_guestOf 18 = .ok (.ifCond .ne 9, 3) := by decide +kernel
theorem dX4_guestOf_21 : decode cX4_guestOf 21 = .ok (.aload_n 0, 1) := by decide +kernel
theorem dX4_guestOf_22 : decode cX4_guestOf 22 = .ok (.iconst 1, 1) := by decide +kernel
theorem dX4_guestOf_23 : decode cX4_guestOf 23 = .ok (.invokevirtual 92, 3) := by decide +kernel
theorem dX4_guestOf_26 : decode cX4_guestOf 26 = .ok (.ireturn, 1) := by decide +kernel
theorem dX4_guestOf_27 : decode cX4_guestOf 27 = .ok (.iload_n 2, 1) := by decide +kernel
theorem dX4_guestOf_28 : decode cX4_guestOf 28 = .ok (.iconst 0, 1) := by decide +kernel
theorem dX4_guestOf_29 : decode cX4_guestOf 29 = .ok (.iconst 3, 1) := by decide +kernel
theorem dX4_guestOf_30 : decode cX4_guestOf 30 = .ok (.invokestatic 88, 3) := by decide +kernel
theorem dX4_guestOf_33 : decode cX4_guestOf 33 = .ok (.ifCond .eq 12, 3) := by decide +kernel
theorem dX4_guestOf_36 : decode cX4_guestOf 36 = .ok (.aload_n 0, 1) := by decide +kernel
theorem dX4_guestOf_37 : decode cX4_guestOf 37 = .ok (.iload_n 1, 1) := by decide +kernel
theorem dX4_guestOf_38 : decode cX4_guestOf 38 = .ok (.iload_n 2, 1) := by decide +kernel
theorem dX4_guestOf_39 : decode cX4_guestOf 39 = .ok (.invokevirtual 214, 3) := by decide +kernel
theorem dX4_guestOf_42 : decode cX4_guestOf 42 = .ok (.goto 8, 3) := by decide +kernel
theorem dX4_guestOf_45 : decode cX4_guestOf 45 = .ok (.aload_n 0, 1) := by decide +kernel
theorem dX4_guestOf_46 : decode cX4_guestOf 46 = .ok (.iconst 2, 1) := by decide +kernel
theorem dX4_guestOf_47 : decode cX4_guestOf 47 = .ok (.invokevirtual 92, 3) := by decide +kernel
theorem dX4_guestOf_50 : decode cX4_guestOf 50 = .ok (.ireturn, 1) := by decide +kernel
theorem dX4_seen_0 : decode cX4_seen 0 = .ok (.iconst 0, 1) := by decide +kernel
theorem dX4_seen_1 : decode cX4_seen 1 = .ok (.istore_n 2, 1) := by decide +kernel
theorem dX4_seen_2 : decode cX4_seen 2 = .ok (.iconst 0, 1) := by decide +kernel

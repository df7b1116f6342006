theorem dX4_seen_3 : decode cX4_seen 3 = .ok (.istore_n 3, 1) := by decide +kernel
theorem dX4_seen_4 : decode cX4_seen 4 = .ok (.iload_n 3, 1) := by decide +kernel
theorem dX4_seen_5 : decode cX4_seen 5 = .ok (.aload_n 0, 1) := by decide +kernel
theorem dX4_seen_6 : decode cX4_seen 6 = .ok (.getfield 7, 3) := by decide +kernel
theorem dX4_seen_9 : decode cX4_seen 9 = .ok (.iconst 0, 1) := by decide +kernel
theorem dX4_seen_10 : decode cX4_seen 10 = .ok (.iaload, 1) := by decide +kernel
theorem dX4_seen_11 : decode cX4_seen 11 = .ok (.if_icmp .ge 28, 3) := by decide +kernel
theorem dX4_seen_14 : decode cX4_seen 14 = .ok (.iload_n 2, 1) := by decide +kernel
theorem dX4_seen_15 : decode cX4_seen 15 = .ok (.aload_n 0, 1) := by decide +kernel
theorem dX4_seen_16 : decode cX4_seen 16 = .ok (.iload_n 1, 1) := by decide +kernel
theorem dX4_seen_17 : decode cX4_seen 17 = .ok (.iload_n 3, 1) := by decide +kernel
theorem dX4_seen_18 : decode cX4_seen 18 = .ok (.invokevirtual 134, 3) := by decide +kernel
theorem dX4_seen_21 : decode cX4_seen 21 = .ok (.ifCond .eq 9, 3) := by decide +kernel
theorem dX4_seen_24 : decode cX4_seen 24 = .ok (.iconst 1, 1) := by decide +kernel
theorem dX4_seen_25 : decode cX4_seen 25 = .ok (.iload_n 3, 1) := by decide +kernel
theorem dX4_seen_26 : decode cX4_seen 26 = .ok (.ishl, 1) := by decide +kernel
theorem dX4_seen_27 : decode cX4_seen 27 = .ok (.goto 4, 3) := by decide +kernel
theorem dX4_seen_30 : decode cX4_seen 30 = .ok (.iconst 0, 1) := by decide +kernel
theorem dX4_seen_31 : decode cX4_seen 31 = .ok (.ior, 1) := by decide +kernel
theorem dX4_seen_32 : decode cX4_seen 32 = .ok (.istore_n 2, 1) := by decide +kernel
theorem dX4_seen_33 : decode cX4_seen 33 = .ok (.iinc 3 1, 3) := by decide +kernel
theorem dX4_seen_36 : decode cX4_seen 36 = .ok (.goto (-32), 3) := by decide +kernel
theorem dX4_seen_39 : decode cX4_seen 39 = .ok (.iload_n 2, 1) := by decide +kernel
theorem dX4_seen_40 : decode cX4_seen 40 = .ok (.ireturn, 1) := by decide +kernel
theorem dX4_given_0 : decode cX4_given 0 = .ok (.iconst 0, 1) := by decide +kernel
theorem dX4_given_1 : decode cX4_given 1 = .ok (.istore_n 2, 1) := by decide +kernel
theorem dX4_given_2 : decode cX4_given 2 = .ok (.iconst 0, 1) := by decide +kernel
theorem dX4_given_3 : decode cX4_given 3 = .ok (.istore_n 3, 1) := by decide +kernel
theorem dX4_given_4 : decode cX4_given 4 = .ok (.iload_n 3, 1) := by decide +kernel
theorem dX4_given_5 : decode cX4_given 5 = .ok (.aload_n 0, 1) := by decide +kernel
theorem dX4_given_6 : decode cX4_given 6 = .ok (.getfield 7, 3) := by decide +kernel
theorem dX4_given_9 : decode cX4_given 9 = .ok (.iconst 0, 1) := by decide +kernel
theorem dX4_given_10 : decode cX4_given 10 = .ok (.iaload, 1) := by decide +kernel
theorem dX4_given_11 : decode cX4_given 11 = .ok (.if_icmp .ge 39, 3) := by decide +kernel
theorem dX4_given_14 : decode cX4_given 14 = .ok (.iload_n 2, 1) := by decide +kernel
theorem dX4_given_15 : decode cX4_given 15 = .ok (.aload_n 0, 1) := by decide +kernel
theorem dX4_given_16 : decode cX4_given 16 = .ok (.iload_n 1, 1) := by decide +kernel
theorem dX4_given_17 : decode cX4_given 17 = .ok (.iload_n 3, 1) := by decide +kernel
theorem dX4_given_18 : decode cX4_given 18 = .ok (.invokevirtual 134, 3) := by decide +kernel
theorem dX4_given_21 : decode cX4_given 21 = .ok (.ifCond .eq 20, 3) := by decide +kernel
theorem dX4_given_24 : decode cX4_given 24 = .ok (.aload_n 0, 1) := by decide +kernel
theorem dX4_given_25 : decode cX4_given 25 = .ok (.getfield 7, 3) := by decide +kernel
theorem dX4_given_28 : decode cX4_given 28 = .ok (.bipush 104, 2) := by decide +kernel
theorem dX4_given_30 : decode cX4_given 30 = .ok (.bipush 8, 2) := by decide +kernel
theorem dX4_given_32 : decode cX4_given 32 = .ok (.iload_n 1, 1) := by decide +kernel
theorem dX4_given_33 : decode cX4_given 33 = .ok (.imul, 1) := by decide +kernel
theorem dX4_given_34 : decode cX4_given 34 = .ok (.iadd, 1) := by decide +kernel
theorem dX4_given_35 : decode cX4_given 35 = .ok (.iload_n 3, 1) := by decide +kernel
theorem dX4_given_36 : decode cX4_given 36 = .ok (.iadd, 1) := by decide +kernel
theorem dX4_given_37 : decode cX4_given 37 = .ok (.iaload, 1) := by decide +kernel
theorem dX4_given_38 : decode cX4_given 38 = .ok (.goto 4, 3) := by decide +kernel
theorem dX4_given_41 : decode cX4_given 41 = .ok (.iconst 0, 1) := by decide +kernel
theorem dX4_given_42 : decode cX4_given 42 = .ok (.iadd, 1) := by decide +kernel
theorem dX4_given_43 : decode cX4_given 43 = .ok (.istore_n 2, 1) := by decide +kernel
theorem dX4_given_44 : decode cX4_given 44 = .ok (.iinc 3 1, 3) := by decide +kernel
theorem dX4_given_47 : decode cX4_given 47 = .ok (.goto (-43), 3) := by decide +kernel
theorem dX4_given_50 : decode cX4_given 50 = .ok (.iload_n 2, 1) := by decide +kernel
theorem dX4_given_51 : decode cX4_given 51 = .ok (.ireturn, 1) := by decide +kernel
theorem dX4_aboutJuror_0 : decode cX4_aboutJuror 0 = .ok (.iload_n 2, 1) := by decide +kernel
theorem dX4_aboutJuror_1 : decode cX4_aboutJuror 1 = .ok (.ifCond .ne 11, 3) := by decide +kernel
theorem dX4_aboutJuror_4 : decode cX4_aboutJuror 4 = .ok (.aload_n 0, 1) := by decide +kernel
theorem dX4_aboutJuror_5 : decode cX4_aboutJuror 5 = .ok (.iload_n 1, 1) := by decide +kernel
theorem dX4_aboutJuror_6 : decode cX4_aboutJuror 6 = .ok (.invokevirtual 131, 3) := by decide +kernel
theorem dX4_aboutJuror_9 : decode cX4_aboutJuror 9 = .ok (.goto 21, 3) := by decide +kernel
theorem dX4_aboutJuror_12 : decode cX4_aboutJuror 12 = .ok (.iload_n 2, 1) := by decide +kernel
theorem dX4_aboutJuror_13 : decode cX4_aboutJuror 13 = .ok (.iconst 1, 1) := by decide +kernel
theorem dX4_aboutJuror_14 : decode cX4_aboutJuror 14 = .ok (.if_icmp .ne 11, 3) := by decide +kernel
theorem dX4_aboutJuror_17 : decode cX4_aboutJuror 17 = .ok (.aload_n 0, 1) := by decide +kernel
theorem dX4_aboutJuror_18 : decode cX4_aboutJuror 18 = .ok (.iload_n 1, 1) := by decide +kernel
theorem dX4_aboutJuror_19 : decode cX4_aboutJuror 19 = .ok (.invokevirtual 217, 3) := by decide +kernel
theorem dX4_aboutJuror_22 : decode cX4_aboutJuror 22 = .ok (.goto 8, 3) := by decide +kernel
theorem dX4_aboutJuror_25 : decode cX4_aboutJuror 25 = .ok (.aload_n 0, 1) := by decide +kernel
theorem dX4_aboutJuror_26 : decode cX4_aboutJuror 26 = .ok (.iload_n 1, 1) := by decide +kernel
theorem dX4_aboutJuror_27 : decode cX4_aboutJuror 27 = .ok (.invokevirtual 220, 3) := by decide +kernel
theorem dX4_aboutJuror_30 : decode cX4_aboutJuror 30 = .ok (.ireturn, 1) := by decide +kernel
theorem dX4_juror_0 : decode cX4_juror 0 = .ok (.aload_n 0, 1) := by decide +kernel
theorem dX4_juror_1 : decode cX4_juror 1 = .ok (.iconst 0, 1) := by decide +kernel
theorem dX4_juror_2 : decode cX4_juror 2 = .ok (.putfield 29, 3) := by decide +kernel
theorem dX4_juror_5 : decode cX4_juror 5 = .ok (.iload_n 1, 1) := by decide +kernel
theorem dX4_juror_6 : decode cX4_juror 6 = .ok (.invokestatic 128, 3) := by decide +kernel
theorem dX4_juror_9 : decode cX4_juror 9 = .ok (.ifCond .ne 9, 3) := by decide +kernel
theorem dX4_juror_12 : decode cX4_juror 12 = .ok (.aload_n 0, 1) := by decide +kernel
theorem dX4_juror_13 : decode cX4_juror 13 = .ok (.iconst 1, 1) := by decide +kernel
theorem dX4_juror_14 : decode cX4_juror 14 = .ok (.invokevirtual 92, 3) := by decide +kernel
theorem dX4_juror_17 : decode cX4_juror 17 = .ok (.ireturn, 1) := by decide +kernel
theorem dX4_juror_18 : decode cX4_juror 18 = .ok (.iload_n 2, 1) := by decide +kernel
theorem dX4_juror_19 : decode cX4_juror 19 = .ok (.iconst 0, 1) := by decide +kernel
theorem dX4_juror_20 : decode cX4_juror 20 = .ok (.iconst 2, 1) := by decide +kernel
theorem dX4_juror_21 : decode cX4_juror 21 = .ok (.invokestatic 88, 3) := by decide +kernel
theorem dX4_juror_24 : decode cX4_juror 24 = .ok (.ifCond .eq 12, 3) := by decide +kernel
theorem dX4_juror_27 : decode cX4_juror 27 = .ok (.aload_n 0, 1) := by decide +kernel
theorem dX4_juror_28 : decode cX4_juror 28 = .ok (.iload_n 1, 1) := by decide +kernel
theorem dX4_juror_29 : decode cX4_juror 29 = .ok (.iload_n 2, 1) := by decide +kernel
theorem dX4_juror_30 : decode cX4_juror 30 = .ok (.invokevirtual 223, 3) := by decide +kernel
theorem dX4_juror_33 : decode cX4_juror 33 = .ok (.goto 8, 3) := by decide +kernel
theorem dX4_juror_36 : decode cX4_juror 36 = .ok (.aload_n 0, 1) := by decide +kernel
theorem dX4_juror_37 : decode cX4_juror 37 = .ok (.iconst 2, 1) := by decide +kernel
theorem dX4_juror_38 : decode cX4_juror 38 = .ok (.invokevirtual 92, 3) := by decide +kernel
theorem dX4_juror_41 : decode cX4_juror 41 = .ok (.ireturn, 1) := by decide +kernel
theorem dX4_greeting_0 : decode cX4_greeting 0 = .ok (.iconst 0, 1) := by decide +kernel
theorem dX4_greeting_1 : decode cX4_greeting 1 = .ok (.istore_n 1, 1) := by decide +kernel
theorem dX4_greeting_2 : decode cX4_greeting 2 = .ok (.iconst 0, 1) := by decide +kernel
theorem dX4_greeting_3 : decode cX4_greeting 3 = .ok (.istore_n 2, 1) := by decide +kernel
theorem dX4_greeting_4 : decode cX4_greeting 4 = .ok (.iload_n 2, 1) := by decide +kernel
theorem dX4_greeting_5 : decode cX4_greeting 5 = .ok (.aload_n 0, 1) := by decide +kernel
theorem dX4_greeting_6 : decode cX4_greeting 6 = .ok (.getfield 7, 3) := by decide +kernel
theorem dX4_greeting_9 : decode cX4_greeting 9 = .ok (.iconst 2, 1) := by decide +kernel
theorem dX4_greeting_10 : decode cX4_greeting 10 = .ok (.iaload, 1) := by decide +kernel
theorem dX4_greeting_11 : decode cX4_greeting 11 = .ok (.if_icmp .ge 26, 3) := by decide +kernel
theorem dX4_greeting_14 : decode cX4_greeting 14 = .ok (.iload_n 1, 1) := by decide +kernel
theorem dX4_greeting_15 : decode cX4_greeting 15 = .ok (.aload_n 0, 1) := by decide +kernel
theorem dX4_greeting_16 : decode cX4_greeting 16 = .ok (.iload_n 2, 1) := by decide +kernel
theorem dX4_greeting_17 : decode cX4_greeting 17 = .ok (.invokevirtual 211, 3) := by decide +kernel
theorem dX4_greeting_20 : decode cX4_greeting 20 = .ok (.iconst (-1), 1) := by decide +kernel
theorem dX4_greeting_21 : decode cX4_greeting 21 = .ok (.if_icmp .ne 7, 3) := by decide +kernel
theorem dX4_greeting_24 : decode cX4_greeting 24 = .ok (.iconst 0, 1) := by decide +kernel
theorem dX4_greeting_25 : decode cX4_greeting 25 = .ok (.goto 4, 3) := by decide +kernel
theorem dX4_greeting_28 : decode cX4_greeting 28 = .ok (.iconst 1, 1) := by decide +kernel
theorem dX4_greeting_29 : decode cX4_greeting 29 = .ok (.iadd, 1) := by decide +kernel
theorem dX4_greeting_30 : decode cX4_greeting 30 = .ok (.istore_n 1, 1) := by decide +kernel
theorem dX4_greeting_31 : decode cX4_greeting 31 = .ok (.iinc 2 1, 3) := by decide +kernel
theorem dX4_greeting_34 : decode cX4_greeting 34 = .ok (.goto (-30), 3) := by decide +kernel
theorem dX4_greeting_37 : decode cX4_greeting 37 = .ok (.iload_n 1, 1) := by decide +kernel
theorem dX4_greeting_38 : decode cX4_greeting 38 = .ok (.ireturn, 1) := by decide +kernel
theorem dX4_prize_0 : decode cX4_prize 0 = .ok (.iconst (-1), 1) := by decide +kernel
theorem dX4_prize_1 : decode cX4_prize 1 = .ok (.istore_n 1, 1) := by decide +kernel
theorem dX4_prize_2 : decode cX4_prize 2 = .ok (.iconst 0, 1) := by decide +kernel
theorem dX4_prize_3 : decode cX4_prize 3 = .ok (.istore_n 2, 1) := by decide +kernel
theorem dX4_prize_4 : decode cX4_prize 4 = .ok (.iload_n 2, 1) := by decide +kernel
theorem dX4_prize_5 : decode cX4_prize 5 = .ok (.aload_n 0, 1) := by decide +kernel
theorem dX4_prize_6 : decode cX4_prize 6 = .ok (.getfield 7, 3) := by decide +kernel
theorem dX4_prize_9 : decode cX4_prize 9 = .ok (.iconst 0, 1) := by decide +kernel
theorem dX4_prize_10 : decode cX4_prize 10 = .ok (.iaload, 1) := by decide +kernel
theorem dX4_prize_11 : decode cX4_prize 11 = .ok (.if_icmp .ge 55, 3) := by decide +kernel
theorem dX4_prize_14 : decode cX4_prize 14 = .ok (.aload_n 0, 1) := by decide +kernel
theorem dX4_prize_15 : decode cX4_prize 15 = .ok (.iload_n 2, 1) := by decide +kernel
theorem dX4_prize_16 : decode cX4_prize 16 = .ok (.invokevirtual 175, 3) := by decide +kernel
theorem dX4_prize_19 : decode cX4_prize 19 = .ok (.invokestatic 118, 3) := by decide +kernel
theorem dX4_prize_22 : decode cX4_prize 22 = .ok (.iconst 1, 1) := by decide +kernel
theorem dX4_prize_23 : decode cX4_prize 23 = .ok (.if_icmp .le 7, 3) := by decide +kernel
theorem dX4_prize_26 : decode cX4_prize 26 = .ok (.iconst 1, 1) := by decide +kernel
theorem dX4_prize_27 : decode cX4_prize 27 = .ok (.goto 4, 3) := by decide +kernel
theorem dX4_prize_30 : decode cX4_prize 30 = .ok (.iconst 0, 1) := by decide +kernel
theorem dX4_prize_31 : decode cX4_prize 31 = .ok (.istore_n 3, 1) := by decide +kernel
theorem dX4_prize_32 : decode cX4_prize 32 = .ok (.iload_n 3, 1) := by decide +kernel
theorem dX4_prize_33 : decode cX4_prize 33 = .ok (.ifCond .eq 25, 3) := by decide +kernel
theorem dX4_prize_36 : decode cX4_prize 36 = .ok (.iload_n 1, 1) := by decide +kernel
theorem dX4_prize_37 : decode cX4_prize 37 = .ok (.iconst (-1), 1) := by decide +kernel
theorem dX4_prize_38 : decode cX4_prize 38 = .ok (.if_icmp .eq 16, 3) := by decide +kernel
theorem dX4_prize_41 : decode cX4_prize 41 = .ok (.aload_n 0, 1) := by decide +kernel
theorem dX4_prize_42 : decode cX4_prize 42 = .ok (.iload_n 2, 1) := by decide +kernel
theorem dX4_prize_43 : decode cX4_prize 43 = .ok (.invokevirtual 178, 3) := by decide +kernel
theorem dX4_prize_46 : decode cX4_prize 46 = .ok (.aload_n 0, 1) := by decide +kernel
theorem dX4_prize_47 : decode cX4_prize 47 = .ok (.iload_n 1, 1) := by decide +kernel
theorem dX4_prize_48 : decode cX4_prize 48 = .ok (.invokevirtual 178, 3) := by decide +kernel
theorem dX4_prize_51 : decode cX4_prize 51 = .ok (.if_icmp .le 7, 3) := by decide +kernel
theorem dX4_prize_54 : decode cX4_prize 54 = .ok (.iload_n 2, 1) := by decide +kernel
theorem dX4_prize_55 : decode cX4_prize 55 = .ok (.goto 4, 3) := by decide +kernel
theorem dX4_prize_58 : decode cX4_prize 58 = .ok (.iload_n 1, 1) := by decide +kernel
theorem dX4_prize_59 : decode cX4_prize 59 = .ok (.istore_n 1, 1) := by decide +kernel
theorem dX4_prize_60 : decode cX4_prize 60 = .ok (.iinc 2 1, 3) := by decide +kernel
theorem dX4_prize_63 : decode cX4_prize 63 = .ok (.goto (-59), 3) := by decide +kernel
theorem dX4_prize_66 : decode cX4_prize 66 = .ok (.iload_n 1, 1) := by decide +kernel
theorem dX4_prize_67 : decode cX4_prize 67 = .ok (.ireturn, 1) := by decide +kernel
theorem dX4_counted_0 : decode cX4_counted 0 = .ok (.iload_n 1, 1) := by decide +kernel
theorem dX4_counted_1 : decode cX4_counted 1 = .ok (.tableswitch 102 0 11 #[63, 63, 63, 72, 77, 83, 92, 102, 102, 102, 102, 97], 63) := by decide +kernel
theorem dX4_counted_64 : decode cX4_counted 64 = .ok (.aload_n 0, 1) := by decide +kernel
theorem dX4_counted_65 : decode cX4_counted 65 = .ok (.getfield 7, 3) := by decide +kernel
theorem dX4_counted_68 : decode cX4_counted 68 = .ok (.iconst 0, 1) := by decide +kernel
theorem dX4_counted_69 : decode cX4_counted 69 = .ok (.iload_n 1, 1) := by decide +kernel
theorem dX4_counted_70 : decode cX4_counted 70 = .ok (.iadd, 1) := by decide +kernel
theorem dX4_counted_71 : decode cX4_counted 71 = .ok (.iaload, 1) := by decide +kernel
theorem dX4_counted_72 : decode cX4_counted 72 = .ok (.ireturn, 1) := by decide +kernel
theorem dX4_counted_73 : decode cX4_counted 73 = .ok (.aload_n 0, 1) := by decide +kernel
theorem dX4_counted_74 : decode cX4_counted 74 = .ok (.invokevirtual 226, 3) := by decide +kernel
theorem dX4_counted_77 : decode cX4_counted 77 = .ok (.ireturn, 1) := by decide +kernel
theorem dX4_counted_78 : decode cX4_counted 78 = .ok (.aload_n 0, 1) := by decide +kernel
theorem dX4_counted_79 : decode cX4_counted 79 = .ok (.iconst (-1), 1) := by decide +kernel
theorem dX4_counted_80 : decode cX4_counted 80 = .ok (.invokevirtual 172, 3) := by decide +kernel
theorem dX4_counted_83 : decode cX4_counted 83 = .ok (.ireturn, 1) := by decide +kernel
theorem dX4_counted_84 : decode cX4_counted 84 = .ok (.aload_n 0, 1) := by decide +kernel
theorem dX4_counted_85 : decode cX4_counted 85 = .ok (.getfield 7, 3) := by decide +kernel
theorem dX4_counted_88 : decode cX4_counted 88 = .ok (.sipush 128, 3) := by decide +kernel
theorem dX4_counted_91 : decode cX4_counted 91 = .ok (.iaload, 1) := by decide +kernel
theorem dX4_counted_92 : decode cX4_counted 92 = .ok (.ireturn, 1) := by decide +kernel
theorem dX4_counted_93 : decode cX4_counted 93 = .ok (.aload_n 0, 1) := by decide +kernel
theorem dX4_counted_94 : decode cX4_counted 94 = .ok (.invokevirtual 230, 3) := by decide +kernel
theorem dX4_counted_97 : decode cX4_counted 97 = .ok (.ireturn, 1) := by decide +kernel
theorem dX4_counted_98 : decode cX4_counted 98 = .ok (.aload_n 0, 1) := by decide +kernel
theorem dX4_counted_99 : decode cX4_counted 99 = .ok (.getfield 33, 3) := by decide +kernel
theorem dX4_counted_102 : decode cX4_counted 102 = .ok (.ireturn, 1) := by decide +kernel
theorem dX4_counted_103 : decode cX4_counted 103 = .ok (.aload_n 0, 1) := by decide +kernel
theorem dX4_counted_104 : decode cX4_counted 104 = .ok (.getfield 7, 3) := by decide +kernel
theorem dX4_counted_107 : decode cX4_counted 107 = .ok (.iconst 3, 1) := by decide +kernel
theorem dX4_counted_108 : decode cX4_counted 108 = .ok (.iload_n 1, 1) := by decide +kernel
theorem dX4_counted_109 : decode cX4_counted 109 = .ok (.iadd, 1) := by decide +kernel
theorem dX4_counted_110 : decode cX4_counted 110 = .ok (.bipush 7, 2) := by decide +kernel
theorem dX4_counted_112 : decode cX4_counted 112 = .ok (.isub, 1) := by decide +kernel
theorem dX4_counted_113 : decode cX4_counted 113 = .ok (.iaload, 1) := by decide +kernel
theorem dX4_counted_114 : decode cX4_counted 114 = .ok (.ireturn, 1) := by decide +kernel
theorem dX4_count_0 : decode cX4_count 0 = .ok (.aload_n 0, 1) := by decide +kernel
theorem dX4_count_1 : decode cX4_count 1 = .ok (.iconst 0, 1) := by decide +kernel
theorem dX4_count_2 : decode cX4_count 2 = .ok (.putfield 29, 3) := by decide +kernel
theorem dX4_count_5 : decode cX4_count 5 = .ok (.iload_n 1, 1) := by decide +kernel
theorem dX4_count_6 : decode cX4_count 6 = .ok (.iconst 0, 1) := by decide +kernel
theorem dX4_count_7 : decode cX4_count 7 = .ok (.bipush 11, 2) := by decide +kernel
theorem dX4_count_9 : decode cX4_count 9 = .ok (.invokestatic 88, 3) := by decide +kernel
theorem dX4_count_12 : decode cX4_count 12 = .ok (.ifCond .eq 11, 3) := by decide +kernel
theorem dX4_count_15 : decode cX4_count 15 = .ok (.aload_n 0, 1) := by decide +kernel
theorem dX4_count_16 : decode cX4_count 16 = .ok (.iload_n 1, 1) := by decide +kernel
theorem dX4_count_17 : decode cX4_count 17 = .ok (.invokevirtual 233, 3) := by decide +kernel
theorem dX4_count_20 : decode cX4_count 20 = .ok (.goto 8, 3) := by decide +kernel
theorem dX4_count_23 : decode cX4_count 23 = .ok (.aload_n 0, 1) := by decide +kernel
theorem dX4_count_24 : decode cX4_count 24 = .ok (.iconst 1, 1) := by decide +kernel
theorem dX4_count_25 : decode cX4_count 25 = .ok (.invokevirtual 92, 3) := by decide +kernel
theorem dX4_count_28 : decode cX4_count 28 = .ok (.ireturn, 1) := by decide +kernel
theorem dX4_whyNot_0 : decode cX4_whyNot 0 = .ok (.aload_n 0, 1) := by decide +kernel
theorem dX4_whyNot_1 : decode cX4_whyNot 1 = .ok (.iconst 0, 1) := by decide +kernel
theorem dX4_whyNot_2 : decode cX4_whyNot 2 = .ok (.putfield 29, 3) := by decide +kernel
theorem dX4_whyNot_5 : decode cX4_whyNot 5 = .ok (.aload_n 0, 1) := by decide +kernel
theorem dX4_whyNot_6 : decode cX4_whyNot 6 = .ok (.iload_n 1, 1) := by decide +kernel
theorem dX4_whyNot_7 : decode cX4_whyNot 7 = .ok (.invokevirtual 102, 3) := by decide +kernel
theorem dX4_whyNot_10 : decode cX4_whyNot 10 = .ok (.ifCond .eq 10, 3) := by decide +kernel
theorem dX4_whyNot_13 : decode cX4_whyNot 13 = .ok (.iload_n 2, 1) := by decide +kernel
theorem dX4_whyNot_14 : decode cX4_whyNot 14 = .ok (.invokestatic 98, 3) := by decide +kernel
theorem dX4_whyNot_17 : decode cX4_whyNot 17 = .ok (.ifCond .ne 9, 3) := by decide +kernel
theorem dX4_whyNot_20 : decode cX4_whyNot 20 = .ok (.aload_n 0, 1) := by decide +kernel
theorem dX4_whyNot_21 : decode cX4_whyNot 21 = .ok (.iconst 1, 1) := by decide +kernel
theorem dX4_whyNot_22 : decode cX4_whyNot 22 = .ok (.invokevirtual 92, 3) := by decide +kernel
theorem dX4_whyNot_25 : decode cX4_whyNot 25 = .ok (.ireturn, 1) := by decide +kernel
theorem dX4_whyNot_26 : decode cX4_whyNot 26 = .ok (.iload_n 3, 1) := by decide +kernel
theorem dX4_whyNot_27 : decode cX4_whyNot 27 = .ok (.invokestatic 105, 3) := by decide +kernel
theorem dX4_whyNot_30 : decode cX4_whyNot 30 = .ok (.ifCond .eq 24, 3) := by decide +kernel
theorem dX4_whyNot_33 : decode cX4_whyNot 33 = .ok (.iload 4, 2) := by decide +kernel
theorem dX4_whyNot_35 : decode cX4_whyNot 35 = .ok (.iconst 0, 1) := by decide +kernel
theorem dX4_whyNot_36 : decode cX4_whyNot 36 = .ok (.bipush 20, 2) := by decide +kernel
theorem dX4_whyNot_38 : decode cX4_whyNot 38 = .ok (.invokestatic 88, 3) := by decide +kernel
theorem dX4_whyNot_41 : decode cX4_whyNot 41 = .ok (.ifCond .eq 13, 3) := by decide +kernel
theorem dX4_whyNot_44 : decode cX4_whyNot 44 = .ok (.iload 5, 2) := by decide +kernel
theorem dX4_whyNot_46 : decode cX4_whyNot 46 = .ok (.iconst 0, 1) := by decide +kernel
theorem dX4_whyNot_47 : decode cX4_whyNot 47 = .ok (.iconst 2, 1) := by decide +kernel
theorem dX4_whyNot_48 : decode cX4_whyNot 48 = .ok (.invokestatic 88, 3) := by decide +kernel
theorem dX4_whyNot_51 : decode cX4_whyNot 51 = .ok (.ifCond .ne 9, 3) := by decide +kernel
theorem dX4_whyNot_54 : decode cX4_whyNot 54 = .ok (.aload_n 0, 1) := by decide +kernel
theorem dX4_whyNot_55 : decode cX4_whyNot 55 = .ok (.iconst 2, 1) := by decide +kernel
theorem dX4_whyNot_56 : decode cX4_whyNot 56 = .ok (.invokevirtual 92, 3) := by decide +kernel
theorem dX4_whyNot_59 : decode cX4_whyNot 59 = .ok (.ireturn, 1) := by decide +kernel
theorem dX4_whyNot_60 : decode cX4_whyNot 60 = .ok (.aload_n 0, 1) := by decide +kernel
theorem dX4_whyNot_61 : decode cX4_whyNot 61 = .ok (.iload_n 1, 1) := by decide +kernel
theorem dX4_whyNot_62 : decode cX4_whyNot 62 = .ok (.iload_n 2, 1) := by decide +kernel
theorem dX4_whyNot_63 : decode cX4_whyNot 63 = .ok (.iload_n 3, 1) := by decide +kernel
theorem dX4_whyNot_64 : decode cX4_whyNot 64 = .ok (.iload 4, 2) := by decide +kernel
theorem dX4_whyNot_66 : decode cX4_whyNot 66 = .ok (.invokevirtual 108, 3) := by decide +kernel
theorem dX4_whyNot_69 : decode cX4_whyNot 69 = .ok (.istore 6, 2) := by decide +kernel
theorem dX4_whyNot_71 : decode cX4_whyNot 71 = .ok (.iload 5, 2) := by decide +kernel
theorem dX4_whyNot_73 : decode cX4_whyNot 73 = .ok (.ifCond .ne 8, 3) := by decide +kernel
theorem dX4_whyNot_76 : decode cX4_whyNot 76 = .ok (.iload 6, 2) := by decide +kernel
theorem dX4_whyNot_78 : decode cX4_whyNot 78 = .ok (.goto 20, 3) := by decide +kernel
theorem dX4_whyNot_81 : decode cX4_whyNot 81 = .ok (.iload 5, 2) := by decide +kernel
theorem dX4_whyNot_83 : decode cX4_whyNot 83 = .ok (.iconst 1, 1) := by decide +kernel
theorem dX4_whyNot_84 : decode cX4_whyNot 84 = .ok (.if_icmp .ne 10, 3) := by decide +kernel
theorem dX4_whyNot_87 : decode cX4_whyNot 87 = .ok (.aload_n 0, 1) := by decide +kernel
theorem dX4_whyNot_88 : decode cX4_whyNot 88 = .ok (.getfield 58, 3) := by decide +kernel
theorem dX4_whyNot_91 : decode cX4_whyNot 91 = .ok (.goto 7, 3) := by decide +kernel
theorem dX4_whyNot_94 : decode cX4_whyNot 94 = .ok (.aload_n 0, 1) := by decide +kernel
theorem dX4_whyNot_95 : decode cX4_whyNot 95 = .ok (.getfield 61, 3) := by decide +kernel
theorem dX4_whyNot_98 : decode cX4_whyNot 98 = .ok (.ireturn, 1) := by decide +kernel
theorem dX4_next_0 : decode cX4_next 0 = .ok (.iload_n 3, 1) := by decide +kernel
theorem dX4_next_1 : decode cX4_next 1 = .ok (.istore 4, 2) := by decide +kernel
theorem dX4_next_3 : decode cX4_next 3 = .ok (.iload 4, 2) := by decide +kernel
theorem dX4_next_5 : decode cX4_next 5 = .ok (.sipush 2000, 3) := by decide +kernel
theorem dX4_next_8 : decode cX4_next 8 = .ok (.if_icmp .ge 24, 3) := by decide +kernel
theorem dX4_next_11 : decode cX4_next 11 = .ok (.aload_n 0, 1) := by decide +kernel
theorem dX4_next_12 : decode cX4_next 12 = .ok (.iload_n 1, 1) := by decide +kernel
theorem dX4_next_13 : decode cX4_next 13 = .ok (.iload_n 2, 1) := by decide +kernel
theorem dX4_next_14 : decode cX4_next 14 = .ok (.iload 4, 2) := by decide +kernel
theorem dX4_next_16 : decode cX4_next 16 = .ok (.iconst 0, 1) := by decide +kernel
theorem dX4_next_17 : decode cX4_next 17 = .ok (.invokevirtual 108, 3) := by decide +kernel
theorem dX4_next_20 : decode cX4_next 20 = .ok (.ifCond .ne 6, 3) := by decide +kernel
theorem dX4_next_23 : decode cX4_next 23 = .ok (.iload 4, 2) := by decide +kernel
theorem dX4_next_25 : decode cX4_next 25 = .ok (.ireturn, 1) := by decide +kernel
theorem dX4_next_26 : decode cX4_next 26 = .ok (.iinc 4 1, 3) := by decide +kernel
theorem dX4_next_29 : decode cX4_next 29 = .ok (.goto (-26), 3) := by decide +kernel
theorem dX4_next_32 : decode cX4_next 32 = .ok (.iconst (-1), 1) := by decide +kernel
theorem dX4_next_33 : decode cX4_next 33 = .ok (.ireturn, 1) := by decide +kernel
theorem dX4_nextStart_0 : decode cX4_nextStart 0 = .ok (.aload_n 0, 1) := by decide +kernel
theorem dX4_nextStart_1 : decode cX4_nextStart 1 = .ok (.iconst 0, 1) := by decide +kernel
theorem dX4_nextStart_2 : decode cX4_nextStart 2 = .ok (.putfield 29, 3) := by decide +kernel
theorem dX4_nextStart_5 : decode cX4_nextStart 5 = .ok (.aload_n 0, 1) := by decide +kernel
theorem dX4_nextStart_6 : decode cX4_nextStart 6 = .ok (.iload_n 1, 1) := by decide +kernel
theorem dX4_nextStart_7 : decode cX4_nextStart 7 = .ok (.invokevirtual 102, 3) := by decide +kernel
theorem dX4_nextStart_10 : decode cX4_nextStart 10 = .ok (.ifCond .eq 10, 3) := by decide +kernel
theorem dX4_nextStart_13 : decode cX4_nextStart 13 = .ok (.iload_n 2, 1) := by decide +kernel
theorem dX4_nextStart_14 : decode cX4_nextStart 14 = .ok (.invokestatic 98, 3) := by decide +kernel
theorem dX4_nextStart_17 : decode cX4_nextStart 17 = .ok (.ifCond .ne 9, 3) := by decide +kernel
theorem dX4_nextStart_20 : decode cX4_nextStart 20 = .ok (.aload_n 0, 1) := by decide +kernel
theorem dX4_nextStart_21 : decode cX4_nextStart 21 = .ok (.iconst 1, 1) := by decide +kernel
theorem dX4_nextStart_22 : decode cX4_nextStart 22 = .ok (.invokevirtual 92, 3) := by decide +kernel
theorem dX4_nextStart_25 : decode cX4_nextStart 25 = .ok (.ireturn, 1) := by decide +kernel
theorem dX4_nextStart_26 : decode cX4_nextStart 26 = .ok (.iload_n 3, 1) := by decide +kernel
theorem dX4_nextStart_27 : decode cX4_nextStart 27 = .ok (.invokestatic 105, 3) := by decide +kernel
theorem dX4_nextStart_30 : decode cX4_nextStart 30 = .ok (.ifCond .eq 13, 3) := by decide +kernel
theorem dX4_nextStart_33 : decode cX4_nextStart 33 = .ok (.aload_n 0, 1) := by decide +kernel
theorem dX4_nextStart_34 : decode cX4_nextStart 34 = .ok (.iload_n 1, 1) := by decide +kernel
theorem dX4_nextStart_35 : decode cX4_nextStart 35 = .ok (.iload_n 2, 1) := by decide +kernel
theorem dX4_nextStart_36 : decode cX4_nextStart 36 = .ok (.iload_n 3, 1) := by decide +kernel
theorem dX4_nextStart_37 : decode cX4_nextStart 37 = .ok (.invokevirtual 236, 3) := by decide +kernel
theorem dX4_nextStart_40 : decode cX4_nextStart 40 = .ok (.goto 8, 3) := by decide +kernel
theorem dX4_nextStart_43 : decode cX4_nextStart 43 = .ok (.aload_n 0, 1) := by decide +kernel
theorem dX4_nextStart_44 : decode cX4_nextStart 44 = .ok (.iconst 2, 1) := by decide +kernel
theorem dX4_nextStart_45 : decode cX4_nextStart 45 = .ok (.invokevirtual 92, 3) := by decide +kernel
theorem dX4_nextStart_48 : decode cX4_nextStart 48 = .ok (.ireturn, 1) := by decide +kernel
theorem dX4_best_0 : decode cX4_best 0 = .ok (.iconst (-1), 1) := by decide +kernel
theorem dX4_best_1 : decode cX4_best 1 = .ok (.istore_n 3, 1) := by decide +kernel
theorem dX4_best_2 : decode cX4_best 2 = .ok (.iconst (-1), 1) := by decide +kernel
theorem dX4_best_3 : decode cX4_best 3 = .ok (.istore 4, 2) := by decide +kernel
theorem dX4_best_5 : decode cX4_best 5 = .ok (.iconst 0, 1) := by decide +kernel
theorem dX4_best_6 : decode cX4_best 6 = .ok (.istore 5, 2) := by decide +kernel
theorem dX4_best_8 : decode cX4_best 8 = .ok (.iload 5, 2) := by decide +kernel
theorem dX4_best_10 : decode cX4_best 10 = .ok (.iconst 3, 1) := by decide +kernel
theorem dX4_best_11 : decode cX4_best 11 = .ok (.if_icmp .ge 116, 3) := by decide +kernel
theorem dX4_best_14 : decode cX4_best 14 = .ok (.aload_n 0, 1) := by decide +kernel
theorem dX4_best_15 : decode cX4_best 15 = .ok (.iload_n 1, 1) := by decide +kernel
theorem dX4_best_16 : decode cX4_best 16 = .ok (.iload 5, 2) := by decide +kernel
theorem dX4_best_18 : decode cX4_best 18 = .ok (.iload_n 2, 1) := by decide +kernel
theorem dX4_best_19 : decode cX4_best 19 = .ok (.invokevirtual 236, 3) := by decide +kernel
theorem dX4_best_22 : decode cX4_best 22 = .ok (.istore 6, 2) := by decide +kernel
theorem dX4_best_24 : decode cX4_best 24 = .ok (.iload_n 3, 1) := by decide +kernel
theorem dX4_best_25 : decode cX4_best 25 = .ok (.iconst (-1), 1) := by decide +kernel
theorem dX4_best_26 : decode cX4_best 26 = .ok (.if_icmp .eq 36, 3) := by decide +kernel
theorem dX4_best_29 : decode cX4_best 29 = .ok (.iload 6, 2) := by decide +kernel
theorem dX4_best_31 : decode cX4_best 31 = .ok (.iload 4, 2) := by decide +kernel
theorem dX4_best_33 : decode cX4_best 33 = .ok (.if_icmp .ne 29, 3) := by decide +kernel
theorem dX4_best_36 : decode cX4_best 36 = .ok (.aload_n 0, 1) := by decide +kernel
theorem dX4_best_37 : decode cX4_best 37 = .ok (.getfield 7, 3) := by decide +kernel
theorem dX4_best_40 : decode cX4_best 40 = .ok (.bipush 7, 2) := by decide +kernel
theorem dX4_best_42 : decode cX4_best 42 = .ok (.iload 5, 2) := by decide +kernel
theorem dX4_best_44 : decode cX4_best 44 = .ok (.iadd, 1) := by decide +kernel
theorem dX4_best_45 : decode cX4_best 45 = .ok (.iaload, 1) := by decide +kernel
theorem dX4_best_46 : decode cX4_best 46 = .ok (.aload_n 0, 1) := by decide +kernel
theorem dX4_best_47 : decode cX4_best 47 = .ok (.getfield 7, 3) := by decide +kernel
theorem dX4_best_50 : decode cX4_best 50 = .ok (.bipush 7, 2) := by decide +kernel
theorem dX4_best_52 : decode cX4_best 52 = .ok (.iload_n 3, 1) := by decide +kernel
theorem dX4_best_53 : decode cX4_best 53 = .ok (.iadd, 1) := by decide +kernel
theorem dX4_best_54 : decode cX4_best 54 = .ok (.iaload, 1) := by decide +kernel
theorem dX4_best_55 : decode cX4_best 55 = .ok (.if_icmp .le 7, 3) := by decide +kernel
theorem dX4_best_58 : decode cX4_best 58 = .ok (.iconst 1, 1) := by decide +kernel
theorem dX4_best_59 : decode cX4_best 59 = .ok (.goto 4, 3) := by decide +kernel
theorem dX4_best_62 : decode cX4_best 62 = .ok (.iconst 0, 1) := by decide +kernel
theorem dX4_best_63 : decode cX4_best 63 = .ok (.istore 7, 2) := by decide +kernel
theorem dX4_best_65 : decode cX4_best 65 = .ok (.iload 6, 2) := by decide +kernel
theorem dX4_best_67 : decode cX4_best 67 = .ok (.iconst (-1), 1) := by decide +kernel
theorem dX4_best_68 : decode cX4_best 68 = .ok (.if_icmp .eq 24, 3) := by decide +kernel
theorem dX4_best_71 : decode cX4_best 71 = .ok (.iload_n 3, 1) := by decide +kernel
theorem dX4_best_72 : decode cX4_best 72 = .ok (.iconst (-1), 1) := by decide +kernel
theorem dX4_best_73 : decode cX4_best 73 = .ok (.if_icmp .eq 15, 3) := by decide +kernel
theorem dX4_best_76 : decode cX4_best 76 = .ok (.iload 6, 2) := by decide +kernel
theorem dX4_best_78 : decode cX4_best 78 = .ok (.iload 4, 2) := by decide +kernel
theorem dX4_best_80 : decode cX4_best 80 = .ok (.if_icmp .lt 8, 3) := by decide +kernel
theorem dX4_best_83 : decode cX4_best 83 = .ok (.iload 7, 2) := by decide +kernel
theorem dX4_best_85 : decode cX4_best 85 = .ok (.ifCond .eq 7, 3) := by decide +kernel
theorem dX4_best_88 : decode cX4_best 88 = .ok (.iconst 1, 1) := by decide +kernel
theorem dX4_best_89 : decode cX4_best 89 = .ok (.goto 4, 3) := by decide +kernel
theorem dX4_best_92 : decode cX4_best 92 = .ok (.iconst 0, 1) := by decide +kernel
theorem dX4_best_93 : decode cX4_best 93 = .ok (.istore 8, 2) := by decide +kernel
theorem dX4_best_95 : decode cX4_best 95 = .ok (.iload 8, 2) := by decide +kernel
theorem dX4_best_97 : decode cX4_best 97 = .ok (.ifCond .eq 8, 3) := by decide +kernel
theorem dX4_best_100 : decode cX4_best 100 = .ok (.iload 5, 2) := by decide +kernel
theorem dX4_best_102 : decode cX4_best 102 = .ok (.goto 4, 3) := by decide +kernel
theorem dX4_best_105 : decode cX4_best 105 = .ok (.iload_n 3, 1) := by decide +kernel
theorem dX4_best_106 : decode cX4_best 106 = .ok (.istore_n 3, 1) := by decide +kernel
theorem dX4_best_107 : decode cX4_best 107 = .ok (.iload 8, 2) := by decide +kernel
theorem dX4_best_109 : decode cX4_best 109 = .ok (.ifCond .eq 8, 3) := by decide +kernel
theorem dX4_best_112 : decode cX4_best 112 = .ok (.iload 6, 2) := by decide +kernel
theorem dX4_best_114 : decode cX4_best 114 = .ok (.goto 5, 3) := by decide +kernel
theorem dX4_best_117 : decode cX4_best 117 = .ok (.iload 4, 2) := by decide +kernel
theorem dX4_best_119 : decode cX4_best 119 = .ok (.istore 4, 2) := by decide +kernel
theorem dX4_best_121 : decode cX4_best 121 = .ok (.iinc 5 1, 3) := by decide +kernel
theorem dX4_best_124 : decode cX4_best 124 = .ok (.goto (-116), 3) := by decide +kernel
theorem dX4_best_127 : decode cX4_best 127 = .ok (.iload_n 3, 1) := by decide +kernel
theorem dX4_best_128 : decode cX4_best 128 = .ok (.ireturn, 1) := by decide +kernel
theorem dX4_bestScreen_0 : decode cX4_bestScreen 0 = .ok (.aload_n 0, 1) := by decide +kernel
theorem dX4_bestScreen_1 : decode cX4_bestScreen 1 = .ok (.iconst 0, 1) := by decide +kernel
theorem dX4_bestScreen_2 : decode cX4_bestScreen 2 = .ok (.putfield 29, 3) := by decide +kernel
theorem dX4_bestScreen_5 : decode cX4_bestScreen 5 = .ok (.aload_n 0, 1) := by decide +kernel
theorem dX4_bestScreen_6 : decode cX4_bestScreen 6 = .ok (.iload_n 1, 1) := by decide +kernel
theorem dX4_bestScreen_7 : decode cX4_bestScreen 7 = .ok (.invokevirtual 102, 3) := by decide +kernel
theorem dX4_bestScreen_10 : decode cX4_bestScreen 10 = .ok (.ifCond .ne 9, 3) := by decide +kernel
theorem dX4_bestScreen_13 : decode cX4_bestScreen 13 = .ok (.aload_n 0, 1) := by decide +kernel
theorem dX4_bestScreen_14 : decode cX4_bestScreen 14 = .ok (.iconst 1, 1) := by decide +kernel
theorem dX4_bestScreen_15 : decode cX4_bestScreen 15 = .ok (.invokevirtual 92, 3) := by decide +kernel
theorem dX4_bestScreen_18 : decode cX4_bestScreen 18 = .ok (.ireturn, 1) := by decide +kernel
theorem dX4_bestScreen_19 : decode cX4_bestScreen 19 = .ok (.iload_n 2, 1) := by decide +kernel
theorem dX4_bestScreen_20 : decode cX4_bestScreen 20 = .ok (.invokestatic 105, 3) := by decide +kernel
theorem dX4_bestScreen_23 : decode cX4_bestScreen 23 = .ok (.ifCond .eq 12, 3) := by decide +kernel
theorem dX4_bestScreen_26 : decode cX4_bestScreen 26 = .ok (.aload_n 0, 1) := by decide +kernel
theorem dX4_bestScreen_27 : decode cX4_bestScreen 27 = .ok (.iload_n 1, 1) := by decide +kernel
theorem dX4_bestScreen_28 : decode cX4_bestScreen 28 = .ok (.iload_n 2, 1) := by decide +kernel
theorem dX4_bestScreen_29 : decode cX4_bestScreen 29 = .ok (.invokevirtual 239, 3) := by decide +kernel
theorem dX4_bestScreen_32 : decode cX4_bestScreen 32 = .ok (.goto 8, 3) := by decide +kernel
theorem dX4_bestScreen_35 : decode cX4_bestScreen 35 = .ok (.aload_n 0, 1) := by decide +kernel
theorem dX4_bestScreen_36 : decode cX4_bestScreen 36 = .ok (.iconst 2, 1) := by decide +kernel
theorem dX4_bestScreen_37 : decode cX4_bestScreen 37 = .ok (.invokevirtual 92, 3) := by decide +kernel
theorem dX4_bestScreen_40 : decode cX4_bestScreen 40 = .ok (.ireturn, 1) := by decide +kernel
theorem dX4_more_0 : decode cX4_more 0 = .ok (.iconst 0, 1) := by decide +kernel
theorem dX4_more_1 : decode cX4_more 1 = .ok (.istore_n 3, 1) := by decide +kernel
theorem dX4_more_2 : decode cX4_more 2 = .ok (.iconst 0, 1) := by decide +kernel
theorem dX4_more_3 : decode cX4_more 3 = .ok (.istore 4, 2) := by decide +kernel
theorem dX4_more_5 : decode cX4_more 5 = .ok (.iload 4, 2) := by decide +kernel
theorem dX4_more_7 : decode cX4_more 7 = .ok (.aload_n 0, 1) := by decide +kernel
theorem dX4_more_8 : decode cX4_more 8 = .ok (.getfield 7, 3) := by decide +kernel
theorem dX4_more_11 : decode cX4_more 11 = .ok (.iconst 2, 1) := by decide +kernel
theorem dX4_more_12 : decode cX4_more 12 = .ok (.iaload, 1) := by decide +kernel
theorem dX4_more_13 : decode cX4_more 13 = .ok (.if_icmp .ge 44, 3) := by decide +kernel
theorem dX4_more_16 : decode cX4_more 16 = .ok (.iload_n 3, 1) := by decide +kernel
theorem dX4_more_17 : decode cX4_more 17 = .ok (.aload_n 0, 1) := by decide +kernel
theorem dX4_more_18 : decode cX4_more 18 = .ok (.iload 4, 2) := by decide +kernel
theorem dX4_more_20 : decode cX4_more 20 = .ok (.invokevirtual 211, 3) := by decide +kernel
theorem dX4_more_23 : decode cX4_more 23 = .ok (.iconst (-1), 1) := by decide +kernel
theorem dX4_more_24 : decode cX4_more 24 = .ok (.if_icmp .ne 24, 3) := by decide +kernel
theorem dX4_more_27 : decode cX4_more 27 = .ok (.aload_n 0, 1) := by decide +kernel
theorem dX4_more_28 : decode cX4_more 28 = .ok (.iload 4, 2) := by decide +kernel
theorem dX4_more_30 : decode cX4_more 30 = .ok (.iload_n 1, 1) := by decide +kernel
theorem dX4_more_31 : decode cX4_more 31 = .ok (.aload_n 0, 1) := by decide +kernel
theorem dX4_more_32 : decode cX4_more 32 = .ok (.iload_n 1, 1) := by decide +kernel
theorem dX4_more_33 : decode cX4_more 33 = .ok (.iload_n 2, 1) := by decide +kernel
theorem dX4_more_34 : decode cX4_more 34 = .ok (.iconst 0, 1) := by decide +kernel
theorem dX4_more_35 : decode cX4_more 35 = .ok (.invokevirtual 51, 3) := by decide +kernel
theorem dX4_more_38 : decode cX4_more 38 = .ok (.invokevirtual 208, 3) := by decide +kernel
theorem dX4_more_41 : decode cX4_more 41 = .ok (.ifCond .eq 7, 3) := by decide +kernel
theorem dX4_more_44 : decode cX4_more 44 = .ok (.iconst 1, 1) := by decide +kernel
theorem dX4_more_45 : decode cX4_more 45 = .ok (.goto 4, 3) := by decide +kernel
theorem dX4_more_48 : decode cX4_more 48 = .ok (.iconst 0, 1) := by decide +kernel
theorem dX4_more_49 : decode cX4_more 49 = .ok (.iadd, 1) := by decide +kernel
theorem dX4_more_50 : decode cX4_more 50 = .ok (.istore_n 3, 1) := by decide +kernel
theorem dX4_more_51 : decode cX4_more 51 = .ok (.iinc 4 1, 3) := by decide +kernel
theorem dX4_more_54 : decode cX4_more 54 = .ok (.goto (-49), 3) := by decide +kernel
theorem dX4_more_57 : decode cX4_more 57 = .ok (.iload_n 3, 1) := by decide +kernel
theorem dX4_more_58 : decode cX4_more 58 = .ok (.ireturn, 1) := by decide +kernel
theorem dX4_ifShown_0 : decode cX4_ifShown 0 = .ok (.aload_n 0, 1) := by decide +kernel
theorem dX4_ifShown_1 : decode cX4_ifShown 1 = .ok (.iconst 0, 1) := by decide +kernel
theorem dX4_ifShown_2 : decode cX4_ifShown 2 = .ok (.putfield 29, 3) := by decide +kernel
theorem dX4_ifShown_5 : decode cX4_ifShown 5 = .ok (.aload_n 0, 1) := by decide +kernel
theorem dX4_ifShown_6 : decode cX4_ifShown 6 = .ok (.iload_n 1, 1) := by decide +kernel
theorem dX4_ifShown_7 : decode cX4_ifShown 7 = .ok (.invokevirtual 102, 3) := by decide +kernel
theorem dX4_ifShown_10 : decode cX4_ifShown 10 = .ok (.ifCond .eq 10, 3) := by decide +kernel
theorem dX4_ifShown_13 : decode cX4_ifShown 13 = .ok (.iload_n 2, 1) := by decide +kernel
theorem dX4_ifShown_14 : decode cX4_ifShown 14 = .ok (.invokestatic 98, 3) := by decide +kernel
theorem dX4_ifShown_17 : decode cX4_ifShown 17 = .ok (.ifCond .ne 9, 3) := by decide +kernel
theorem dX4_ifShown_20 : decode cX4_ifShown 20 = .ok (.aload_n 0, 1) := by decide +kernel
theorem dX4_ifShown_21 : decode cX4_ifShown 21 = .ok (.iconst 1, 1) := by decide +kernel
theorem dX4_ifShown_22 : decode cX4_ifShown 22 = .ok (.invokevirtual 92, 3) := by decide +kernel
theorem dX4_ifShown_25 : decode cX4_ifShown 25 = .ok (.ireturn, 1) := by decide +kernel
theorem dX4_ifShown_26 : decode cX4_ifShown 26 = .ok (.iload_n 3, 1) := by decide +kernel
theorem dX4_ifShown_27 : decode cX4_ifShown 27 = .ok (.invokestatic 105, 3) := by decide +kernel
theorem dX4_ifShown_30 : decode cX4_ifShown 30 = .ok (.ifCond .ne 9, 3) := by decide +kernel
theorem dX4_ifShown_33 : decode cX4_ifShown 33 = .ok (.aload_n 0, 1) := by decide +kernel
theorem dX4_ifShown_34 : decode cX4_ifShown 34 = .ok (.iconst 2, 1) := by decide +kernel
theorem dX4_ifShown_35 : decode cX4_ifShown 35 = .ok (.invokevirtual 92, 3) := by decide +kernel
theorem dX4_ifShown_38 : decode cX4_ifShown 38 = .ok (.ireturn, 1) := by decide +kernel
theorem dX4_ifShown_39 : decode cX4_ifShown 39 = .ok (.aload_n 0, 1) := by decide +kernel
theorem dX4_ifShown_40 : decode cX4_ifShown 40 = .ok (.iload_n 1, 1) := by decide +kernel
theorem dX4_ifShown_41 : decode cX4_ifShown 41 = .ok (.iload_n 2, 1) := by decide +kernel
theorem dX4_ifShown_42 : decode cX4_ifShown 42 = .ok (.iload_n 3, 1) := by decide +kernel
theorem dX4_ifShown_43 : decode cX4_ifShown 43 = .ok (.iconst 0, 1) := by decide +kernel
theorem dX4_ifShown_44 : decode cX4_ifShown 44 = .ok (.invokevirtual 108, 3) := by decide +kernel
theorem dX4_ifShown_47 : decode cX4_ifShown 47 = .ok (.ifCond .ne 12, 3) := by decide +kernel
theorem dX4_ifShown_50 : decode cX4_ifShown 50 = .ok (.aload_n 0, 1) := by decide +kernel
theorem dX4_ifShown_51 : decode cX4_ifShown 51 = .ok (.iload_n 1, 1) := by decide +kernel
theorem dX4_ifShown_52 : decode cX4_ifShown 52 = .ok (.iload_n 3, 1) := by decide +kernel
theorem dX4_ifShown_53 : decode cX4_ifShown 53 = .ok (.invokevirtual 242, 3) := by decide +kernel
theorem dX4_ifShown_56 : decode cX4_ifShown 56 = .ok (.goto 4, 3) := by decide +kernel
theorem dX4_ifShown_59 : decode cX4_ifShown 59 = .ok (.iconst (-1), 1) := by decide +kernel
theorem dX4_ifShown_60 : decode cX4_ifShown 60 = .ok (.ireturn, 1) := by decide +kernel
theorem dX4_share_0 : decode cX4_share 0 = .ok (.aload_n 0, 1) := by decide +kernel
theorem dX4_share_1 : decode cX4_share 1 = .ok (.iload_n 1, 1) := by decide +kernel
theorem dX4_share_2 : decode cX4_share 2 = .ok (.invokevirtual 196, 3) := by decide +kernel
theorem dX4_share_5 : decode cX4_share 5 = .ok (.i2d, 1) := by decide +kernel
theorem dX4_share_6 : decode cX4_share 6 = .ok (.dstore_n 2, 1) := by decide +kernel
theorem dX4_share_7 : decode cX4_share 7 = .ok (.dload_n 2, 1) := by decide +kernel
theorem dX4_share_8 : decode cX4_share 8 = .ok (.ldc2_w 245, 3) := by decide +kernel
theorem dX4_share_11 : decode cX4_share 11 = .ok (.ddiv, 1) := by decide +kernel
theorem dX4_share_12 : decode cX4_share 12 = .ok (.dreturn, 1) := by decide +kernel
theorem dX4_use_0 : decode cX4_use 0 = .ok (.aload_n 0, 1) := by decide +kernel
theorem dX4_use_1 : decode cX4_use 1 = .ok (.iconst 0, 1) := by decide +kernel
theorem dX4_use_2 : decode cX4_use 2 = .ok (.putfield 29, 3) := by decide +kernel
theorem dX4_use_5 : decode cX4_use 5 = .ok (.iload_n 1, 1) := by decide +kernel
theorem dX4_use_6 : decode cX4_use 6 = .ok (.invokestatic 98, 3) := by decide +kernel
theorem dX4_use_9 : decode cX4_use 9 = .ok (.ifCond .ne 10, 3) := by decide +kernel
theorem dX4_use_12 : decode cX4_use 12 = .ok (.aload_n 0, 1) := by decide +kernel
theorem dX4_use_13 : decode cX4_use 13 = .ok (.iconst 1, 1) := by decide +kernel
theorem dX4_use_14 : decode cX4_use 14 = .ok (.putfield 29, 3) := by decide +kernel
theorem dX4_use_17 : decode cX4_use 17 = .ok (.dconst 0, 1) := by decide +kernel
theorem dX4_use_18 : decode cX4_use 18 = .ok (.dreturn, 1) := by decide +kernel
theorem dX4_use_19 : decode cX4_use 19 = .ok (.aload_n 0, 1) := by decide +kernel
theorem dX4_use_20 : decode cX4_use 20 = .ok (.iload_n 1, 1) := by decide +kernel
theorem dX4_use_21 : decode cX4_use 21 = .ok (.invokevirtual 247, 3) := by decide +kernel
theorem dX4_use_24 : decode cX4_use 24 = .ok (.dreturn, 1) := by decide +kernel
theorem dX4_mixes_0 : decode cX4_mixes 0 = .ok (.aload_n 0, 1) := by decide +kernel
theorem dX4_mixes_1 : decode cX4_mixes 1 = .ok (.ldc2_w 251, 3) := by decide +kernel
theorem dX4_mixes_4 : decode cX4_mixes 4 = .ok (.aload_n 0, 1) := by decide +kernel
theorem dX4_mixes_5 : decode cX4_mixes 5 = .ok (.getfield 253, 3) := by decide +kernel
theorem dX4_mixes_8 : decode cX4_mixes 8 = .ok (.lmul, 1) := by decide +kernel
theorem dX4_mixes_9 : decode cX4_mixes 9 = .ok (.lload_n 1, 1) := by decide +kernel
theorem dX4_mixes_10 : decode cX4_mixes 10 = .ok (.ladd, 1) := by decide +kernel
theorem dX4_mixes_11 : decode cX4_mixes 11 = .ok (.putfield 253, 3) := by decide +kernel
theorem dX4_mixes_14 : decode cX4_mixes 14 = .ok (.return_, 1) := by decide +kernel
theorem dX4_mixesFilm_0 : decode cX4_mixesFilm 0 = .ok (.iconst 0, 1) := by decide +kernel
theorem dX4_mixesFilm_1 : decode cX4_mixesFilm 1 = .ok (.istore_n 2, 1) := by decide +kernel
theorem dX4_mixesFilm_2 : decode cX4_mixesFilm 2 = .ok (.iload_n 2, 1) := by decide +kernel
theorem dX4_mixesFilm_3 : decode cX4_mixesFilm 3 = .ok (.bipush 6, 2) := by decide +kernel
theorem dX4_mixesFilm_5 : decode cX4_mixesFilm 5 = .ok (.if_icmp .ge 20, 3) := by decide +kernel
theorem dX4_mixesFilm_8 : decode cX4_mixesFilm 8 = .ok (.aload_n 0, 1) := by decide +kernel
theorem dX4_mixesFilm_9 : decode cX4_mixesFilm 9 = .ok (.aload_n 0, 1) := by decide +kernel
theorem dX4_mixesFilm_10 : decode cX4_mixesFilm 10 = .ok (.iload_n 1, 1) := by decide +kernel
theorem dX4_mixesFilm_11 : decode cX4_mixesFilm 11 = .ok (.iload_n 2, 1) := by decide +kernel
theorem dX4_mixesFilm_12 : decode cX4_mixesFilm 12 = .ok (.invokevirtual 181, 3) := by decide +kernel
theorem dX4_mixesFilm_15 : decode cX4_mixesFilm 15 = .ok (.i2l, 1) := by decide +kernel
theorem dX4_mixesFilm_16 : decode cX4_mixesFilm 16 = .ok (.invokevirtual 257, 3) := by decide +kernel
theorem dX4_mixesFilm_19 : decode cX4_mixesFilm 19 = .ok (.iinc 2 1, 3) := by decide +kernel
theorem dX4_mixesFilm_22 : decode cX4_mixesFilm 22 = .ok (.goto (-20), 3) := by decide +kernel
theorem dX4_mixesFilm_25 : decode cX4_mixesFilm 25 = .ok (.iconst 0, 1) := by decide +kernel
theorem dX4_mixesFilm_26 : decode cX4_mixesFilm 26 = .ok (.istore_n 2, 1) := by decide +kernel
theorem dX4_mixesFilm_27 : decode cX4_mixesFilm 27 = .ok (.iload_n 2, 1) := by decide +kernel
theorem dX4_mixesFilm_28 : decode cX4_mixesFilm 28 = .ok (.iconst 3, 1) := by decide +kernel
theorem dX4_mixesFilm_29 : decode cX4_mixesFilm 29 = .ok (.if_icmp .ge 21, 3) := by decide +kernel
theorem dX4_mixesFilm_32 : decode cX4_mixesFilm 32 = .ok (.aload_n 0, 1) := by decide +kernel
theorem dX4_mixesFilm_33 : decode cX4_mixesFilm 33 = .ok (.aload_n 0, 1) := by decide +kernel
theorem dX4_mixesFilm_34 : decode cX4_mixesFilm 34 = .ok (.iload_n 1, 1) := by decide +kernel
theorem dX4_mixesFilm_35 : decode cX4_mixesFilm 35 = .ok (.iload_n 2, 1) := by decide +kernel
theorem dX4_mixesFilm_36 : decode cX4_mixesFilm 36 = .ok (.iconst 0, 1) := by decide +kernel
theorem dX4_mixesFilm_37 : decode cX4_mixesFilm 37 = .ok (.invokevirtual 236, 3) := by decide +kernel
theorem dX4_mixesFilm_40 : decode cX4_mixesFilm 40 = .ok (.i2l, 1) := by decide +kernel
theorem dX4_mixesFilm_41 : decode cX4_mixesFilm 41 = .ok (.invokevirtual 257, 3) := by decide +kernel
theorem dX4_mixesFilm_44 : decode cX4_mixesFilm 44 = .ok (.iinc 2 1, 3) := by decide +kernel
theorem dX4_mixesFilm_47 : decode cX4_mixesFilm 47 = .ok (.goto (-20), 3) := by decide +kernel
theorem dX4_mixesFilm_50 : decode cX4_mixesFilm 50 = .ok (.aload_n 0, 1) := by decide +kernel
theorem dX4_mixesFilm_51 : decode cX4_mixesFilm 51 = .ok (.aload_n 0, 1) := by decide +kernel
theorem dX4_mixesFilm_52 : decode cX4_mixesFilm 52 = .ok (.iload_n 1, 1) := by decide +kernel
theorem dX4_mixesFilm_53 : decode cX4_mixesFilm 53 = .ok (.iconst 0, 1) := by decide +kernel
theorem dX4_mixesFilm_54 : decode cX4_mixesFilm 54 = .ok (.invokevirtual 239, 3) := by decide +kernel
theorem dX4_mixesFilm_57 : decode cX4_mixesFilm 57 = .ok (.i2l, 1) := by decide +kernel
theorem dX4_mixesFilm_58 : decode cX4_mixesFilm 58 = .ok (.invokevirtual 257, 3) := by decide +kernel
theorem dX4_mixesFilm_61 : decode cX4_mixesFilm 61 = .ok (.return_, 1) := by decide +kernel
theorem dX4_mixesShowing_0 : decode cX4_mixesShowing 0 = .ok (.iconst 0, 1) := by decide +kernel
theorem dX4_mixesShowing_1 : decode cX4_mixesShowing 1 = .ok (.istore_n 2, 1) := by decide +kernel
theorem dX4_mixesShowing_2 : decode cX4_mixesShowing 2 = .ok (.iload_n 2, 1) := by decide +kernel
theorem dX4_mixesShowing_3 : decode cX4_mixesShowing 3 = .ok (.bipush 6, 2) := by decide +kernel
theorem dX4_mixesShowing_5 : decode cX4_mixesShowing 5 = .ok (.if_icmp .ge 20, 3) := by decide +kernel
theorem dX4_mixesShowing_8 : decode cX4_mixesShowing 8 = .ok (.aload_n 0, 1) := by decide +kernel
theorem dX4_mixesShowing_9 : decode cX4_mixesShowing 9 = .ok (.aload_n 0, 1) := by decide +kernel
theorem dX4_mixesShowing_10 : decode cX4_mixesShowing 10 = .ok (.iload_n 1, 1) := by decide +kernel
theorem dX4_mixesShowing_11 : decode cX4_mixesShowing 11 = .ok (.iload_n 2, 1) := by decide +kernel
theorem dX4_mixesShowing_12 : decode cX4_mixesShowing 12 = .ok (.invokevirtual 184, 3) := by decide +kernel
theorem dX4_mixesShowing_15 : decode cX4_mixesShowing 15 = .ok (.i2l, 1) := by decide +kernel
theorem dX4_mixesShowing_16 : decode cX4_mixesShowing 16 = .ok (.invokevirtual 257, 3) := by decide +kernel
theorem dX4_mixesShowing_19 : decode cX4_mixesShowing 19 = .ok (.iinc 2 1, 3) := by decide +kernel
theorem dX4_mixesShowing_22 : decode cX4_mixesShowing 22 = .ok (.goto (-20), 3) := by decide +kernel
theorem dX4_mixesShowing_25 : decode cX4_mixesShowing 25 = .ok (.iconst 0, 1) := by decide +kernel
theorem dX4_mixesShowing_26 : decode cX4_mixesShowing 26 = .ok (.istore_n 2, 1) := by decide +kernel
theorem dX4_mixesShowing_27 : decode cX4_mixesShowing 27 = .ok (.iload_n 2, 1) := by decide +kernel
theorem dX4_mixesShowing_28 : decode cX4_mixesShowing 28 = .ok (.bipush 6, 2) := by decide +kernel
theorem dX4_mixesShowing_30 : decode cX4_mixesShowing 30 = .ok (.if_icmp .ge 20, 3) := by decide +kernel
theorem dX4_mixesShowing_33 : decode cX4_mixesShowing 33 = .ok (.aload_n 0, 1) := by decide +kernel
theorem dX4_mixesShowing_34 : decode cX4_mixesShowing 34 = .ok (.aload_n 0, 1) := by decide +kernel
theorem dX4_mixesShowing_35 : decode cX4_mixesShowing 35 = .ok (.iload_n 1, 1) := by decide +kernel
theorem dX4_mixesShowing_36 : decode cX4_mixesShowing 36 = .ok (.iload_n 2, 1) := by decide +kernel
theorem dX4_mixesShowing_37 : decode cX4_mixesShowing 37 = .ok (.invokevirtual 187, 3) := by decide +kernel
theorem dX4_mixesShowing_40 : decode cX4_mixesShowing 40 = .ok (.i2l, 1) := by decide +kernel
theorem dX4_mixesShowing_41 : decode cX4_mixesShowing 41 = .ok (.invokevirtual 257, 3) := by decide +kernel
theorem dX4_mixesShowing_44 : decode cX4_mixesShowing 44 = .ok (.iinc 2 1, 3) := by decide +kernel
theorem dX4_mixesShowing_47 : decode cX4_mixesShowing 47 = .ok (.goto (-20), 3) := by decide +kernel
theorem dX4_mixesShowing_50 : decode cX4_mixesShowing 50 = .ok (.return_, 1) := by decide +kernel
theorem dX4_mixesScreen_0 : decode cX4_mixesScreen 0 = .ok (.iconst 0, 1) := by decide +kernel
theorem dX4_mixesScreen_1 : decode cX4_mixesScreen 1 = .ok (.istore_n 2, 1) := by decide +kernel
theorem dX4_mixesScreen_2 : decode cX4_mixesScreen 2 = .ok (.iload_n 2, 1) := by decide +kernel
theorem dX4_mixesScreen_3 : decode cX4_mixesScreen 3 = .ok (.iconst 5, 1) := by decide +kernel
theorem dX4_mixesScreen_4 : decode cX4_mixesScreen 4 = .ok (.if_icmp .ge 20, 3) := by decide +kernel
theorem dX4_mixesScreen_7 : decode cX4_mixesScreen 7 = .ok (.aload_n 0, 1) := by decide +kernel
theorem dX4_mixesScreen_8 : decode cX4_mixesScreen 8 = .ok (.aload_n 0, 1) := by decide +kernel
theorem dX4_mixesScreen_9 : decode cX4_mixesScreen 9 = .ok (.iload_n 1, 1) := by decide +kernel
theorem dX4_mixesScreen_10 : decode cX4_mixesScreen 10 = .ok (.iload_n 2, 1) := by decide +kernel
theorem dX4_mixesScreen_11 : decode cX4_mixesScreen 11 = .ok (.invokevirtual 202, 3) := by decide +kernel
theorem dX4_mixesScreen_14 : decode cX4_mixesScreen 14 = .ok (.i2l, 1) := by decide +kernel
theorem dX4_mixesScreen_15 : decode cX4_mixesScreen 15 = .ok (.invokevirtual 257, 3) := by decide +kernel
theorem dX4_mixesScreen_18 : decode cX4_mixesScreen 18 = .ok (.iinc 2 1, 3) := by decide +kernel
theorem dX4_mixesScreen_21 : decode cX4_mixesScreen 21 = .ok (.goto (-19), 3) := by decide +kernel
theorem dX4_mixesScreen_24 : decode cX4_mixesScreen 24 = .ok (.iconst 0, 1) := by decide +kernel
theorem dX4_mixesScreen_25 : decode cX4_mixesScreen 25 = .ok (.istore_n 2, 1) := by decide +kernel
theorem dX4_mixesScreen_26 : decode cX4_mixesScreen 26 = .ok (.iload_n 2, 1) := by decide +kernel
theorem dX4_mixesScreen_27 : decode cX4_mixesScreen 27 = .ok (.sipush 2000, 3) := by decide +kernel
theorem dX4_mixesScreen_30 : decode cX4_mixesScreen 30 = .ok (.if_icmp .ge 20, 3) := by decide +kernel
theorem dX4_mixesScreen_33 : decode cX4_mixesScreen 33 = .ok (.aload_n 0, 1) := by decide +kernel
theorem dX4_mixesScreen_34 : decode cX4_mixesScreen 34 = .ok (.aload_n 0, 1) := by decide +kernel
theorem dX4_mixesScreen_35 : decode cX4_mixesScreen 35 = .ok (.iload_n 1, 1) := by decide +kernel
theorem dX4_mixesScreen_36 : decode cX4_mixesScreen 36 = .ok (.iload_n 2, 1) := by decide +kernel
theorem dX4_mixesScreen_37 : decode cX4_mixesScreen 37 = .ok (.invokevirtual 190, 3) := by decide +kernel
theorem dX4_mixesScreen_40 : decode cX4_mixesScreen 40 = .ok (.i2l, 1) := by decide +kernel
theorem dX4_mixesScreen_41 : decode cX4_mixesScreen 41 = .ok (.invokevirtual 257, 3) := by decide +kernel
theorem dX4_mixesScreen_44 : decode cX4_mixesScreen 44 = .ok (.iinc 2 100, 3) := by decide +kernel
theorem dX4_mixesScreen_47 : decode cX4_mixesScreen 47 = .ok (.goto (-21), 3) := by decide +kernel
theorem dX4_mixesScreen_50 : decode cX4_mixesScreen 50 = .ok (.aload_n 0, 1) := by decide +kernel
theorem dX4_mixesScreen_51 : decode cX4_mixesScreen 51 = .ok (.aload_n 0, 1) := by decide +kernel
theorem dX4_mixesScreen_52 : decode cX4_mixesScreen 52 = .ok (.iload_n 1, 1) := by decide +kernel
theorem dX4_mixesScreen_53 : decode cX4_mixesScreen 53 = .ok (.invokevirtual 247, 3) := by decide +kernel
theorem dX4_mixesScreen_56 : decode cX4_mixesScreen 56 = .ok (.invokestatic 261, 3) := by decide +kernel
theorem dX4_mixesScreen_59 : decode cX4_mixesScreen 59 = .ok (.invokevirtual 257, 3) := by decide +kernel
theorem dX4_mixesScreen_62 : decode cX4_mixesScreen 62 = .ok (.return_, 1) := by decide +kernel
theorem dX4_mixesAll_0 : decode cX4_mixesAll 0 = .ok (.iconst 0, 1) := by decide +kernel
theorem dX4_mixesAll_1 : decode cX4_mixesAll 1 = .ok (.istore_n 1, 1) := by decide +kernel
theorem dX4_mixesAll_2 : decode cX4_mixesAll 2 = .ok (.iload_n 1, 1) := by decide +kernel
theorem dX4_mixesAll_3 : decode cX4_mixesAll 3 = .ok (.aload_n 0, 1) := by decide +kernel
theorem dX4_mixesAll_4 : decode cX4_mixesAll 4 = .ok (.getfield 7, 3) := by decide +kernel
theorem dX4_mixesAll_7 : decode cX4_mixesAll 7 = .ok (.iconst 0, 1) := by decide +kernel
theorem dX4_mixesAll_8 : decode cX4_mixesAll 8 = .ok (.iaload, 1) := by decide +kernel
theorem dX4_mixesAll_9 : decode cX4_mixesAll 9 = .ok (.if_icmp .ge 14, 3) := by decide +kernel
theorem dX4_mixesAll_12 : decode cX4_mixesAll 12 = .ok (.aload_n 0, 1) := by decide +kernel
theorem dX4_mixesAll_13 : decode cX4_mixesAll 13 = .ok (.iload_n 1, 1) := by decide +kernel
theorem dX4_mixesAll_14 : decode cX4_mixesAll 14 = .ok (.invokevirtual 267, 3) := by decide +kernel
theorem dX4_mixesAll_17 : decode cX4_mixesAll 17 = .ok (.iinc 1 1, 3) := by decide +kernel
theorem dX4_mixesAll_20 : decode cX4_mixesAll 20 = .ok (.goto (-18), 3) := by decide +kernel
theorem dX4_mixesAll_23 : decode cX4_mixesAll 23 = .ok (.iconst 0, 1) := by decide +kernel
theorem dX4_mixesAll_24 : decode cX4_mixesAll 24 = .ok (.istore_n 1, 1) := by decide +kernel
theorem dX4_mixesAll_25 : decode cX4_mixesAll 25 = .ok (.iload_n 1, 1) := by decide +kernel
theorem dX4_mixesAll_26 : decode cX4_mixesAll 26 = .ok (.aload_n 0, 1) := by decide +kernel
theorem dX4_mixesAll_27 : decode cX4_mixesAll 27 = .ok (.getfield 7, 3) := by decide +kernel
theorem dX4_mixesAll_30 : decode cX4_mixesAll 30 = .ok (.iconst 1, 1) := by decide +kernel
theorem dX4_mixesAll_31 : decode cX4_mixesAll 31 = .ok (.iaload, 1) := by decide +kernel
theorem dX4_mixesAll_32 : decode cX4_mixesAll 32 = .ok (.if_icmp .ge 14, 3) := by decide +kernel
theorem dX4_mixesAll_35 : decode cX4_mixesAll 35 = .ok (.aload_n 0, 1) := by decide +kernel
theorem dX4_mixesAll_36 : decode cX4_mixesAll 36 = .ok (.iload_n 1, 1) := by decide +kernel
theorem dX4_mixesAll_37 : decode cX4_mixesAll 37 = .ok (.invokevirtual 271, 3) := by decide +kernel
theorem dX4_mixesAll_40 : decode cX4_mixesAll 40 = .ok (.iinc 1 1, 3) := by decide +kernel
theorem dX4_mixesAll_43 : decode cX4_mixesAll 43 = .ok (.goto (-18), 3) := by decide +kernel
theorem dX4_mixesAll_46 : decode cX4_mixesAll 46 = .ok (.iconst 0, 1) := by decide +kernel
theorem dX4_mixesAll_47 : decode cX4_mixesAll 47 = .ok (.istore_n 1, 1) := by decide +kernel
theorem dX4_mixesAll_48 : decode cX4_mixesAll 48 = .ok (.iload_n 1, 1) := by decide +kernel
theorem dX4_mixesAll_49 : decode cX4_mixesAll 49 = .ok (.iconst 3, 1) := by decide +kernel
theorem dX4_mixesAll_50 : decode cX4_mixesAll 50 = .ok (.if_icmp .ge 14, 3) := by decide +kernel
theorem dX4_mixesAll_53 : decode cX4_mixesAll 53 = .ok (.aload_n 0, 1) := by decide +kernel
theorem dX4_mixesAll_54 : decode cX4_mixesAll 54 = .ok (.iload_n 1, 1) := by decide +kernel
theorem dX4_mixesAll_55 : decode cX4_mixesAll 55 = .ok (.invokevirtual 274, 3) := by decide +kernel
theorem dX4_mixesAll_58 : decode cX4_mixesAll 58 = .ok (.iinc 1 1, 3) := by decide +kernel
theorem dX4_mixesAll_61 : decode cX4_mixesAll 61 = .ok (.goto (-13), 3) := by decide +kernel
theorem dX4_mixesAll_64 : decode cX4_mixesAll 64 = .ok (.iconst 0, 1) := by decide +kernel
theorem dX4_mixesAll_65 : decode cX4_mixesAll 65 = .ok (.istore_n 1, 1) := by decide +kernel
theorem dX4_mixesAll_66 : decode cX4_mixesAll 66 = .ok (.iload_n 1, 1) := by decide +kernel
theorem dX4_mixesAll_67 : decode cX4_mixesAll 67 = .ok (.iconst 4, 1) := by decide +kernel
theorem dX4_mixesAll_68 : decode cX4_mixesAll 68 = .ok (.aload_n 0, 1) := by decide +kernel
theorem dX4_mixesAll_69 : decode cX4_mixesAll 69 = .ok (.getfield 7, 3) := by decide +kernel
theorem dX4_mixesAll_72 : decode cX4_mixesAll 72 = .ok (.iconst 2, 1) := by decide +kernel
theorem dX4_mixesAll_73 : decode cX4_mixesAll 73 = .ok (.iaload, 1) := by decide +kernel
theorem dX4_mixesAll_74 : decode cX4_mixesAll 74 = .ok (.imul, 1) := by decide +kernel
theorem dX4_mixesAll_75 : decode cX4_mixesAll 75 = .ok (.if_icmp .ge 24, 3) := by decide +kernel
theorem dX4_mixesAll_78 : decode cX4_mixesAll 78 = .ok (.aload_n 0, 1) := by decide +kernel
theorem dX4_mixesAll_79 : decode cX4_mixesAll 79 = .ok (.aload_n 0, 1) := by decide +kernel
theorem dX4_mixesAll_80 : decode cX4_mixesAll 80 = .ok (.iload_n 1, 1) := by decide +kernel
theorem dX4_mixesAll_81 : decode cX4_mixesAll 81 = .ok (.iconst 4, 1) := by decide +kernel
theorem dX4_mixesAll_82 : decode cX4_mixesAll 82 = .ok (.idiv, 1) := by decide +kernel
theorem dX4_mixesAll_83 : decode cX4_mixesAll 83 = .ok (.iload_n 1, 1) := by decide +kernel
theorem dX4_mixesAll_84 : decode cX4_mixesAll 84 = .ok (.iconst 4, 1) := by decide +kernel
theorem dX4_mixesAll_85 : decode cX4_mixesAll 85 = .ok (.irem, 1) := by decide +kernel
theorem dX4_mixesAll_86 : decode cX4_mixesAll 86 = .ok (.invokevirtual 214, 3) := by decide +kernel
theorem dX4_mixesAll_89 : decode cX4_mixesAll 89 = .ok (.i2l, 1) := by decide +kernel
theorem dX4_mixesAll_90 : decode cX4_mixesAll 90 = .ok (.invokevirtual 257, 3) := by decide +kernel
theorem dX4_mixesAll_93 : decode cX4_mixesAll 93 = .ok (.iinc 1 1, 3) := by decide +kernel
theorem dX4_mixesAll_96 : decode cX4_mixesAll 96 = .ok (.goto (-30), 3) := by decide +kernel
theorem dX4_mixesAll_99 : decode cX4_mixesAll 99 = .ok (.iconst 0, 1) := by decide +kernel
theorem dX4_mixesAll_100 : decode cX4_mixesAll 100 = .ok (.istore_n 1, 1) := by decide +kernel
theorem dX4_mixesAll_101 : decode cX4_mixesAll 101 = .ok (.iload_n 1, 1) := by decide +kernel
theorem dX4_mixesAll_102 : decode cX4_mixesAll 102 = .ok (.bipush 9, 2) := by decide +kernel
theorem dX4_mixesAll_104 : decode cX4_mixesAll 104 = .ok (.if_icmp .ge 24, 3) := by decide +kernel
theorem dX4_mixesAll_107 : decode cX4_mixesAll 107 = .ok (.aload_n 0, 1) := by decide +kernel
theorem dX4_mixesAll_108 : decode cX4_mixesAll 108 = .ok (.aload_n 0, 1) := by decide +kernel
theorem dX4_mixesAll_109 : decode cX4_mixesAll 109 = .ok (.iload_n 1, 1) := by decide +kernel
theorem dX4_mixesAll_110 : decode cX4_mixesAll 110 = .ok (.iconst 3, 1) := by decide +kernel
theorem dX4_mixesAll_111 : decode cX4_mixesAll 111 = .ok (.idiv, 1) := by decide +kernel
theorem dX4_mixesAll_112 : decode cX4_mixesAll 112 = .ok (.iload_n 1, 1) := by decide +kernel
theorem dX4_mixesAll_113 : decode cX4_mixesAll 113 = .ok (.iconst 3, 1) := by decide +kernel
theorem dX4_mixesAll_114 : decode cX4_mixesAll 114 = .ok (.irem, 1) := by decide +kernel
theorem dX4_mixesAll_115 : decode cX4_mixesAll 115 = .ok (.invokevirtual 223, 3) := by decide +kernel
theorem dX4_mixesAll_118 : decode cX4_mixesAll 118 = .ok (.i2l, 1) := by decide +kernel
theorem dX4_mixesAll_119 : decode cX4_mixesAll 119 = .ok (.invokevirtual 257, 3) := by decide +kernel
theorem dX4_mixesAll_122 : decode cX4_mixesAll 122 = .ok (.iinc 1 1, 3) := by decide +kernel
theorem dX4_mixesAll_125 : decode cX4_mixesAll 125 = .ok (.goto (-24), 3) := by decide +kernel
theorem dX4_mixesAll_128 : decode cX4_mixesAll 128 = .ok (.return_, 1) := by decide +kernel
theorem dX4_digest_0 : decode cX4_digest 0 = .ok (.aload_n 0, 1) := by decide +kernel
theorem dX4_digest_1 : decode cX4_digest 1 = .ok (.iconst 0, 1) := by decide +kernel
theorem dX4_digest_2 : decode cX4_digest 2 = .ok (.putfield 29, 3) := by decide +kernel
theorem dX4_digest_5 : decode cX4_digest 5 = .ok (.aload_n 0, 1) := by decide +kernel
theorem dX4_digest_6 : decode cX4_digest 6 = .ok (.ldc2_w 277, 3) := by decide +kernel
theorem dX4_digest_9 : decode cX4_digest 9 = .ok (.putfield 253, 3) := by decide +kernel
theorem dX4_digest_12 : decode cX4_digest 12 = .ok (.iconst 0, 1) := by decide +kernel
theorem dX4_digest_13 : decode cX4_digest 13 = .ok (.istore_n 1, 1) := by decide +kernel
theorem dX4_digest_14 : decode cX4_digest 14 = .ok (.iload_n 1, 1) := by decide +kernel
theorem dX4_digest_15 : decode cX4_digest 15 = .ok (.bipush 12, 2) := by decide +kernel
theorem dX4_digest_17 : decode cX4_digest 17 = .ok (.if_icmp .ge 19, 3) := by decide +kernel
theorem dX4_digest_20 : decode cX4_digest 20 = .ok (.aload_n 0, 1) := by decide +kernel
theorem dX4_digest_21 : decode cX4_digest 21 = .ok (.aload_n 0, 1) := by decide +kernel
theorem dX4_digest_22 : decode cX4_digest 22 = .ok (.iload_n 1, 1) := by decide +kernel
theorem dX4_digest_23 : decode cX4_digest 23 = .ok (.invokevirtual 233, 3) := by decide +kernel
theorem dX4_digest_26 : decode cX4_digest 26 = .ok (.i2l, 1) := by decide +kernel
theorem dX4_digest_27 : decode cX4_digest 27 = .ok (.invokevirtual 257, 3) := by decide +kernel
theorem dX4_digest_30 : decode cX4_digest 30 = .ok (.iinc 1 1, 3) := by decide +kernel
theorem dX4_digest_33 : decode cX4_digest 33 = .ok (.goto (-19), 3) := by decide +kernel
theorem dX4_digest_36 : decode cX4_digest 36 = .ok (.aload_n 0, 1) := by decide +kernel
theorem dX4_digest_37 : decode cX4_digest 37 = .ok (.invokevirtual 279, 3) := by decide +kernel
theorem dX4_digest_40 : decode cX4_digest 40 = .ok (.iconst 0, 1) := by decide +kernel
theorem dX4_digest_41 : decode cX4_digest 41 = .ok (.istore_n 1, 1) := by decide +kernel
theorem dX4_digest_42 : decode cX4_digest 42 = .ok (.iload_n 1, 1) := by decide +kernel
theorem dX4_digest_43 : decode cX4_digest 43 = .ok (.iconst 3, 1) := by decide +kernel
theorem dX4_digest_44 : decode cX4_digest 44 = .ok (.if_icmp .ge 24, 3) := by decide +kernel
theorem dX4_digest_47 : decode cX4_digest 47 = .ok (.aload_n 0, 1) := by decide +kernel
theorem dX4_digest_48 : decode cX4_digest 48 = .ok (.aload_n 0, 1) := by decide +kernel
theorem dX4_digest_49 : decode cX4_digest 49 = .ok (.getfield 7, 3) := by decide +kernel
theorem dX4_digest_52 : decode cX4_digest 52 = .ok (.sipush 129, 3) := by decide +kernel
theorem dX4_digest_55 : decode cX4_digest 55 = .ok (.iload_n 1, 1) := by decide +kernel
theorem dX4_digest_56 : decode cX4_digest 56 = .ok (.iadd, 1) := by decide +kernel
theorem dX4_digest_57 : decode cX4_digest 57 = .ok (.iaload, 1) := by decide +kernel
theorem dX4_digest_58 : decode cX4_digest 58 = .ok (.i2l, 1) := by decide +kernel
theorem dX4_digest_59 : decode cX4_digest 59 = .ok (.invokevirtual 257, 3) := by decide +kernel
theorem dX4_digest_62 : decode cX4_digest 62 = .ok (.iinc 1 1, 3) := by decide +kernel
theorem dX4_digest_65 : decode cX4_digest 65 = .ok (.goto (-23), 3) := by decide +kernel
theorem dX4_digest_68 : decode cX4_digest 68 = .ok (.aload_n 0, 1) := by decide +kernel
theorem dX4_digest_69 : decode cX4_digest 69 = .ok (.aload_n 0, 1) := by decide +kernel
theorem dX4_digest_70 : decode cX4_digest 70 = .ok (.getfield 137, 3) := by decide +kernel
theorem dX4_digest_73 : decode cX4_digest 73 = .ok (.i2l, 1) := by decide +kernel
theorem dX4_digest_74 : decode cX4_digest 74 = .ok (.invokevirtual 257, 3) := by decide +kernel
theorem dX4_digest_77 : decode cX4_digest 77 = .ok (.iconst 0, 1) := by decide +kernel
theorem dX4_digest_78 : decode cX4_digest 78 = .ok (.istore_n 1, 1) := by decide +kernel
theorem dX4_digest_79 : decode cX4_digest 79 = .ok (.iload_n 1, 1) := by decide +kernel
theorem dX4_digest_80 : decode cX4_digest 80 = .ok (.aload_n 0, 1) := by decide +kernel
theorem dX4_digest_81 : decode cX4_digest 81 = .ok (.getfield 137, 3) := by decide +kernel
theorem dX4_digest_84 : decode cX4_digest 84 = .ok (.if_icmp .ge 20, 3) := by decide +kernel
theorem dX4_digest_87 : decode cX4_digest 87 = .ok (.aload_n 0, 1) := by decide +kernel
theorem dX4_digest_88 : decode cX4_digest 88 = .ok (.aload_n 0, 1) := by decide +kernel
theorem dX4_digest_89 : decode cX4_digest 89 = .ok (.getfield 19, 3) := by decide +kernel
theorem dX4_digest_92 : decode cX4_digest 92 = .ok (.iload_n 1, 1) := by decide +kernel
theorem dX4_digest_93 : decode cX4_digest 93 = .ok (.iaload, 1) := by decide +kernel
theorem dX4_digest_94 : decode cX4_digest 94 = .ok (.i2l, 1) := by decide +kernel
theorem dX4_digest_95 : decode cX4_digest 95 = .ok (.invokevirtual 257, 3) := by decide +kernel
theorem dX4_digest_98 : decode cX4_digest 98 = .ok (.iinc 1 1, 3) := by decide +kernel
theorem dX4_digest_101 : decode cX4_digest 101 = .ok (.goto (-22), 3) := by decide +kernel
theorem dX4_digest_104 : decode cX4_digest 104 = .ok (.aload_n 0, 1) := by decide +kernel
theorem dX4_digest_105 : decode cX4_digest 105 = .ok (.getfield 253, 3) := by decide +kernel
theorem dX4_digest_108 : decode cX4_digest 108 = .ok (.lreturn, 1) := by decide +kernel
theorem dJxe99ae_isNaN_b9ae7_0 : decode cJxe99ae_isNaN_b9ae7 0 = .ok (.dload_n 0, 1) := by decide +kernel
theorem dJxe99ae_isNaN_b9ae7_1 : decode cJxe99ae_isNaN_b9ae7 1 = .ok (.dload_n 0, 1) := by decide +kernel
theorem dJxe99ae_isNaN_b9ae7_2 : decode cJxe99ae_isNaN_b9ae7 2 = .ok (.dcmp .l, 1) := by decide +kernel
theorem dJxe99ae_isNaN_b9ae7_3 : decode cJxe99ae_isNaN_b9ae7 3 = .ok (.ifCond .eq 7, 3) := by decide +kernel
theorem dJxe99ae_isNaN_b9ae7_6 : decode cJxe99ae_isNaN_b9ae7 6 = .ok (.iconst 1, 1) := by decide +kernel
theorem dJxe99ae_isNaN_b9ae7_7 : decode cJxe99ae_isNaN_b9ae7 7 = .ok (.goto 4, 3) := by decide +kernel
theorem dJxe99ae_isNaN_b9ae7_10 : decode cJxe99ae_isNaN_b9ae7 10 = .ok (.iconst 0, 1) := by decide +kernel
theorem dJxe99ae_isNaN_b9ae7_11 : decode cJxe99ae_isNaN_b9ae7 11 = .ok (.ireturn, 1) := by decide +kernel
theorem dJxe99ae_doubleToLongBits_ccdee_0 : decode cJxe99ae_doubleToLongBits_ccdee 0 = .ok (.dload_n 0, 1) := by decide +kernel
theorem dJxe99ae_doubleToLongBits_ccdee_1 : decode cJxe99ae_doubleToLongBits_ccdee 1 = .ok (.invokestatic 122, 3) := by decide +kernel
theorem dJxe99ae_doubleToLongBits_ccdee_4 : decode cJxe99ae_doubleToLongBits_ccdee 4 = .ok (.ifCond .ne 8, 3) := by decide +kernel
theorem dJxe99ae_doubleToLongBits_ccdee_7 : decode cJxe99ae_doubleToLongBits_ccdee 7 = .ok (.dload_n 0, 1) := by decide +kernel
theorem dJxe99ae_doubleToLongBits_ccdee_8 : decode cJxe99ae_doubleToLongBits_ccdee 8 = .ok (.invokestatic 134, 3) := by decide +kernel
theorem dJxe99ae_doubleToLongBits_ccdee_11 : decode cJxe99ae_doubleToLongBits_ccdee 11 = .ok (.lreturn, 1) := by decide +kernel
theorem dJxe99ae_doubleToLongBits_ccdee_12 : decode cJxe99ae_doubleToLongBits_ccdee 12 = .ok (.ldc2_w 137, 3) := by decide +kernel
theorem dJxe99ae_doubleToLongBits_ccdee_15 : decode cJxe99ae_doubleToLongBits_ccdee 15 = .ok (.lreturn, 1) := by decide +kernel
theorem dJ6_bitCount_0f7a4_0 : decode cJ6_bitCount_0f7a4 0 = .ok (.iload_n 0, 1) := by decide +kernel
theorem dJ6_bitCount_0f7a4_1 : decode cJ6_bitCount_0f7a4 1 = .ok (.iload_n 0, 1) := by decide +kernel
theorem dJ6_bitCount_0f7a4_2 : decode cJ6_bitCount_0f7a4 2 = .ok (.iconst 1, 1) := by decide +kernel
theorem dJ6_bitCount_0f7a4_3 : decode cJ6_bitCount_0f7a4 3 = .ok (.iushr, 1) := by decide +kernel
theorem dJ6_bitCount_0f7a4_4 : decode cJ6_bitCount_0f7a4 4 = .ok (.ldc_w 265, 3) := by decide +kernel
theorem dJ6_bitCount_0f7a4_7 : decode cJ6_bitCount_0f7a4 7 = .ok (.iand, 1) := by decide +kernel
theorem dJ6_bitCount_0f7a4_8 : decode cJ6_bitCount_0f7a4 8 = .ok (.isub, 1) := by decide +kernel
theorem dJ6_bitCount_0f7a4_9 : decode cJ6_bitCount_0f7a4 9 = .ok (.istore_n 0, 1) := by decide +kernel
theorem dJ6_bitCount_0f7a4_10 : decode cJ6_bitCount_0f7a4 10 = .ok (.iload_n 0, 1) := by decide +kernel
theorem dJ6_bitCount_0f7a4_11 : decode cJ6_bitCount_0f7a4 11 = .ok (.ldc_w 266, 3) := by decide +kernel
theorem dJ6_bitCount_0f7a4_14 : decode cJ6_bitCount_0f7a4 14 = .ok (.iand, 1) := by decide +kernel
theorem dJ6_bitCount_0f7a4_15 : decode cJ6_bitCount_0f7a4 15 = .ok (.iload_n 0, 1) := by decide +kernel
theorem dJ6_bitCount_0f7a4_16 : decode cJ6_bitCount_0f7a4 16 = .ok (.iconst 2, 1) := by decide +kernel
theorem dJ6_bitCount_0f7a4_17 : decode cJ6_bitCount_0f7a4 17 = .ok (.iushr, 1) := by decide +kernel
theorem dJ6_bitCount_0f7a4_18 : decode cJ6_bitCount_0f7a4 18 = .ok (.ldc_w 266, 3) := by decide +kernel
theorem dJ6_bitCount_0f7a4_21 : decode cJ6_bitCount_0f7a4 21 = .ok (.iand, 1) := by decide +kernel
theorem dJ6_bitCount_0f7a4_22 : decode cJ6_bitCount_0f7a4 22 = .ok (.iadd, 1) := by decide +kernel
theorem dJ6_bitCount_0f7a4_23 : decode cJ6_bitCount_0f7a4 23 = .ok (.istore_n 0, 1) := by decide +kernel
theorem dJ6_bitCount_0f7a4_24 : decode cJ6_bitCount_0f7a4 24 = .ok (.iload_n 0, 1) := by decide +kernel
theorem dJ6_bitCount_0f7a4_25 : decode cJ6_bitCount_0f7a4 25 = .ok (.iload_n 0, 1) := by decide +kernel
theorem dJ6_bitCount_0f7a4_26 : decode cJ6_bitCount_0f7a4 26 = .ok (.iconst 4, 1) := by decide +kernel
theorem dJ6_bitCount_0f7a4_27 : decode cJ6_bitCount_0f7a4 27 = .ok (.iushr, 1) := by decide +kernel
theorem dJ6_bitCount_0f7a4_28 : decode cJ6_bitCount_0f7a4 28 = .ok (.iadd, 1) := by decide +kernel
theorem dJ6_bitCount_0f7a4_29 : decode cJ6_bitCount_0f7a4 29 = .ok (.ldc_w 267, 3) := by decide +kernel
theorem dJ6_bitCount_0f7a4_32 : decode cJ6_bitCount_0f7a4 32 = .ok (.iand, 1) := by decide +kernel
theorem dJ6_bitCount_0f7a4_33 : decode cJ6_bitCount_0f7a4 33 = .ok (.istore_n 0, 1) := by decide +kernel
theorem dJ6_bitCount_0f7a4_34 : decode cJ6_bitCount_0f7a4 34 = .ok (.iload_n 0, 1) := by decide +kernel
theorem dJ6_bitCount_0f7a4_35 : decode cJ6_bitCount_0f7a4 35 = .ok (.iload_n 0, 1) := by decide +kernel
theorem dJ6_bitCount_0f7a4_36 : decode cJ6_bitCount_0f7a4 36 = .ok (.bipush 8, 2) := by decide +kernel
theorem dJ6_bitCount_0f7a4_38 : decode cJ6_bitCount_0f7a4 38 = .ok (.iushr, 1) := by decide +kernel
theorem dJ6_bitCount_0f7a4_39 : decode cJ6_bitCount_0f7a4 39 = .ok (.iadd, 1) := by decide +kernel
theorem dJ6_bitCount_0f7a4_40 : decode cJ6_bitCount_0f7a4 40 = .ok (.istore_n 0, 1) := by decide +kernel
theorem dJ6_bitCount_0f7a4_41 : decode cJ6_bitCount_0f7a4 41 = .ok (.iload_n 0, 1) := by decide +kernel
theorem dJ6_bitCount_0f7a4_42 : decode cJ6_bitCount_0f7a4 42 = .ok (.iload_n 0, 1) := by decide +kernel
theorem dJ6_bitCount_0f7a4_43 : decode cJ6_bitCount_0f7a4 43 = .ok (.bipush 16, 2) := by decide +kernel
theorem dJ6_bitCount_0f7a4_45 : decode cJ6_bitCount_0f7a4 45 = .ok (.iushr, 1) := by decide +kernel
theorem dJ6_bitCount_0f7a4_46 : decode cJ6_bitCount_0f7a4 46 = .ok (.iadd, 1) := by decide +kernel
theorem dJ6_bitCount_0f7a4_47 : decode cJ6_bitCount_0f7a4 47 = .ok (.istore_n 0, 1) := by decide +kernel
theorem dJ6_bitCount_0f7a4_48 : decode cJ6_bitCount_0f7a4 48 = .ok (.iload_n 0, 1) := by decide +kernel
theorem dJ6_bitCount_0f7a4_49 : decode cJ6_bitCount_0f7a4 49 = .ok (.bipush 63, 2) := by decide +kernel
theorem dJ6_bitCount_0f7a4_51 : decode cJ6_bitCount_0f7a4 51 = .ok (.iand, 1) := by decide +kernel
theorem dJ6_bitCount_0f7a4_52 : decode cJ6_bitCount_0f7a4 52 = .ok (.ireturn, 1) := by decide +kernel
theorem dJ9_max_7cf53_0 : decode cJ9_max_7cf53 0 = .ok (.iload_n 0, 1) := by decide +kernel
theorem dJ9_max_7cf53_1 : decode cJ9_max_7cf53 1 = .ok (.iload_n 1, 1) := by decide +kernel
theorem dJ9_max_7cf53_2 : decode cJ9_max_7cf53 2 = .ok (.if_icmp .lt 7, 3) := by decide +kernel
theorem dJ9_max_7cf53_5 : decode cJ9_max_7cf53 5 = .ok (.iload_n 0, 1) := by decide +kernel
theorem dJ9_max_7cf53_6 : decode cJ9_max_7cf53 6 = .ok (.goto 4, 3) := by decide +kernel
theorem dJ9_max_7cf53_9 : decode cJ9_max_7cf53 9 = .ok (.iload_n 1, 1) := by decide +kernel
theorem dJ9_max_7cf53_10 : decode cJ9_max_7cf53 10 = .ok (.ireturn, 1) := by decide +kernel
theorem dL_film_0 : decode cL_film 0 = .ok (.aload_n 3, 1) := by decide +kernel
theorem dL_film_1 : decode cL_film 1 = .ok (.iconst 0, 1) := by decide +kernel
theorem dL_film_2 : decode cL_film 2 = .ok (.aload_n 0, 1) := by decide +kernel
theorem dL_film_3 : decode cL_film 3 = .ok (.iload_n 1, 1) := by decide +kernel
theorem dL_film_4 : decode cL_film 4 = .ok (.iload_n 2, 1) := by decide +kernel
theorem dL_film_5 : decode cL_film 5 = .ok (.invokevirtual 7, 3) := by decide +kernel
theorem dL_film_8 : decode cL_film 8 = .ok (.i2l, 1) := by decide +kernel
theorem dL_film_9 : decode cL_film 9 = .ok (.lastore, 1) := by decide +kernel
theorem dL_film_10 : decode cL_film 10 = .ok (.goto 11, 3) := by decide +kernel
theorem dL_film_13 : decode cL_film 13 = .ok (.astore 4, 2) := by decide +kernel
theorem dL_film_15 : decode cL_film 15 = .ok (.iconst 1, 1) := by decide +kernel
theorem dL_film_16 : decode cL_film 16 = .ok (.ireturn, 1) := by decide +kernel
theorem dL_film_17 : decode cL_film 17 = .ok (.astore 4, 2) := by decide +kernel
theorem dL_film_19 : decode cL_film 19 = .ok (.iconst 2, 1) := by decide +kernel
theorem dL_film_20 : decode cL_film 20 = .ok (.ireturn, 1) := by decide +kernel
theorem dL_film_21 : decode cL_film 21 = .ok (.iconst 0, 1) := by decide +kernel
theorem dL_film_22 : decode cL_film 22 = .ok (.ireturn, 1) := by decide +kernel
theorem dL_seats_0 : decode cL_seats 0 = .ok (.aload_n 3, 1) := by decide +kernel
theorem dL_seats_1 : decode cL_seats 1 = .ok (.iconst 0, 1) := by decide +kernel
theorem dL_seats_2 : decode cL_seats 2 = .ok (.aload_n 0, 1) := by decide +kernel
theorem dL_seats_3 : decode cL_seats 3 = .ok (.iload_n 1, 1) := by decide +kernel
theorem dL_seats_4 : decode cL_seats 4 = .ok (.iload_n 2, 1) := by decide +kernel
theorem dL_seats_5 : decode cL_seats 5 = .ok (.invokevirtual 17, 3) := by decide +kernel
theorem dL_seats_8 : decode cL_seats 8 = .ok (.i2l, 1) := by decide +kernel
theorem dL_seats_9 : decode cL_seats 9 = .ok (.lastore, 1) := by decide +kernel
theorem dL_seats_10 : decode cL_seats 10 = .ok (.goto 11, 3) := by decide +kernel
theorem dL_seats_13 : decode cL_seats 13 = .ok (.astore 4, 2) := by decide +kernel
theorem dL_seats_15 : decode cL_seats 15 = .ok (.iconst 1, 1) := by decide +kernel
theorem dL_seats_16 : decode cL_seats 16 = .ok (.ireturn, 1) := by decide +kernel
theorem dL_seats_17 : decode cL_seats 17 = .ok (.astore 4, 2) := by decide +kernel
theorem dL_seats_19 : decode cL_seats 19 = .ok (.iconst 2, 1) := by decide +kernel
theorem dL_seats_20 : decode cL_seats 20 = .ok (.ireturn, 1) := by decide +kernel
theorem dL_seats_21 : decode cL_seats 21 = .ok (.iconst 0, 1) := by decide +kernel
theorem dL_seats_22 : decode cL_seats 22 = .ok (.ireturn, 1) := by decide +kernel
theorem dL_set_0 : decode cL_set 0 = .ok (.aload_n 3, 1) := by decide +kernel
theorem dL_set_1 : decode cL_set 1 = .ok (.iconst 0, 1) := by decide +kernel
theorem dL_set_2 : decode cL_set 2 = .ok (.aload_n 0, 1) := by decide +kernel
theorem dL_set_3 : decode cL_set 3 = .ok (.iload_n 1, 1) := by decide +kernel
theorem dL_set_4 : decode cL_set 4 = .ok (.iload_n 2, 1) := by decide +kernel
theorem dL_set_5 : decode cL_set 5 = .ok (.invokevirtual 22, 3) := by decide +kernel
theorem dL_set_8 : decode cL_set 8 = .ok (.i2l, 1) := by decide +kernel
theorem dL_set_9 : decode cL_set 9 = .ok (.lastore, 1) := by decide +kernel
theorem dL_set_10 : decode cL_set 10 = .ok (.goto 11, 3) := by decide +kernel
theorem dL_set_13 : decode cL_set 13 = .ok (.astore 4, 2) := by decide +kernel
theorem dL_set_15 : decode cL_set 15 = .ok (.iconst 1, 1) := by decide +kernel
theorem dL_set_16 : decode cL_set 16 = .ok (.ireturn, 1) := by decide +kernel
theorem dL_set_17 : decode cL_set 17 = .ok (.astore 4, 2) := by decide +kernel
theorem dL_set_19 : decode cL_set 19 = .ok (.iconst 2, 1) := by decide +kernel
theorem dL_set_20 : decode cL_set 20 = .ok (.ireturn, 1) := by decide +kernel
theorem dL_set_21 : decode cL_set 21 = .ok (.iconst 0, 1) := by decide +kernel
theorem dL_set_22 : decode cL_set 22 = .ok (.ireturn, 1) := by decide +kernel
theorem dL_show_0 : decode cL_show 0 = .ok (.aload 5, 2) := by decide +kernel
theorem dL_show_2 : decode cL_show 2 = .ok (.iconst 0, 1) := by decide +kernel
theorem dL_show_3 : decode cL_show 3 = .ok (.aload_n 0, 1) := by decide +kernel
theorem dL_show_4 : decode cL_show 4 = .ok (.iload_n 1, 1) := by decide +kernel
theorem dL_show_5 : decode cL_show 5 = .ok (.iload_n 2, 1) := by decide +kernel
theorem dL_show_6 : decode cL_show 6 = .ok (.iload_n 3, 1) := by decide +kernel
theorem dL_show_7 : decode cL_show 7 = .ok (.iload 4, 2) := by decide +kernel
theorem dL_show_9 : decode cL_show 9 = .ok (.invokevirtual 25, 3) := by decide +kernel
theorem dL_show_12 : decode cL_show 12 = .ok (.i2l, 1) := by decide +kernel
theorem dL_show_13 : decode cL_show 13 = .ok (.lastore, 1) := by decide +kernel
theorem dL_show_14 : decode cL_show 14 = .ok (.goto 15, 3) := by decide +kernel
theorem dL_show_17 : decode cL_show 17 = .ok (.astore 6, 2) := by decide +kernel
theorem dL_show_19 : decode cL_show 19 = .ok (.iconst 1, 1) := by decide +kernel
theorem dL_show_20 : decode cL_show 20 = .ok (.ireturn, 1) := by decide +kernel
theorem dL_show_21 : decode cL_show 21 = .ok (.astore 6, 2) := by decide +kernel
theorem dL_show_23 : decode cL_show 23 = .ok (.iconst 2, 1) := by decide +kernel
theorem dL_show_24 : decode cL_show 24 = .ok (.ireturn, 1) := by decide +kernel
theorem dL_show_25 : decode cL_show 25 = .ok (.astore 6, 2) := by decide +kernel
theorem dL_show_27 : decode cL_show 27 = .ok (.iconst 3, 1) := by decide +kernel
theorem dL_show_28 : decode cL_show 28 = .ok (.ireturn, 1) := by decide +kernel
theorem dL_show_29 : decode cL_show 29 = .ok (.iconst 0, 1) := by decide +kernel
theorem dL_show_30 : decode cL_show 30 = .ok (.ireturn, 1) := by decide +kernel
theorem dL_callOff_0 : decode cL_callOff 0 = .ok (.aload_n 2, 1) := by decide +kernel
theorem dL_callOff_1 : decode cL_callOff 1 = .ok (.iconst 0, 1) := by decide +kernel
theorem dL_callOff_2 : decode cL_callOff 2 = .ok (.aload_n 0, 1) := by decide +kernel
theorem dL_callOff_3 : decode cL_callOff 3 = .ok (.iload_n 1, 1) := by decide +kernel
theorem dL_callOff_4 : decode cL_callOff 4 = .ok (.invokevirtual 29, 3) := by decide +kernel
theorem dL_callOff_7 : decode cL_callOff 7 = .ok (.i2l, 1) := by decide +kernel
theorem dL_callOff_8 : decode cL_callOff 8 = .ok (.lastore, 1) := by decide +kernel
theorem dL_callOff_9 : decode cL_callOff 9 = .ok (.goto 6, 3) := by decide +kernel
theorem dL_callOff_12 : decode cL_callOff 12 = .ok (.astore_n 3, 1) := by decide +kernel
theorem dL_callOff_13 : decode cL_callOff 13 = .ok (.iconst 1, 1) := by decide +kernel
theorem dL_callOff_14 : decode cL_callOff 14 = .ok (.ireturn, 1) := by decide +kernel
theorem dL_callOff_15 : decode cL_callOff 15 = .ok (.iconst 0, 1) := by decide +kernel
theorem dL_callOff_16 : decode cL_callOff 16 = .ok (.ireturn, 1) := by decide +kernel
theorem dL_move_0 : decode cL_move 0 = .ok (.aload_n 3, 1) := by decide +kernel
theorem dL_move_1 : decode cL_move 1 = .ok (.iconst 0, 1) := by decide +kernel
theorem dL_move_2 : decode cL_move 2 = .ok (.aload_n 0, 1) := by decide +kernel
theorem dL_move_3 : decode cL_move 3 = .ok (.iload_n 1, 1) := by decide +kernel
theorem dL_move_4 : decode cL_move 4 = .ok (.iload_n 2, 1) := by decide +kernel
theorem dL_move_5 : decode cL_move 5 = .ok (.invokevirtual 33, 3) := by decide +kernel
theorem dL_move_8 : decode cL_move 8 = .ok (.i2l, 1) := by decide +kernel
theorem dL_move_9 : decode cL_move 9 = .ok (.lastore, 1) := by decide +kernel
theorem dL_move_10 : decode cL_move 10 = .ok (.goto 15, 3) := by decide +kernel
theorem dL_move_13 : decode cL_move 13 = .ok (.astore 4, 2) := by decide +kernel
theorem dL_move_15 : decode cL_move 15 = .ok (.iconst 1, 1) := by decide +kernel
theorem dL_move_16 : decode cL_move 16 = .ok (.ireturn, 1) := by decide +kernel
theorem dL_move_17 : decode cL_move 17 = .ok (.astore 4, 2) := by decide +kernel
theorem dL_move_19 : decode cL_move 19 = .ok (.iconst 2, 1) := by decide +kernel
theorem dL_move_20 : decode cL_move 20 = .ok (.ireturn, 1) := by decide +kernel
theorem dL_move_21 : decode cL_move 21 = .ok (.astore 4, 2) := by decide +kernel
theorem dL_move_23 : decode cL_move 23 = .ok (.iconst 3, 1) := by decide +kernel
theorem dL_move_24 : decode cL_move 24 = .ok (.ireturn, 1) := by decide +kernel
theorem dL_move_25 : decode cL_move 25 = .ok (.iconst 0, 1) := by decide +kernel
theorem dL_move_26 : decode cL_move 26 = .ok (.ireturn, 1) := by decide +kernel
theorem dL_guest_0 : decode cL_guest 0 = .ok (.aload 4, 2) := by decide +kernel
theorem dL_guest_2 : decode cL_guest 2 = .ok (.iconst 0, 1) := by decide +kernel
theorem dL_guest_3 : decode cL_guest 3 = .ok (.aload_n 0, 1) := by decide +kernel
theorem dL_guest_4 : decode cL_guest 4 = .ok (.iload_n 1, 1) := by decide +kernel
theorem dL_guest_5 : decode cL_guest 5 = .ok (.iload_n 2, 1) := by decide +kernel
theorem dL_guest_6 : decode cL_guest 6 = .ok (.iload_n 3, 1) := by decide +kernel
theorem dL_guest_7 : decode cL_guest 7 = .ok (.invokevirtual 36, 3) := by decide +kernel
theorem dL_guest_10 : decode cL_guest 10 = .ok (.i2l, 1) := by decide +kernel
theorem dL_guest_11 : decode cL_guest 11 = .ok (.lastore, 1) := by decide +kernel
theorem dL_guest_12 : decode cL_guest 12 = .ok (.goto 15, 3) := by decide +kernel
theorem dL_guest_15 : decode cL_guest 15 = .ok (.astore 5, 2) := by decide +kernel
theorem dL_guest_17 : decode cL_guest 17 = .ok (.iconst 1, 1) := by decide +kernel
theorem dL_guest_18 : decode cL_guest 18 = .ok (.ireturn, 1) := by decide +kernel
theorem dL_guest_19 : decode cL_guest 19 = .ok (.astore 5, 2) := by decide +kernel
theorem dL_guest_21 : decode cL_guest 21 = .ok (.iconst 2, 1) := by decide +kernel
theorem dL_guest_22 : decode cL_guest 22 = .ok (.ireturn, 1) := by decide +kernel
theorem dL_guest_23 : decode cL_guest 23 = .ok (.astore 5, 2) := by decide +kernel
theorem dL_guest_25 : decode cL_guest 25 = .ok (.iconst 3, 1) := by decide +kernel
theorem dL_guest_26 : decode cL_guest 26 = .ok (.ireturn, 1) := by decide +kernel
theorem dL_guest_27 : decode cL_guest 27 = .ok (.iconst 0, 1) := by decide +kernel
theorem dL_guest_28 : decode cL_guest 28 = .ok (.ireturn, 1) := by decide +kernel
theorem dL_attend_0 : decode cL_attend 0 = .ok (.aload_n 3, 1) := by decide +kernel
theorem dL_attend_1 : decode cL_attend 1 = .ok (.iconst 0, 1) := by decide +kernel
theorem dL_attend_2 : decode cL_attend 2 = .ok (.aload_n 0, 1) := by decide +kernel
theorem dL_attend_3 : decode cL_attend 3 = .ok (.iload_n 1, 1) := by decide +kernel
theorem dL_attend_4 : decode cL_attend 4 = .ok (.iload_n 2, 1) := by decide +kernel
theorem dL_attend_5 : decode cL_attend 5 = .ok (.invokevirtual 40, 3) := by decide +kernel
theorem dL_attend_8 : decode cL_attend 8 = .ok (.i2l, 1) := by decide +kernel
theorem dL_attend_9 : decode cL_attend 9 = .ok (.lastore, 1) := by decide +kernel
theorem dL_attend_10 : decode cL_attend 10 = .ok (.goto 11, 3) := by decide +kernel
theorem dL_attend_13 : decode cL_attend 13 = .ok (.astore 4, 2) := by decide +kernel
theorem dL_attend_15 : decode cL_attend 15 = .ok (.iconst 1, 1) := by decide +kernel
theorem dL_attend_16 : decode cL_attend 16 = .ok (.ireturn, 1) := by decide +kernel
theorem dL_attend_17 : decode cL_attend 17 = .ok (.astore 4, 2) := by decide +kernel
theorem dL_attend_19 : decode cL_attend 19 = .ok (.iconst 2, 1) := by decide +kernel
theorem dL_attend_20 : decode cL_attend 20 = .ok (.ireturn, 1) := by decide +kernel
theorem dL_attend_21 : decode cL_attend 21 = .ok (.iconst 0, 1) := by decide +kernel
theorem dL_attend_22 : decode cL_attend 22 = .ok (.ireturn, 1) := by decide +kernel
theorem dL_vote_0 : decode cL_vote 0 = .ok (.aload 4, 2) := by decide +kernel
theorem dL_vote_2 : decode cL_vote 2 = .ok (.iconst 0, 1) := by decide +kernel
theorem dL_vote_3 : decode cL_vote 3 = .ok (.aload_n 0, 1) := by decide +kernel
theorem dL_vote_4 : decode cL_vote 4 = .ok (.iload_n 1, 1) := by decide +kernel
theorem dL_vote_5 : decode cL_vote 5 = .ok (.iload_n 2, 1) := by decide +kernel
theorem dL_vote_6 : decode cL_vote 6 = .ok (.iload_n 3, 1) := by decide +kernel
theorem dL_vote_7 : decode cL_vote 7 = .ok (.invokevirtual 43, 3) := by decide +kernel
theorem dL_vote_10 : decode cL_vote 10 = .ok (.i2l, 1) := by decide +kernel
theorem dL_vote_11 : decode cL_vote 11 = .ok (.lastore, 1) := by decide +kernel
theorem dL_vote_12 : decode cL_vote 12 = .ok (.goto 15, 3) := by decide +kernel
theorem dL_vote_15 : decode cL_vote 15 = .ok (.astore 5, 2) := by decide +kernel
theorem dL_vote_17 : decode cL_vote 17 = .ok (.iconst 1, 1) := by decide +kernel
theorem dL_vote_18 : decode cL_vote 18 = .ok (.ireturn, 1) := by decide +kernel
theorem dL_vote_19 : decode cL_vote 19 = .ok (.astore 5, 2) := by decide +kernel
theorem dL_vote_21 : decode cL_vote 21 = .ok (.iconst 2, 1) := by decide +kernel
theorem dL_vote_22 : decode cL_vote 22 = .ok (.ireturn, 1) := by decide +kernel
theorem dL_vote_23 : decode cL_vote 23 = .ok (.astore 5, 2) := by decide +kernel
theorem dL_vote_25 : decode cL_vote 25 = .ok (.iconst 3, 1) := by decide +kernel
theorem dL_vote_26 : decode cL_vote 26 = .ok (.ireturn, 1) := by decide +kernel
theorem dL_vote_27 : decode cL_vote 27 = .ok (.iconst 0, 1) := by decide +kernel
theorem dL_vote_28 : decode cL_vote 28 = .ok (.ireturn, 1) := by decide +kernel
theorem dL_append_0 : decode cL_append 0 = .ok (.aload_n 2, 1) := by decide +kernel
theorem dL_append_1 : decode cL_append 1 = .ok (.iconst 0, 1) := by decide +kernel
theorem dL_append_2 : decode cL_append 2 = .ok (.aload_n 0, 1) := by decide +kernel
theorem dL_append_3 : decode cL_append 3 = .ok (.iload_n 1, 1) := by decide +kernel
theorem dL_append_4 : decode cL_append 4 = .ok (.invokevirtual 46, 3) := by decide +kernel
theorem dL_append_7 : decode cL_append 7 = .ok (.i2l, 1) := by decide +kernel
theorem dL_append_8 : decode cL_append 8 = .ok (.lastore, 1) := by decide +kernel
theorem dL_append_9 : decode cL_append 9 = .ok (.goto 9, 3) := by decide +kernel
theorem dL_append_12 : decode cL_append 12 = .ok (.astore_n 3, 1) := by decide +kernel
theorem dL_append_13 : decode cL_append 13 = .ok (.iconst 1, 1) := by decide +kernel
theorem dL_append_14 : decode cL_append 14 = .ok (.ireturn, 1) := by decide +kernel
theorem dL_append_15 : decode cL_append 15 = .ok (.astore_n 3, 1) := by decide +kernel
theorem dL_append_16 : decode cL_append 16 = .ok (.iconst 2, 1) := by decide +kernel
theorem dL_append_17 : decode cL_append 17 = .ok (.ireturn, 1) := by decide +kernel
theorem dL_append_18 : decode cL_append 18 = .ok (.iconst 0, 1) := by decide +kernel
theorem dL_append_19 : decode cL_append 19 = .ok (.ireturn, 1) := by decide +kernel
theorem dL_program_0 : decode cL_program 0 = .ok (.aload_n 1, 1) := by decide +kernel
theorem dL_program_1 : decode cL_program 1 = .ok (.iconst 0, 1) := by decide +kernel
theorem dL_program_2 : decode cL_program 2 = .ok (.aload_n 0, 1) := by decide +kernel
theorem dL_program_3 : decode cL_program 3 = .ok (.invokevirtual 49, 3) := by decide +kernel
theorem dL_program_6 : decode cL_program 6 = .ok (.i2l, 1) := by decide +kernel
theorem dL_program_7 : decode cL_program 7 = .ok (.lastore, 1) := by decide +kernel
theorem dL_program_8 : decode cL_program 8 = .ok (.goto 6, 3) := by decide +kernel
theorem dL_program_11 : decode cL_program 11 = .ok (.astore_n 2, 1) := by decide +kernel
theorem dL_program_12 : decode cL_program 12 = .ok (.iconst 1, 1) := by decide +kernel
theorem dL_program_13 : decode cL_program 13 = .ok (.ireturn, 1) := by decide +kernel
theorem dL_program_14 : decode cL_program 14 = .ok (.iconst 0, 1) := by decide +kernel
theorem dL_program_15 : decode cL_program 15 = .ok (.ireturn, 1) := by decide +kernel
theorem dL_stopped_0 : decode cL_stopped 0 = .ok (.aload_n 2, 1) := by decide +kernel
theorem dL_stopped_1 : decode cL_stopped 1 = .ok (.iconst 0, 1) := by decide +kernel
theorem dL_stopped_2 : decode cL_stopped 2 = .ok (.aload_n 0, 1) := by decide +kernel
theorem dL_stopped_3 : decode cL_stopped 3 = .ok (.iload_n 1, 1) := by decide +kernel
theorem dL_stopped_4 : decode cL_stopped 4 = .ok (.invokevirtual 53, 3) := by decide +kernel
theorem dL_stopped_7 : decode cL_stopped 7 = .ok (.i2l, 1) := by decide +kernel
theorem dL_stopped_8 : decode cL_stopped 8 = .ok (.lastore, 1) := by decide +kernel
theorem dL_stopped_9 : decode cL_stopped 9 = .ok (.goto 6, 3) := by decide +kernel
theorem dL_stopped_12 : decode cL_stopped 12 = .ok (.astore_n 3, 1) := by decide +kernel
theorem dL_stopped_13 : decode cL_stopped 13 = .ok (.iconst 1, 1) := by decide +kernel
theorem dL_stopped_14 : decode cL_stopped 14 = .ok (.ireturn, 1) := by decide +kernel
theorem dL_stopped_15 : decode cL_stopped 15 = .ok (.iconst 0, 1) := by decide +kernel
theorem dL_stopped_16 : decode cL_stopped 16 = .ok (.ireturn, 1) := by decide +kernel
theorem dL_undo_0 : decode cL_undo 0 = .ok (.aload_n 1, 1) := by decide +kernel
theorem dL_undo_1 : decode cL_undo 1 = .ok (.iconst 0, 1) := by decide +kernel
theorem dL_undo_2 : decode cL_undo 2 = .ok (.aload_n 0, 1) := by decide +kernel
theorem dL_undo_3 : decode cL_undo 3 = .ok (.invokevirtual 56, 3) := by decide +kernel
theorem dL_undo_6 : decode cL_undo 6 = .ok (.i2l, 1) := by decide +kernel
theorem dL_undo_7 : decode cL_undo 7 = .ok (.lastore, 1) := by decide +kernel
theorem dL_undo_8 : decode cL_undo 8 = .ok (.goto 6, 3) := by decide +kernel
theorem dL_undo_11 : decode cL_undo 11 = .ok (.astore_n 2, 1) := by decide +kernel
theorem dL_undo_12 : decode cL_undo 12 = .ok (.iconst 1, 1) := by decide +kernel
theorem dL_undo_13 : decode cL_undo 13 = .ok (.ireturn, 1) := by decide +kernel
theorem dL_undo_14 : decode cL_undo 14 = .ok (.iconst 0, 1) := by decide +kernel
theorem dL_undo_15 : decode cL_undo 15 = .ok (.ireturn, 1) := by decide +kernel
theorem dL_restore_0 : decode cL_restore 0 = .ok (.aload_n 1, 1) := by decide +kernel
theorem dL_restore_1 : decode cL_restore 1 = .ok (.iconst 0, 1) := by decide +kernel
theorem dL_restore_2 : decode cL_restore 2 = .ok (.aload_n 0, 1) := by decide +kernel
theorem dL_restore_3 : decode cL_restore 3 = .ok (.invokevirtual 59, 3) := by decide +kernel
theorem dL_restore_6 : decode cL_restore 6 = .ok (.i2l, 1) := by decide +kernel
theorem dL_restore_7 : decode cL_restore 7 = .ok (.lastore, 1) := by decide +kernel
theorem dL_restore_8 : decode cL_restore 8 = .ok (.goto 6, 3) := by decide +kernel
theorem dL_restore_11 : decode cL_restore 11 = .ok (.astore_n 2, 1) := by decide +kernel
theorem dL_restore_12 : decode cL_restore 12 = .ok (.iconst 1, 1) := by decide +kernel
theorem dL_restore_13 : decode cL_restore 13 = .ok (.ireturn, 1) := by decide +kernel
theorem dL_restore_14 : decode cL_restore 14 = .ok (.iconst 0, 1) := by decide +kernel
theorem dL_restore_15 : decode cL_restore 15 = .ok (.ireturn, 1) := by decide +kernel
theorem dL_filmOf_0 : decode cL_filmOf 0 = .ok (.aload_n 3, 1) := by decide +kernel
theorem dL_filmOf_1 : decode cL_filmOf 1 = .ok (.iconst 0, 1) := by decide +kernel
theorem dL_filmOf_2 : decode cL_filmOf 2 = .ok (.aload_n 0, 1) := by decide +kernel
theorem dL_filmOf_3 : decode cL_filmOf 3 = .ok (.iload_n 1, 1) := by decide +kernel
theorem dL_filmOf_4 : decode cL_filmOf 4 = .ok (.iload_n 2, 1) := by decide +kernel
theorem dL_filmOf_5 : decode cL_filmOf 5 = .ok (.invokevirtual 62, 3) := by decide +kernel
theorem dL_filmOf_8 : decode cL_filmOf 8 = .ok (.i2l, 1) := by decide +kernel
theorem dL_filmOf_9 : decode cL_filmOf 9 = .ok (.lastore, 1) := by decide +kernel
theorem dL_filmOf_10 : decode cL_filmOf 10 = .ok (.goto 11, 3) := by decide +kernel
theorem dL_filmOf_13 : decode cL_filmOf 13 = .ok (.astore 4, 2) := by decide +kernel
theorem dL_filmOf_15 : decode cL_filmOf 15 = .ok (.iconst 1, 1) := by decide +kernel
theorem dL_filmOf_16 : decode cL_filmOf 16 = .ok (.ireturn, 1) := by decide +kernel
theorem dL_filmOf_17 : decode cL_filmOf 17 = .ok (.astore 4, 2) := by decide +kernel
theorem dL_filmOf_19 : decode cL_filmOf 19 = .ok (.iconst 2, 1) := by decide +kernel
theorem dL_filmOf_20 : decode cL_filmOf 20 = .ok (.ireturn, 1) := by decide +kernel
theorem dL_filmOf_21 : decode cL_filmOf 21 = .ok (.iconst 0, 1) := by decide +kernel
theorem dL_filmOf_22 : decode cL_filmOf 22 = .ok (.ireturn, 1) := by decide +kernel
theorem dL_showing_0 : decode cL_showing 0 = .ok (.aload_n 3, 1) := by decide +kernel
theorem dL_showing_1 : decode cL_showing 1 = .ok (.iconst 0, 1) := by decide +kernel
theorem dL_showing_2 : decode cL_showing 2 = .ok (.aload_n 0, 1) := by decide +kernel
theorem dL_showing_3 : decode cL_showing 3 = .ok (.iload_n 1, 1) := by decide +kernel
theorem dL_showing_4 : decode cL_showing 4 = .ok (.iload_n 2, 1) := by decide +kernel
theorem dL_showing_5 : decode cL_showing 5 = .ok (.invokevirtual 65, 3) := by decide +kernel
theorem dL_showing_8 : decode cL_showing 8 = .ok (.i2l, 1) := by decide +kernel
theorem dL_showing_9 : decode cL_showing 9 = .ok (.lastore, 1) := by decide +kernel
theorem dL_showing_10 : decode cL_showing 10 = .ok (.goto 11, 3) := by decide +kernel
theorem dL_showing_13 : decode cL_showing 13 = .ok (.astore 4, 2) := by decide +kernel
theorem dL_showing_15 : decode cL_showing 15 = .ok (.iconst 1, 1) := by decide +kernel
theorem dL_showing_16 : decode cL_showing 16 = .ok (.ireturn, 1) := by decide +kernel
theorem dL_showing_17 : decode cL_showing 17 = .ok (.astore 4, 2) := by decide +kernel
theorem dL_showing_19 : decode cL_showing 19 = .ok (.iconst 2, 1) := by decide +kernel
theorem dL_showing_20 : decode cL_showing 20 = .ok (.ireturn, 1) := by decide +kernel
theorem dL_showing_21 : decode cL_showing 21 = .ok (.iconst 0, 1) := by decide +kernel
theorem dL_showing_22 : decode cL_showing 22 = .ok (.ireturn, 1) := by decide +kernel
theorem dL_reel_0 : decode cL_reel 0 = .ok (.aload_n 3, 1) := by decide +kernel
theorem dL_reel_1 : decode cL_reel 1 = .ok (.iconst 0, 1) := by decide +kernel
theorem dL_reel_2 : decode cL_reel 2 = .ok (.aload_n 0, 1) := by decide +kernel
theorem dL_reel_3 : decode cL_reel 3 = .ok (.iload_n 1, 1) := by decide +kernel
theorem dL_reel_4 : decode cL_reel 4 = .ok (.iload_n 2, 1) := by decide +kernel
theorem dL_reel_5 : decode cL_reel 5 = .ok (.invokevirtual 68, 3) := by decide +kernel
theorem dL_reel_8 : decode cL_reel 8 = .ok (.i2l, 1) := by decide +kernel
theorem dL_reel_9 : decode cL_reel 9 = .ok (.lastore, 1) := by decide +kernel
theorem dL_reel_10 : decode cL_reel 10 = .ok (.goto 11, 3) := by decide +kernel
theorem dL_reel_13 : decode cL_reel 13 = .ok (.astore 4, 2) := by decide +kernel
theorem dL_reel_15 : decode cL_reel 15 = .ok (.iconst 1, 1) := by decide +kernel
theorem dL_reel_16 : decode cL_reel 16 = .ok (.ireturn, 1) := by decide +kernel
theorem dL_reel_17 : decode cL_reel 17 = .ok (.astore 4, 2) := by decide +kernel
theorem dL_reel_19 : decode cL_reel 19 = .ok (.iconst 2, 1) := by decide +kernel
theorem dL_reel_20 : decode cL_reel 20 = .ok (.ireturn, 1) := by decide +kernel
theorem dL_reel_21 : decode cL_reel 21 = .ok (.iconst 0, 1) := by decide +kernel
theorem dL_reel_22 : decode cL_reel 22 = .ok (.ireturn, 1) := by decide +kernel
theorem dL_runs_0 : decode cL_runs 0 = .ok (.aload_n 3, 1) := by decide +kernel
theorem dL_runs_1 : decode cL_runs 1 = .ok (.iconst 0, 1) := by decide +kernel
theorem dL_runs_2 : decode cL_runs 2 = .ok (.aload_n 0, 1) := by decide +kernel
theorem dL_runs_3 : decode cL_runs 3 = .ok (.iload_n 1, 1) := by decide +kernel
theorem dL_runs_4 : decode cL_runs 4 = .ok (.iload_n 2, 1) := by decide +kernel
theorem dL_runs_5 : decode cL_runs 5 = .ok (.invokevirtual 71, 3) := by decide +kernel
theorem dL_runs_8 : decode cL_runs 8 = .ok (.i2l, 1) := by decide +kernel
theorem dL_runs_9 : decode cL_runs 9 = .ok (.lastore, 1) := by decide +kernel
theorem dL_runs_10 : decode cL_runs 10 = .ok (.goto 11, 3) := by decide +kernel
theorem dL_runs_13 : decode cL_runs 13 = .ok (.astore 4, 2) := by decide +kernel
theorem dL_runs_15 : decode cL_runs 15 = .ok (.iconst 1, 1) := by decide +kernel
theorem dL_runs_16 : decode cL_runs 16 = .ok (.ireturn, 1) := by decide +kernel
theorem dL_runs_17 : decode cL_runs 17 = .ok (.astore 4, 2) := by decide +kernel
theorem dL_runs_19 : decode cL_runs 19 = .ok (.iconst 2, 1) := by decide +kernel
theorem dL_runs_20 : decode cL_runs 20 = .ok (.ireturn, 1) := by decide +kernel
theorem dL_runs_21 : decode cL_runs 21 = .ok (.iconst 0, 1) := by decide +kernel
theorem dL_runs_22 : decode cL_runs 22 = .ok (.ireturn, 1) := by decide +kernel
theorem dL_screen_0 : decode cL_screen 0 = .ok (.aload_n 3, 1) := by decide +kernel
theorem dL_screen_1 : decode cL_screen 1 = .ok (.iconst 0, 1) := by decide +kernel
theorem dL_screen_2 : decode cL_screen 2 = .ok (.aload_n 0, 1) := by decide +kernel
theorem dL_screen_3 : decode cL_screen 3 = .ok (.iload_n 1, 1) := by decide +kernel
theorem dL_screen_4 : decode cL_screen 4 = .ok (.iload_n 2, 1) := by decide +kernel
theorem dL_screen_5 : decode cL_screen 5 = .ok (.invokevirtual 74, 3) := by decide +kernel
theorem dL_screen_8 : decode cL_screen 8 = .ok (.i2l, 1) := by decide +kernel
theorem dL_screen_9 : decode cL_screen 9 = .ok (.lastore, 1) := by decide +kernel
theorem dL_screen_10 : decode cL_screen 10 = .ok (.goto 11, 3) := by decide +kernel
theorem dL_screen_13 : decode cL_screen 13 = .ok (.astore 4, 2) := by decide +kernel
theorem dL_screen_15 : decode cL_screen 15 = .ok (.iconst 1, 1) := by decide +kernel
theorem dL_screen_16 : decode cL_screen 16 = .ok (.ireturn, 1) := by decide +kernel
theorem dL_screen_17 : decode cL_screen 17 = .ok (.astore 4, 2) := by decide +kernel
theorem dL_screen_19 : decode cL_screen 19 = .ok (.iconst 2, 1) := by decide +kernel
theorem dL_screen_20 : decode cL_screen 20 = .ok (.ireturn, 1) := by decide +kernel
theorem dL_screen_21 : decode cL_screen 21 = .ok (.iconst 0, 1) := by decide +kernel
theorem dL_screen_22 : decode cL_screen 22 = .ok (.ireturn, 1) := by decide +kernel
theorem dL_guestOf_0 : decode cL_guestOf 0 = .ok (.aload_n 3, 1) := by decide +kernel
theorem dL_guestOf_1 : decode cL_guestOf 1 = .ok (.iconst 0, 1) := by decide +kernel
theorem dL_guestOf_2 : decode cL_guestOf 2 = .ok (.aload_n 0, 1) := by decide +kernel
theorem dL_guestOf_3 : decode cL_guestOf 3 = .ok (.iload_n 1, 1) := by decide +kernel
theorem dL_guestOf_4 : decode cL_guestOf 4 = .ok (.iload_n 2, 1) := by decide +kernel
theorem dL_guestOf_5 : decode cL_guestOf 5 = .ok (.invokevirtual 77, 3) := by decide +kernel
theorem dL_guestOf_8 : decode cL_guestOf 8 = .ok (.i2l, 1) := by decide +kernel
theorem dL_guestOf_9 : decode cL_guestOf 9 = .ok (.lastore, 1) := by decide +kernel
theorem dL_guestOf_10 : decode cL_guestOf 10 = .ok (.goto 11, 3) := by decide +kernel
theorem dL_guestOf_13 : decode cL_guestOf 13 = .ok (.astore 4, 2) := by decide +kernel
theorem dL_guestOf_15 : decode cL_guestOf 15 = .ok (.iconst 1, 1) := by decide +kernel
theorem dL_guestOf_16 : decode cL_guestOf 16 = .ok (.ireturn, 1) := by decide +kernel
theorem dL_guestOf_17 : decode cL_guestOf 17 = .ok (.astore 4, 2) := by decide +kernel
theorem dL_guestOf_19 : decode cL_guestOf 19 = .ok (.iconst 2, 1) := by decide +kernel
theorem dL_guestOf_20 : decode cL_guestOf 20 = .ok (.ireturn, 1) := by decide +kernel
theorem dL_guestOf_21 : decode cL_guestOf 21 = .ok (.iconst 0, 1) := by decide +kernel
theorem dL_guestOf_22 : decode cL_guestOf 22 = .ok (.ireturn, 1) := by decide +kernel
theorem dL_juror_0 : decode cL_juror 0 = .ok (.aload_n 3, 1) := by decide +kernel
theorem dL_juror_1 : decode cL_juror 1 = .ok (.iconst 0, 1) := by decide +kernel
theorem dL_juror_2 : decode cL_juror 2 = .ok (.aload_n 0, 1) := by decide +kernel
theorem dL_juror_3 : decode cL_juror 3 = .ok (.iload_n 1, 1) := by decide +kernel
theorem dL_juror_4 : decode cL_juror 4 = .ok (.iload_n 2, 1) := by decide +kernel
theorem dL_juror_5 : decode cL_juror 5 = .ok (.invokevirtual 80, 3) := by decide +kernel
theorem dL_juror_8 : decode cL_juror 8 = .ok (.i2l, 1) := by decide +kernel
theorem dL_juror_9 : decode cL_juror 9 = .ok (.lastore, 1) := by decide +kernel
theorem dL_juror_10 : decode cL_juror 10 = .ok (.goto 11, 3) := by decide +kernel
theorem dL_juror_13 : decode cL_juror 13 = .ok (.astore 4, 2) := by decide +kernel
theorem dL_juror_15 : decode cL_juror 15 = .ok (.iconst 1, 1) := by decide +kernel
theorem dL_juror_16 : decode cL_juror 16 = .ok (.ireturn, 1) := by decide +kernel
theorem dL_juror_17 : decode cL_juror 17 = .ok (.astore 4, 2) := by decide +kernel
theorem dL_juror_19 : decode cL_juror 19 = .ok (.iconst 2, 1) := by decide +kernel
theorem dL_juror_20 : decode cL_juror 20 = .ok (.ireturn, 1) := by decide +kernel
theorem dL_juror_21 : decode cL_juror 21 = .ok (.iconst 0, 1) := by decide +kernel
theorem dL_juror_22 : decode cL_juror 22 = .ok (.ireturn, 1) := by decide +kernel
theorem dL_count_0 : decode cL_count 0 = .ok (.aload_n 2, 1) := by decide +kernel
theorem dL_count_1 : decode cL_count 1 = .ok (.iconst 0, 1) := by decide +kernel
theorem dL_count_2 : decode cL_count 2 = .ok (.aload_n 0, 1) := by decide +kernel
theorem dL_count_3 : decode cL_count 3 = .ok (.iload_n 1, 1) := by decide +kernel
theorem dL_count_4 : decode cL_count 4 = .ok (.invokevirtual 83, 3) := by decide +kernel
theorem dL_count_7 : decode cL_count 7 = .ok (.i2l, 1) := by decide +kernel
theorem dL_count_8 : decode cL_count 8 = .ok (.lastore, 1) := by decide +kernel
theorem dL_count_9 : decode cL_count 9 = .ok (.goto 6, 3) := by decide +kernel
theorem dL_count_12 : decode cL_count 12 = .ok (.astore_n 3, 1) := by decide +kernel
theorem dL_count_13 : decode cL_count 13 = .ok (.iconst 1, 1) := by decide +kernel
theorem dL_count_14 : decode cL_count 14 = .ok (.ireturn, 1) := by decide +kernel
theorem dL_count_15 : decode cL_count 15 = .ok (.iconst 0, 1) := by decide +kernel
theorem dL_count_16 : decode cL_count 16 = .ok (.ireturn, 1) := by decide +kernel
theorem dL_whyNot_0 : decode cL_whyNot 0 = .ok (.aload 6, 2) := by decide +kernel
theorem dL_whyNot_2 : decode cL_whyNot 2 = .ok (.iconst 0, 1) := by decide +kernel
theorem dL_whyNot_3 : decode cL_whyNot 3 = .ok (.aload_n 0, 1) := by decide +kernel
theorem dL_whyNot_4 : decode cL_whyNot 4 = .ok (.iload_n 1, 1) := by decide +kernel
theorem dL_whyNot_5 : decode cL_whyNot 5 = .ok (.iload_n 2, 1) := by decide +kernel
theorem dL_whyNot_6 : decode cL_whyNot 6 = .ok (.iload_n 3, 1) := by decide +kernel
theorem dL_whyNot_7 : decode cL_whyNot 7 = .ok (.iload 4, 2) := by decide +kernel
theorem dL_whyNot_9 : decode cL_whyNot 9 = .ok (.iload 5, 2) := by decide +kernel
theorem dL_whyNot_11 : decode cL_whyNot 11 = .ok (.invokevirtual 86, 3) := by decide +kernel
theorem dL_whyNot_14 : decode cL_whyNot 14 = .ok (.i2l, 1) := by decide +kernel
theorem dL_whyNot_15 : decode cL_whyNot 15 = .ok (.lastore, 1) := by decide +kernel
theorem dL_whyNot_16 : decode cL_whyNot 16 = .ok (.goto 11, 3) := by decide +kernel
theorem dL_whyNot_19 : decode cL_whyNot 19 = .ok (.astore 7, 2) := by decide +kernel
theorem dL_whyNot_21 : decode cL_whyNot 21 = .ok (.iconst 1, 1) := by decide +kernel
theorem dL_whyNot_22 : decode cL_whyNot 22 = .ok (.ireturn, 1) := by decide +kernel
theorem dL_whyNot_23 : decode cL_whyNot 23 = .ok (.astore 7, 2) := by decide +kernel
theorem dL_whyNot_25 : decode cL_whyNot 25 = .ok (.iconst 2, 1) := by decide +kernel
theorem dL_whyNot_26 : decode cL_whyNot 26 = .ok (.ireturn, 1) := by decide +kernel
theorem dL_whyNot_27 : decode cL_whyNot 27 = .ok (.iconst 0, 1) := by decide +kernel
theorem dL_whyNot_28 : decode cL_whyNot 28 = .ok (.ireturn, 1) := by decide +kernel
theorem dL_nextStart_0 : decode cL_nextStart 0 = .ok (.aload 4, 2) := by decide +kernel
theorem dL_nextStart_2 : decode cL_nextStart 2 = .ok (.iconst 0, 1) := by decide +kernel
theorem dL_nextStart_3 : decode cL_nextStart 3 = .ok (.aload_n 0, 1) := by decide +kernel
theorem dL_nextStart_4 : decode cL_nextStart 4 = .ok (.iload_n 1, 1) := by decide +kernel
theorem dL_nextStart_5 : decode cL_nextStart 5 = .ok (.iload_n 2, 1) := by decide +kernel
theorem dL_nextStart_6 : decode cL_nextStart 6 = .ok (.iload_n 3, 1) := by decide +kernel
theorem dL_nextStart_7 : decode cL_nextStart 7 = .ok (.invokevirtual 90, 3) := by decide +kernel
theorem dL_nextStart_10 : decode cL_nextStart 10 = .ok (.i2l, 1) := by decide +kernel
theorem dL_nextStart_11 : decode cL_nextStart 11 = .ok (.lastore, 1) := by decide +kernel
theorem dL_nextStart_12 : decode cL_nextStart 12 = .ok (.goto 11, 3) := by decide +kernel
theorem dL_nextStart_15 : decode cL_nextStart 15 = .ok (.astore 5, 2) := by decide +kernel
theorem dL_nextStart_17 : decode cL_nextStart 17 = .ok (.iconst 1, 1) := by decide +kernel
theorem dL_nextStart_18 : decode cL_nextStart 18 = .ok (.ireturn, 1) := by decide +kernel
theorem dL_nextStart_19 : decode cL_nextStart 19 = .ok (.astore 5, 2) := by decide +kernel
theorem dL_nextStart_21 : decode cL_nextStart 21 = .ok (.iconst 2, 1) := by decide +kernel
theorem dL_nextStart_22 : decode cL_nextStart 22 = .ok (.ireturn, 1) := by decide +kernel
theorem dL_nextStart_23 : decode cL_nextStart 23 = .ok (.iconst 0, 1) := by decide +kernel
theorem dL_nextStart_24 : decode cL_nextStart 24 = .ok (.ireturn, 1) := by decide +kernel
theorem dL_bestScreen_0 : decode cL_bestScreen 0 = .ok (.aload_n 3, 1) := by decide +kernel
theorem dL_bestScreen_1 : decode cL_bestScreen 1 = .ok (.iconst 0, 1) := by decide +kernel
theorem dL_bestScreen_2 : decode cL_bestScreen 2 = .ok (.aload_n 0, 1) := by decide +kernel
theorem dL_bestScreen_3 : decode cL_bestScreen 3 = .ok (.iload_n 1, 1) := by decide +kernel
theorem dL_bestScreen_4 : decode cL_bestScreen 4 = .ok (.iload_n 2, 1) := by decide +kernel
theorem dL_bestScreen_5 : decode cL_bestScreen 5 = .ok (.invokevirtual 93, 3) := by decide +kernel
theorem dL_bestScreen_8 : decode cL_bestScreen 8 = .ok (.i2l, 1) := by decide +kernel
theorem dL_bestScreen_9 : decode cL_bestScreen 9 = .ok (.lastore, 1) := by decide +kernel
theorem dL_bestScreen_10 : decode cL_bestScreen 10 = .ok (.goto 11, 3) := by decide +kernel
theorem dL_bestScreen_13 : decode cL_bestScreen 13 = .ok (.astore 4, 2) := by decide +kernel
theorem dL_bestScreen_15 : decode cL_bestScreen 15 = .ok (.iconst 1, 1) := by decide +kernel
theorem dL_bestScreen_16 : decode cL_bestScreen 16 = .ok (.ireturn, 1) := by decide +kernel
theorem dL_bestScreen_17 : decode cL_bestScreen 17 = .ok (.astore 4, 2) := by decide +kernel
theorem dL_bestScreen_19 : decode cL_bestScreen 19 = .ok (.iconst 2, 1) := by decide +kernel
theorem dL_bestScreen_20 : decode cL_bestScreen 20 = .ok (.ireturn, 1) := by decide +kernel
theorem dL_bestScreen_21 : decode cL_bestScreen 21 = .ok (.iconst 0, 1) := by decide +kernel
theorem dL_bestScreen_22 : decode cL_bestScreen 22 = .ok (.ireturn, 1) := by decide +kernel
theorem dL_ifShown_0 : decode cL_ifShown 0 = .ok (.aload 4, 2) := by decide +kernel
theorem dL_ifShown_2 : decode cL_ifShown 2 = .ok (.iconst 0, 1) := by decide +kernel
theorem dL_ifShown_3 : decode cL_ifShown 3 = .ok (.aload_n 0, 1) := by decide +kernel
theorem dL_ifShown_4 : decode cL_ifShown 4 = .ok (.iload_n 1, 1) := by decide +kernel
theorem dL_ifShown_5 : decode cL_ifShown 5 = .ok (.iload_n 2, 1) := by decide +kernel
theorem dL_ifShown_6 : decode cL_ifShown 6 = .ok (.iload_n 3, 1) := by decide +kernel
theorem dL_ifShown_7 : decode cL_ifShown 7 = .ok (.invokevirtual 96, 3) := by decide +kernel
theorem dL_ifShown_10 : decode cL_ifShown 10 = .ok (.i2l, 1) := by decide +kernel
theorem dL_ifShown_11 : decode cL_ifShown 11 = .ok (.lastore, 1) := by decide +kernel
theorem dL_ifShown_12 : decode cL_ifShown 12 = .ok (.goto 11, 3) := by decide +kernel
theorem dL_ifShown_15 : decode cL_ifShown 15 = .ok (.astore 5, 2) := by decide +kernel
theorem dL_ifShown_17 : decode cL_ifShown 17 = .ok (.iconst 1, 1) := by decide +kernel
theorem dL_ifShown_18 : decode cL_ifShown 18 = .ok (.ireturn, 1) := by decide +kernel
theorem dL_ifShown_19 : decode cL_ifShown 19 = .ok (.astore 5, 2) := by decide +kernel
theorem dL_ifShown_21 : decode cL_ifShown 21 = .ok (.iconst 2, 1) := by decide +kernel
theorem dL_ifShown_22 : decode cL_ifShown 22 = .ok (.ireturn, 1) := by decide +kernel
theorem dL_ifShown_23 : decode cL_ifShown 23 = .ok (.iconst 0, 1) := by decide +kernel
theorem dL_ifShown_24 : decode cL_ifShown 24 = .ok (.ireturn, 1) := by decide +kernel
theorem dL_use_0 : decode cL_use 0 = .ok (.aload_n 2, 1) := by decide +kernel
theorem dL_use_1 : decode cL_use 1 = .ok (.iconst 0, 1) := by decide +kernel
theorem dL_use_2 : decode cL_use 2 = .ok (.aload_n 0, 1) := by decide +kernel
theorem dL_use_3 : decode cL_use 3 = .ok (.iload_n 1, 1) := by decide +kernel
theorem dL_use_4 : decode cL_use 4 = .ok (.invokevirtual 99, 3) := by decide +kernel
theorem dL_use_7 : decode cL_use 7 = .ok (.dastore, 1) := by decide +kernel
theorem dL_use_8 : decode cL_use 8 = .ok (.goto 6, 3) := by decide +kernel
theorem dL_use_11 : decode cL_use 11 = .ok (.astore_n 3, 1) := by decide +kernel
theorem dL_use_12 : decode cL_use 12 = .ok (.iconst 1, 1) := by decide +kernel
theorem dL_use_13 : decode cL_use 13 = .ok (.ireturn, 1) := by decide +kernel
theorem dL_use_14 : decode cL_use 14 = .ok (.iconst 0, 1) := by decide +kernel
theorem dL_use_15 : decode cL_use 15 = .ok (.ireturn, 1) := by decide +kernel
theorem dL_law_0 : decode cL_law 0 = .ok (.new 8, 3) := by decide +kernel
theorem dL_law_3 : decode cL_law 3 = .ok (.dup, 1) := by decide +kernel
theorem dL_law_4 : decode cL_law 4 = .ok (.invokespecial 103, 3) := by decide +kernel
theorem dL_law_7 : decode cL_law 7 = .ok (.astore_n 1, 1) := by decide +kernel
theorem dL_law_8 : decode cL_law 8 = .ok (.new 104, 3) := by decide +kernel
theorem dL_law_11 : decode cL_law 11 = .ok (.dup, 1) := by decide +kernel
theorem dL_law_12 : decode cL_law 12 = .ok (.invokespecial 106, 3) := by decide +kernel
theorem dL_law_15 : decode cL_law 15 = .ok (.astore_n 2, 1) := by decide +kernel
theorem dL_law_16 : decode cL_law 16 = .ok (.iconst 1, 1) := by decide +kernel
theorem dL_law_17 : decode cL_law 17 = .ok (.newarray .long, 2) := by decide +kernel
theorem dL_law_19 : decode cL_law 19 = .ok (.astore_n 3, 1) := by decide +kernel
theorem dL_law_20 : decode cL_law 20 = .ok (.iconst 1, 1) := by decide +kernel
theorem dL_law_21 : decode cL_law 21 = .ok (.newarray .double, 2) := by decide +kernel
theorem dL_law_23 : decode cL_law 23 = .ok (.astore 4, 2) := by decide +kernel
theorem dL_law_25 : decode cL_law 25 = .ok (.iconst 0, 1) := by decide +kernel
theorem dL_law_26 : decode cL_law 26 = .ok (.istore 5, 2) := by decide +kernel
theorem dL_law_28 : decode cL_law 28 = .ok (.iload 5, 2) := by decide +kernel
theorem dL_law_30 : decode cL_law 30 = .ok (.aload_n 0, 1) := by decide +kernel
theorem dL_law_31 : decode cL_law 31 = .ok (.arraylength, 1) := by decide +kernel
theorem dL_law_32 : decode cL_law 32 = .ok (.bipush 6, 2) := by decide +kernel
theorem dL_law_34 : decode cL_law 34 = .ok (.isub, 1) := by decide +kernel
theorem dL_law_35 : decode cL_law 35 = .ok (.if_icmp .gt 2041, 3) := by decide +kernel
theorem dL_law_38 : decode cL_law 38 = .ok (.aload_n 0, 1) := by decide +kernel
theorem dL_law_39 : decode cL_law 39 = .ok (.iload 5, 2) := by decide +kernel
theorem dL_law_41 : decode cL_law 41 = .ok (.iaload, 1) := by decide +kernel
theorem dL_law_42 : decode cL_law 42 = .ok (.bipush 31, 2) := by decide +kernel
theorem dL_law_44 : decode cL_law 44 = .ok (.iand, 1) := by decide +kernel
theorem dL_law_45 : decode cL_law 45 = .ok (.tableswitch 2025 0 30 #[139, 207, 275, 343, 435, 491, 559, 639, 707, 787, 843, 856, 869, 913, 969, 1013, 1026, 1070, 1138, 1206, 1274, 1342, 1410, 1478, 1546, 1602, 1706, 1786, 1854, 1934, 2011], 139) := by decide +kernel
theorem dL_law_184 : decode cL_law 184 = .ok (.aload_n 1, 1) := by decide +kernel
theorem dL_law_185 : decode cL_law 185 = .ok (.aload_n 0, 1) := by decide +kernel
theorem dL_law_186 : decode cL_law 186 = .ok (.iload 5, 2) := by decide +kernel
theorem dL_law_188 : decode cL_law 188 = .ok (.iconst 1, 1) := by decide +kernel
theorem dL_law_189 : decode cL_law 189 = .ok (.iadd, 1) := by decide +kernel
theorem dL_law_190 : decode cL_law 190 = .ok (.iaload, 1) := by decide +kernel
theorem dL_law_191 : decode cL_law 191 = .ok (.aload_n 0, 1) := by decide +kernel
theorem dL_law_192 : decode cL_law 192 = .ok (.iload 5, 2) := by decide +kernel
theorem dL_law_194 : decode cL_law 194 = .ok (.iconst 2, 1) := by decide +kernel
theorem dL_law_195 : decode cL_law 195 = .ok (.iadd, 1) := by decide +kernel
theorem dL_law_196 : decode cL_law 196 = .ok (.iaload, 1) := by decide +kernel
theorem dL_law_197 : decode cL_law 197 = .ok (.aload_n 3, 1) := by decide +kernel
theorem dL_law_198 : decode cL_law 198 = .ok (.invokestatic 107, 3) := by decide +kernel
theorem dL_law_201 : decode cL_law 201 = .ok (.istore 6, 2) := by decide +kernel
theorem dL_law_203 : decode cL_law 203 = .ok (.aload_n 2, 1) := by decide +kernel
theorem dL_law_204 : decode cL_law 204 = .ok (.aload_n 0, 1) := by decide +kernel
theorem dL_law_205 : decode cL_law 205 = .ok (.iload 5, 2) := by decide +kernel
theorem dL_law_207 : decode cL_law 207 = .ok (.iconst 1, 1) := by decide +kernel
theorem dL_law_208 : decode cL_law 208 = .ok (.iadd, 1) := by decide +kernel
theorem dL_law_209 : decode cL_law 209 = .ok (.iaload, 1) := by decide +kernel
theorem dL_law_210 : decode cL_law 210 = .ok (.aload_n 0, 1) := by decide +kernel
theorem dL_law_211 : decode cL_law 211 = .ok (.iload 5, 2) := by decide +kernel
theorem dL_law_213 : decode cL_law 213 = .ok (.iconst 2, 1) := by decide +kernel
theorem dL_law_214 : decode cL_law 214 = .ok (.iadd, 1) := by decide +kernel
theorem dL_law_215 : decode cL_law 215 = .ok (.iaload, 1) := by decide +kernel
theorem dL_law_216 : decode cL_law 216 = .ok (.invokevirtual 112, 3) := by decide +kernel
theorem dL_law_219 : decode cL_law 219 = .ok (.istore 7, 2) := by decide +kernel
theorem dL_law_221 : decode cL_law 221 = .ok (.aload_n 2, 1) := by decide +kernel
theorem dL_law_222 : decode cL_law 222 = .ok (.invokevirtual 113, 3) := by decide +kernel
theorem dL_law_225 : decode cL_law 225 = .ok (.iload 6, 2) := by decide +kernel
theorem dL_law_227 : decode cL_law 227 = .ok (.if_icmp .eq 5, 3) := by decide +kernel
theorem dL_law_230 : decode cL_law 230 = .ok (.iconst 0, 1) := by decide +kernel
theorem dL_law_231 : decode cL_law 231 = .ok (.ireturn, 1) := by decide +kernel
theorem dL_law_232 : decode cL_law 232 = .ok (.iload 6, 2) := by decide +kernel
theorem dL_law_234 : decode cL_law 234 = .ok (.ifCond .ne 15, 3) := by decide +kernel
theorem dL_law_237 : decode cL_law 237 = .ok (.aload_n 3, 1) := by decide +kernel
theorem dL_law_238 : decode cL_law 238 = .ok (.iconst 0, 1) := by decide +kernel
theorem dL_law_239 : decode cL_law 239 = .ok (.laload, 1) := by decide +kernel
theorem dL_law_240 : decode cL_law 240 = .ok (.iload 7, 2) := by decide +kernel
theorem dL_law_242 : decode cL_law 242 = .ok (.i2l, 1) := by decide +kernel
theorem dL_law_243 : decode cL_law 243 = .ok (.lcmp, 1) := by decide +kernel
theorem dL_law_244 : decode cL_law 244 = .ok (.ifCond .eq 5, 3) := by decide +kernel
theorem dL_law_247 : decode cL_law 247 = .ok (.iconst 0, 1) := by decide +kernel
theorem dL_law_248 : decode cL_law 248 = .ok (.ireturn, 1) := by decide +kernel
theorem dL_law_249 : decode cL_law 249 = .ok (.goto 1821, 3) := by decide +kernel
theorem dL_law_252 : decode cL_law 252 = .ok (.aload_n 1, 1) := by decide +kernel
theorem dL_law_253 : decode cL_law 253 = .ok (.aload_n 0, 1) := by decide +kernel
theorem dL_law_254 : decode cL_law 254 = .ok (.iload 5, 2) := by decide +kernel
theorem dL_law_256 : decode cL_law 256 = .ok (.iconst 1, 1) := by decide +kernel
theorem dL_law_257 : decode cL_law 257 = .ok (.iadd, 1) := by decide +kernel
theorem dL_law_258 : decode cL_law 258 = .ok (.iaload, 1) := by decide +kernel
theorem dL_law_259 : decode cL_law 259 = .ok (.aload_n 0, 1) := by decide +kernel
theorem dL_law_260 : decode cL_law 260 = .ok (.iload 5, 2) := by decide +kernel
theorem dL_law_262 : decode cL_law 262 = .ok (.iconst 2, 1) := by decide +kernel
theorem dL_law_263 : decode cL_law 263 = .ok (.iadd, 1) := by decide +kernel
theorem dL_law_264 : decode cL_law 264 = .ok (.iaload, 1) := by decide +kernel
theorem dL_law_265 : decode cL_law 265 = .ok (.aload_n 3, 1) := by decide +kernel
theorem dL_law_266 : decode cL_law 266 = .ok (.invokestatic 116, 3) := by decide +kernel
theorem dL_law_269 : decode cL_law 269 = .ok (.istore 6, 2) := by decide +kernel
theorem dL_law_271 : decode cL_law 271 = .ok (.aload_n 2, 1) := by decide +kernel
theorem dL_law_272 : decode cL_law 272 = .ok (.aload_n 0, 1) := by decide +kernel
theorem dL_law_273 : decode cL_law 273 = .ok (.iload 5, 2) := by decide +kernel
theorem dL_law_275 : decode cL_law 275 = .ok (.iconst 1, 1) := by decide +kernel
theorem dL_law_276 : decode cL_law 276 = .ok (.iadd, 1) := by decide +kernel
theorem dL_law_277 : decode cL_law 277 = .ok (.iaload, 1) := by decide +kernel
theorem dL_law_278 : decode cL_law 278 = .ok (.aload_n 0, 1) := by decide +kernel
theorem dL_law_279 : decode cL_law 279 = .ok (.iload 5, 2) := by decide +kernel
theorem dL_law_281 : decode cL_law 281 = .ok (.iconst 2, 1) := by decide +kernel
theorem dL_law_282 : decode cL_law 282 = .ok (.iadd, 1) := by decide +kernel
theorem dL_law_283 : decode cL_law 283 = .ok (.iaload, 1) := by decide +kernel
theorem dL_law_284 : decode cL_law 284 = .ok (.invokevirtual 118, 3) := by decide +kernel
theorem dL_law_287 : decode cL_law 287 = .ok (.istore 7, 2) := by decide +kernel
theorem dL_law_289 : decode cL_law 289 = .ok (.aload_n 2, 1) := by decide +kernel
theorem dL_law_290 : decode cL_law 290 = .ok (.invokevirtual 113, 3) := by decide +kernel
theorem dL_law_293 : decode cL_law 293 = .ok (.iload 6, 2) := by decide +kernel
theorem dL_law_295 : decode cL_law 295 = .ok (.if_icmp .eq 5, 3) := by decide +kernel
theorem dL_law_298 : decode cL_law 298 = .ok (.iconst 0, 1) := by decide +kernel
theorem dL_law_299 : decode cL_law 299 = .ok (.ireturn, 1) := by decide +kernel
theorem dL_law_300 : decode cL_law 300 = .ok (.iload 6, 2) := by decide +kernel
theorem dL_law_302 : decode cL_law 302 = .ok (.ifCond .ne 15, 3) := by decide +kernel
theorem dL_law_305 : decode cL_law 305 = .ok (.aload_n 3, 1) := by decide +kernel
theorem dL_law_306 : decode cL_law 306 = .ok (.iconst 0, 1) := by decide +kernel
theorem dL_law_307 : decode cL_law 307 = .ok (.laload, 1) := by decide +kernel
theorem dL_law_308 : decode cL_law 308 = .ok (.iload 7, 2) := by decide +kernel
theorem dL_law_310 : decode cL_law 310 = .ok (.i2l, 1) := by decide +kernel
theorem dL_law_311 : decode cL_law 311 = .ok (.lcmp, 1) := by decide +kernel
theorem dL_law_312 : decode cL_law 312 = .ok (.ifCond .eq 5, 3) := by decide +kernel
theorem dL_law_315 : decode cL_law 315 = .ok (.iconst 0, 1) := by decide +kernel
theorem dL_law_316 : decode cL_law 316 = .ok (.ireturn, 1) := by decide +kernel
theorem dL_law_317 : decode cL_law 317 = .ok (.goto 1753, 3) := by decide +kernel
theorem dL_law_320 : decode cL_law 320 = .ok (.aload_n 1, 1) := by decide +kernel
theorem dL_law_321 : decode cL_law 321 = .ok (.aload_n 0, 1) := by decide +kernel
theorem dL_law_322 : decode cL_law 322 = .ok (.iload 5, 2) := by decide +kernel
theorem dL_law_324 : decode cL_law 324 = .ok (.iconst 1, 1) := by decide +kernel
theorem dL_law_325 : decode cL_law 325 = .ok (.iadd, 1) := by decide +kernel
theorem dL_law_326 : decode cL_law 326 = .ok (.iaload, 1) := by decide +kernel
theorem dL_law_327 : decode cL_law 327 = .ok (.aload_n 0, 1) := by decide +kernel
theorem dL_law_328 : decode cL_law 328 = .ok (.iload 5, 2) := by decide +kernel
theorem dL_law_330 : decode cL_law 330 = .ok (.iconst 2, 1) := by decide +kernel
theorem dL_law_331 : decode cL_law 331 = .ok (.iadd, 1) := by decide +kernel
theorem dL_law_332 : decode cL_law 332 = .ok (.iaload, 1) := by decide +kernel
theorem dL_law_333 : decode cL_law 333 = .ok (.aload_n 3, 1) := by decide +kernel
theorem dL_law_334 : decode cL_law 334 = .ok (.invokestatic 119, 3) := by decide +kernel
theorem dL_law_337 : decode cL_law 337 = .ok (.istore 6, 2) := by decide +kernel
theorem dL_law_339 : decode cL_law 339 = .ok (.aload_n 2, 1) := by decide +kernel
theorem dL_law_340 : decode cL_law 340 = .ok (.aload_n 0, 1) := by decide +kernel
theorem dL_law_341 : decode cL_law 341 = .ok (.iload 5, 2) := by decide +kernel
theorem dL_law_343 : decode cL_law 343 = .ok (.iconst 1, 1) := by decide +kernel
theorem dL_law_344 : decode cL_law 344 = .ok (.iadd, 1) := by decide +kernel
theorem dL_law_345 : decode cL_law 345 = .ok (.iaload, 1) := by decide +kernel
theorem dL_law_346 : decode cL_law 346 = .ok (.aload_n 0, 1) := by decide +kernel
theorem dL_law_347 : decode cL_law 347 = .ok (.iload 5, 2) := by decide +kernel
theorem dL_law_349 : decode cL_law 349 = .ok (.iconst 2, 1) := by decide +kernel
theorem dL_law_350 : decode cL_law 350 = .ok (.iadd, 1) := by decide +kernel

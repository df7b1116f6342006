theorem dX0_countedMinutes_58 : decode cX0_countedMinutes 58 = .ok (.sipush 2000, 3) := by decide +kernel
theorem dX0_countedMinutes_61 : decode cX0_countedMinutes 61 = .ok (.if_icmp .ge 23, 3) := by decide +kernel
theorem dX0_countedMinutes_64 : decode cX0_countedMinutes 64 = .ok (.aload_n 0, 1) := by decide +kernel
theorem dX0_countedMinutes_65 : decode cX0_countedMinutes 65 = .ok (.iload_n 3, 1) := by decide +kernel
theorem dX0_countedMinutes_66 : decode cX0_countedMinutes 66 = .ok (.iload 5, 2) := by decide +kernel
theorem dX0_countedMinutes_68 : decode cX0_countedMinutes 68 = .ok (.invokevirtual 145, 3) := by decide +kernel
theorem dX0_countedMinutes_71 : decode cX0_countedMinutes 71 = .ok (.iconst (-1), 1) := by decide +kernel
theorem dX0_countedMinutes_72 : decode cX0_countedMinutes 72 = .ok (.if_icmp .eq 6, 3) := by decide +kernel
theorem dX0_countedMinutes_75 : decode cX0_countedMinutes 75 = .ok (.iinc 2 1, 3) := by decide +kernel
theorem dX0_countedMinutes_78 : decode cX0_countedMinutes 78 = .ok (.iinc 5 1, 3) := by decide +kernel
theorem dX0_countedMinutes_81 : decode cX0_countedMinutes 81 = .ok (.goto (-32), 3) := by decide +kernel
theorem dX0_countedMinutes_84 : decode cX0_countedMinutes 84 = .ok (.iinc 3 1, 3) := by decide +kernel
theorem dX0_countedMinutes_87 : decode cX0_countedMinutes 87 = .ok (.goto (-83), 3) := by decide +kernel
theorem dX0_countedMinutes_90 : decode cX0_countedMinutes 90 = .ok (.iload_n 2, 1) := by decide +kernel
theorem dX0_countedMinutes_91 : decode cX0_countedMinutes 91 = .ok (.ireturn, 1) := by decide +kernel
theorem dX0_lastEnd_0 : decode cX0_lastEnd 0 = .ok (.iconst (-1), 1) := by decide +kernel
theorem dX0_lastEnd_1 : decode cX0_lastEnd 1 = .ok (.istore_n 2, 1) := by decide +kernel
theorem dX0_lastEnd_2 : decode cX0_lastEnd 2 = .ok (.iconst 0, 1) := by decide +kernel
theorem dX0_lastEnd_3 : decode cX0_lastEnd 3 = .ok (.istore_n 3, 1) := by decide +kernel
theorem dX0_lastEnd_4 : decode cX0_lastEnd 4 = .ok (.iload_n 3, 1) := by decide +kernel
theorem dX0_lastEnd_5 : decode cX0_lastEnd 5 = .ok (.aload_n 0, 1) := by decide +kernel
theorem dX0_lastEnd_6 : decode cX0_lastEnd 6 = .ok (.getfield 26, 3) := by decide +kernel
theorem dX0_lastEnd_9 : decode cX0_lastEnd 9 = .ok (.getfield 90, 3) := by decide +kernel
theorem dX0_lastEnd_12 : decode cX0_lastEnd 12 = .ok (.if_icmp .ge 32, 3) := by decide +kernel
theorem dX0_lastEnd_15 : decode cX0_lastEnd 15 = .ok (.aload_n 0, 1) := by decide +kernel
theorem dX0_lastEnd_16 : decode cX0_lastEnd 16 = .ok (.getfield 26, 3) := by decide +kernel
theorem dX0_lastEnd_19 : decode cX0_lastEnd 19 = .ok (.iload_n 3, 1) := by decide +kernel
theorem dX0_lastEnd_20 : decode cX0_lastEnd 20 = .ok (.iconst 1, 1) := by decide +kernel
theorem dX0_lastEnd_21 : decode cX0_lastEnd 21 = .ok (.invokevirtual 60, 3) := by decide +kernel
theorem dX0_lastEnd_24 : decode cX0_lastEnd 24 = .ok (.iload_n 1, 1) := by decide +kernel
theorem dX0_lastEnd_25 : decode cX0_lastEnd 25 = .ok (.if_icmp .ne 13, 3) := by decide +kernel
theorem dX0_lastEnd_28 : decode cX0_lastEnd 28 = .ok (.iload_n 2, 1) := by decide +kernel
theorem dX0_lastEnd_29 : decode cX0_lastEnd 29 = .ok (.aload_n 0, 1) := by decide +kernel
theorem dX0_lastEnd_30 : decode cX0_lastEnd 30 = .ok (.iload_n 3, 1) := by decide +kernel
theorem dX0_lastEnd_31 : decode cX0_lastEnd 31 = .ok (.invokevirtual 87, 3) := by decide +kernel
theorem dX0_lastEnd_34 : decode cX0_lastEnd 34 = .ok (.invokestatic 157, 3) := by decide +kernel
theorem dX0_lastEnd_37 : decode cX0_lastEnd 37 = .ok (.istore_n 2, 1) := by decide +kernel
theorem dX0_lastEnd_38 : decode cX0_lastEnd 38 = .ok (.iinc 3 1, 3) := by decide +kernel
theorem dX0_lastEnd_41 : decode cX0_lastEnd 41 = .ok (.goto (-37), 3) := by decide +kernel
theorem dX0_lastEnd_44 : decode cX0_lastEnd 44 = .ok (.iload_n 2, 1) := by decide +kernel
theorem dX0_lastEnd_45 : decode cX0_lastEnd 45 = .ok (.ireturn, 1) := by decide +kernel
theorem dX0_share_0 : decode cX0_share 0 = .ok (.aload_n 0, 1) := by decide +kernel
theorem dX0_share_1 : decode cX0_share 1 = .ok (.iload_n 1, 1) := by decide +kernel
theorem dX0_share_2 : decode cX0_share 2 = .ok (.invokevirtual 148, 3) := by decide +kernel
theorem dX0_share_5 : decode cX0_share 5 = .ok (.i2d, 1) := by decide +kernel
theorem dX0_share_6 : decode cX0_share 6 = .ok (.ldc2_w 162, 3) := by decide +kernel
theorem dX0_share_9 : decode cX0_share 9 = .ok (.ddiv, 1) := by decide +kernel
theorem dX0_share_10 : decode cX0_share 10 = .ok (.dreturn, 1) := by decide +kernel
theorem dX0_guestNumber_0 : decode cX0_guestNumber 0 = .ok (.iload_n 2, 1) := by decide +kernel
theorem dX0_guestNumber_1 : decode cX0_guestNumber 1 = .ok (.tableswitch 57 0 2 #[27, 37, 47], 27) := by decide +kernel
theorem dX0_guestNumber_28 : decode cX0_guestNumber 28 = .ok (.aload_n 0, 1) := by decide +kernel
theorem dX0_guestNumber_29 : decode cX0_guestNumber 29 = .ok (.getfield 29, 3) := by decide +kernel
theorem dX0_guestNumber_32 : decode cX0_guestNumber 32 = .ok (.iload_n 1, 1) := by decide +kernel
theorem dX0_guestNumber_33 : decode cX0_guestNumber 33 = .ok (.iconst 0, 1) := by decide +kernel
theorem dX0_guestNumber_34 : decode cX0_guestNumber 34 = .ok (.invokevirtual 60, 3) := by decide +kernel
theorem dX0_guestNumber_37 : decode cX0_guestNumber 37 = .ok (.ireturn, 1) := by decide +kernel
theorem dX0_guestNumber_38 : decode cX0_guestNumber 38 = .ok (.aload_n 0, 1) := by decide +kernel
theorem dX0_guestNumber_39 : decode cX0_guestNumber 39 = .ok (.getfield 29, 3) := by decide +kernel
theorem dX0_guestNumber_42 : decode cX0_guestNumber 42 = .ok (.iload_n 1, 1) := by decide +kernel
theorem dX0_guestNumber_43 : decode cX0_guestNumber 43 = .ok (.iconst 1, 1) := by decide +kernel
theorem dX0_guestNumber_44 : decode cX0_guestNumber 44 = .ok (.invokevirtual 60, 3) := by decide +kernel
theorem dX0_guestNumber_47 : decode cX0_guestNumber 47 = .ok (.ireturn, 1) := by decide +kernel
theorem dX0_guestNumber_48 : decode cX0_guestNumber 48 = .ok (.aload_n 0, 1) := by decide +kernel
theorem dX0_guestNumber_49 : decode cX0_guestNumber 49 = .ok (.getfield 29, 3) := by decide +kernel
theorem dX0_guestNumber_52 : decode cX0_guestNumber 52 = .ok (.iload_n 1, 1) := by decide +kernel
theorem dX0_guestNumber_53 : decode cX0_guestNumber 53 = .ok (.iconst 2, 1) := by decide +kernel
theorem dX0_guestNumber_54 : decode cX0_guestNumber 54 = .ok (.invokevirtual 60, 3) := by decide +kernel
theorem dX0_guestNumber_57 : decode cX0_guestNumber 57 = .ok (.ireturn, 1) := by decide +kernel
theorem dX0_guestNumber_58 : decode cX0_guestNumber 58 = .ok (.aload_n 0, 1) := by decide +kernel
theorem dX0_guestNumber_59 : decode cX0_guestNumber 59 = .ok (.iload_n 1, 1) := by decide +kernel
theorem dX0_guestNumber_60 : decode cX0_guestNumber 60 = .ok (.invokevirtual 130, 3) := by decide +kernel
theorem dX0_guestNumber_63 : decode cX0_guestNumber 63 = .ok (.ireturn, 1) := by decide +kernel
theorem dX0_jurorNumber_0 : decode cX0_jurorNumber 0 = .ok (.iload_n 2, 1) := by decide +kernel
theorem dX0_jurorNumber_1 : decode cX0_jurorNumber 1 = .ok (.lookupswitch 39 #[(0, 27), (1, 33)], 27) := by decide +kernel
theorem dX0_jurorNumber_28 : decode cX0_jurorNumber 28 = .ok (.aload_n 0, 1) := by decide +kernel
theorem dX0_jurorNumber_29 : decode cX0_jurorNumber 29 = .ok (.iload_n 1, 1) := by decide +kernel
theorem dX0_jurorNumber_30 : decode cX0_jurorNumber 30 = .ok (.invokevirtual 81, 3) := by decide +kernel
theorem dX0_jurorNumber_33 : decode cX0_jurorNumber 33 = .ok (.ireturn, 1) := by decide +kernel
theorem dX0_jurorNumber_34 : decode cX0_jurorNumber 34 = .ok (.aload_n 0, 1) := by decide +kernel
theorem dX0_jurorNumber_35 : decode cX0_jurorNumber 35 = .ok (.iload_n 1, 1) := by decide +kernel
theorem dX0_jurorNumber_36 : decode cX0_jurorNumber 36 = .ok (.invokevirtual 164, 3) := by decide +kernel
theorem dX0_jurorNumber_39 : decode cX0_jurorNumber 39 = .ok (.ireturn, 1) := by decide +kernel
theorem dX0_jurorNumber_40 : decode cX0_jurorNumber 40 = .ok (.aload_n 0, 1) := by decide +kernel
theorem dX0_jurorNumber_41 : decode cX0_jurorNumber 41 = .ok (.iload_n 1, 1) := by decide +kernel
theorem dX0_jurorNumber_42 : decode cX0_jurorNumber 42 = .ok (.invokevirtual 167, 3) := by decide +kernel
theorem dX0_jurorNumber_45 : decode cX0_jurorNumber 45 = .ok (.ireturn, 1) := by decide +kernel
theorem dX0_visitsOf_0 : decode cX0_visitsOf 0 = .ok (.iconst 0, 1) := by decide +kernel
theorem dX0_visitsOf_1 : decode cX0_visitsOf 1 = .ok (.istore_n 2, 1) := by decide +kernel
theorem dX0_visitsOf_2 : decode cX0_visitsOf 2 = .ok (.iconst 0, 1) := by decide +kernel
theorem dX0_visitsOf_3 : decode cX0_visitsOf 3 = .ok (.istore_n 3, 1) := by decide +kernel
theorem dX0_visitsOf_4 : decode cX0_visitsOf 4 = .ok (.iload_n 3, 1) := by decide +kernel
theorem dX0_visitsOf_5 : decode cX0_visitsOf 5 = .ok (.aload_n 0, 1) := by decide +kernel
theorem dX0_visitsOf_6 : decode cX0_visitsOf 6 = .ok (.getfield 26, 3) := by decide +kernel
theorem dX0_visitsOf_9 : decode cX0_visitsOf 9 = .ok (.getfield 90, 3) := by decide +kernel
theorem dX0_visitsOf_12 : decode cX0_visitsOf 12 = .ok (.if_icmp .ge 21, 3) := by decide +kernel
theorem dX0_visitsOf_15 : decode cX0_visitsOf 15 = .ok (.aload_n 0, 1) := by decide +kernel
theorem dX0_visitsOf_16 : decode cX0_visitsOf 16 = .ok (.iload_n 1, 1) := by decide +kernel
theorem dX0_visitsOf_17 : decode cX0_visitsOf 17 = .ok (.iload_n 3, 1) := by decide +kernel
theorem dX0_visitsOf_18 : decode cX0_visitsOf 18 = .ok (.invokevirtual 74, 3) := by decide +kernel
theorem dX0_visitsOf_21 : decode cX0_visitsOf 21 = .ok (.ifCond .eq 6, 3) := by decide +kernel
theorem dX0_visitsOf_24 : decode cX0_visitsOf 24 = .ok (.iinc 2 1, 3) := by decide +kernel
theorem dX0_visitsOf_27 : decode cX0_visitsOf 27 = .ok (.iinc 3 1, 3) := by decide +kernel
theorem dX0_visitsOf_30 : decode cX0_visitsOf 30 = .ok (.goto (-26), 3) := by decide +kernel
theorem dX0_visitsOf_33 : decode cX0_visitsOf 33 = .ok (.iload_n 2, 1) := by decide +kernel
theorem dX0_visitsOf_34 : decode cX0_visitsOf 34 = .ok (.ireturn, 1) := by decide +kernel
theorem dX0_seenMask_0 : decode cX0_seenMask 0 = .ok (.iconst 0, 1) := by decide +kernel
theorem dX0_seenMask_1 : decode cX0_seenMask 1 = .ok (.istore_n 2, 1) := by decide +kernel
theorem dX0_seenMask_2 : decode cX0_seenMask 2 = .ok (.iconst 0, 1) := by decide +kernel
theorem dX0_seenMask_3 : decode cX0_seenMask 3 = .ok (.istore_n 3, 1) := by decide +kernel
theorem dX0_seenMask_4 : decode cX0_seenMask 4 = .ok (.iload_n 3, 1) := by decide +kernel
theorem dX0_seenMask_5 : decode cX0_seenMask 5 = .ok (.aload_n 0, 1) := by decide +kernel
theorem dX0_seenMask_6 : decode cX0_seenMask 6 = .ok (.getfield 26, 3) := by decide +kernel
theorem dX0_seenMask_9 : decode cX0_seenMask 9 = .ok (.getfield 90, 3) := by decide +kernel
theorem dX0_seenMask_12 : decode cX0_seenMask 12 = .ok (.if_icmp .ge 32, 3) := by decide +kernel
theorem dX0_seenMask_15 : decode cX0_seenMask 15 = .ok (.aload_n 0, 1) := by decide +kernel
theorem dX0_seenMask_16 : decode cX0_seenMask 16 = .ok (.iload_n 1, 1) := by decide +kernel
theorem dX0_seenMask_17 : decode cX0_seenMask 17 = .ok (.iload_n 3, 1) := by decide +kernel
theorem dX0_seenMask_18 : decode cX0_seenMask 18 = .ok (.invokevirtual 74, 3) := by decide +kernel
theorem dX0_seenMask_21 : decode cX0_seenMask 21 = .ok (.ifCond .eq 17, 3) := by decide +kernel
theorem dX0_seenMask_24 : decode cX0_seenMask 24 = .ok (.iload_n 2, 1) := by decide +kernel
theorem dX0_seenMask_25 : decode cX0_seenMask 25 = .ok (.iconst 1, 1) := by decide +kernel
theorem dX0_seenMask_26 : decode cX0_seenMask 26 = .ok (.aload_n 0, 1) := by decide +kernel
theorem dX0_seenMask_27 : decode cX0_seenMask 27 = .ok (.getfield 26, 3) := by decide +kernel
theorem dX0_seenMask_30 : decode cX0_seenMask 30 = .ok (.iload_n 3, 1) := by decide +kernel
theorem dX0_seenMask_31 : decode cX0_seenMask 31 = .ok (.iconst 0, 1) := by decide +kernel
theorem dX0_seenMask_32 : decode cX0_seenMask 32 = .ok (.invokevirtual 60, 3) := by decide +kernel
theorem dX0_seenMask_35 : decode cX0_seenMask 35 = .ok (.ishl, 1) := by decide +kernel
theorem dX0_seenMask_36 : decode cX0_seenMask 36 = .ok (.ior, 1) := by decide +kernel
theorem dX0_seenMask_37 : decode cX0_seenMask 37 = .ok (.istore_n 2, 1) := by decide +kernel
theorem dX0_seenMask_38 : decode cX0_seenMask 38 = .ok (.iinc 3 1, 3) := by decide +kernel
theorem dX0_seenMask_41 : decode cX0_seenMask 41 = .ok (.goto (-37), 3) := by decide +kernel
theorem dX0_seenMask_44 : decode cX0_seenMask 44 = .ok (.iload_n 2, 1) := by decide +kernel
theorem dX0_seenMask_45 : decode cX0_seenMask 45 = .ok (.ireturn, 1) := by decide +kernel
theorem dX0_pointsFrom_0 : decode cX0_pointsFrom 0 = .ok (.aload_n 0, 1) := by decide +kernel
theorem dX0_pointsFrom_1 : decode cX0_pointsFrom 1 = .ok (.iload_n 1, 1) := by decide +kernel
theorem dX0_pointsFrom_2 : decode cX0_pointsFrom 2 = .ok (.invokevirtual 164, 3) := by decide +kernel
theorem dX0_pointsFrom_5 : decode cX0_pointsFrom 5 = .ok (.istore_n 2, 1) := by decide +kernel
theorem dX0_pointsFrom_6 : decode cX0_pointsFrom 6 = .ok (.iconst 0, 1) := by decide +kernel
theorem dX0_pointsFrom_7 : decode cX0_pointsFrom 7 = .ok (.istore_n 3, 1) := by decide +kernel
theorem dX0_pointsFrom_8 : decode cX0_pointsFrom 8 = .ok (.iconst 0, 1) := by decide +kernel
theorem dX0_pointsFrom_9 : decode cX0_pointsFrom 9 = .ok (.istore 4, 2) := by decide +kernel
theorem dX0_pointsFrom_11 : decode cX0_pointsFrom 11 = .ok (.iload 4, 2) := by decide +kernel
theorem dX0_pointsFrom_13 : decode cX0_pointsFrom 13 = .ok (.aload_n 0, 1) := by decide +kernel
theorem dX0_pointsFrom_14 : decode cX0_pointsFrom 14 = .ok (.getfield 14, 3) := by decide +kernel
theorem dX0_pointsFrom_17 : decode cX0_pointsFrom 17 = .ok (.getfield 90, 3) := by decide +kernel
theorem dX0_pointsFrom_20 : decode cX0_pointsFrom 20 = .ok (.if_icmp .ge 31, 3) := by decide +kernel
theorem dX0_pointsFrom_23 : decode cX0_pointsFrom 23 = .ok (.iload_n 2, 1) := by decide +kernel
theorem dX0_pointsFrom_24 : decode cX0_pointsFrom 24 = .ok (.iload 4, 2) := by decide +kernel
theorem dX0_pointsFrom_26 : decode cX0_pointsFrom 26 = .ok (.invokestatic 84, 3) := by decide +kernel
theorem dX0_pointsFrom_29 : decode cX0_pointsFrom 29 = .ok (.ifCond .eq 16, 3) := by decide +kernel
theorem dX0_pointsFrom_32 : decode cX0_pointsFrom 32 = .ok (.iload_n 3, 1) := by decide +kernel
theorem dX0_pointsFrom_33 : decode cX0_pointsFrom 33 = .ok (.aload_n 0, 1) := by decide +kernel
theorem dX0_pointsFrom_34 : decode cX0_pointsFrom 34 = .ok (.getfield 32, 3) := by decide +kernel
theorem dX0_pointsFrom_37 : decode cX0_pointsFrom 37 = .ok (.iload_n 1, 1) := by decide +kernel
theorem dX0_pointsFrom_38 : decode cX0_pointsFrom 38 = .ok (.iload 4, 2) := by decide +kernel
theorem dX0_pointsFrom_40 : decode cX0_pointsFrom 40 = .ok (.invokevirtual 60, 3) := by decide +kernel
theorem dX0_pointsFrom_43 : decode cX0_pointsFrom 43 = .ok (.iadd, 1) := by decide +kernel
theorem dX0_pointsFrom_44 : decode cX0_pointsFrom 44 = .ok (.istore_n 3, 1) := by decide +kernel
theorem dX0_pointsFrom_45 : decode cX0_pointsFrom 45 = .ok (.iinc 4 1, 3) := by decide +kernel
theorem dX0_pointsFrom_48 : decode cX0_pointsFrom 48 = .ok (.goto (-37), 3) := by decide +kernel
theorem dX0_pointsFrom_51 : decode cX0_pointsFrom 51 = .ok (.iload_n 3, 1) := by decide +kernel
theorem dX0_pointsFrom_52 : decode cX0_pointsFrom 52 = .ok (.ireturn, 1) := by decide +kernel
theorem dX0_setStop_0 : decode cX0_setStop 0 = .ok (.aload_n 0, 1) := by decide +kernel
theorem dX0_setStop_1 : decode cX0_setStop 1 = .ok (.iload_n 1, 1) := by decide +kernel
theorem dX0_setStop_2 : decode cX0_setStop 2 = .ok (.putfield 35, 3) := by decide +kernel
theorem dX0_setStop_5 : decode cX0_setStop 5 = .ok (.aload_n 0, 1) := by decide +kernel
theorem dX0_setStop_6 : decode cX0_setStop 6 = .ok (.iload_n 2, 1) := by decide +kernel
theorem dX0_setStop_7 : decode cX0_setStop 7 = .ok (.putfield 39, 3) := by decide +kernel
theorem dX0_setStop_10 : decode cX0_setStop 10 = .ok (.aload_n 0, 1) := by decide +kernel
theorem dX0_setStop_11 : decode cX0_setStop 11 = .ok (.iload_n 3, 1) := by decide +kernel
theorem dX0_setStop_12 : decode cX0_setStop 12 = .ok (.putfield 42, 3) := by decide +kernel
theorem dX0_setStop_15 : decode cX0_setStop 15 = .ok (.return_, 1) := by decide +kernel
theorem dX0_stopNumber_0 : decode cX0_stopNumber 0 = .ok (.iload_n 1, 1) := by decide +kernel
theorem dX0_stopNumber_1 : decode cX0_stopNumber 1 = .ok (.lookupswitch 37 #[(0, 27), (1, 32)], 27) := by decide +kernel
theorem dX0_stopNumber_28 : decode cX0_stopNumber 28 = .ok (.aload_n 0, 1) := by decide +kernel
theorem dX0_stopNumber_29 : decode cX0_stopNumber 29 = .ok (.getfield 35, 3) := by decide +kernel
theorem dX0_stopNumber_32 : decode cX0_stopNumber 32 = .ok (.ireturn, 1) := by decide +kernel
theorem dX0_stopNumber_33 : decode cX0_stopNumber 33 = .ok (.aload_n 0, 1) := by decide +kernel
theorem dX0_stopNumber_34 : decode cX0_stopNumber 34 = .ok (.getfield 39, 3) := by decide +kernel
theorem dX0_stopNumber_37 : decode cX0_stopNumber 37 = .ok (.ireturn, 1) := by decide +kernel
theorem dX0_stopNumber_38 : decode cX0_stopNumber 38 = .ok (.aload_n 0, 1) := by decide +kernel
theorem dX0_stopNumber_39 : decode cX0_stopNumber 39 = .ok (.getfield 42, 3) := by decide +kernel
theorem dX0_stopNumber_42 : decode cX0_stopNumber 42 = .ok (.ireturn, 1) := by decide +kernel
theorem dX1_init_0 : decode cX1_init 0 = .ok (.aload_n 0, 1) := by decide +kernel
theorem dX1_init_1 : decode cX1_init 1 = .ok (.invokespecial 3, 3) := by decide +kernel
theorem dX1_init_4 : decode cX1_init 4 = .ok (.return_, 1) := by decide +kernel
theorem dX1_startPart_0 : decode cX1_startPart 0 = .ok (.aload_n 0, 1) := by decide +kernel
theorem dX1_startPart_1 : decode cX1_startPart 1 = .ok (.iconst 0, 1) := by decide +kernel
theorem dX1_startPart_2 : decode cX1_startPart 2 = .ok (.putfield 9, 3) := by decide +kernel
theorem dX1_startPart_5 : decode cX1_startPart 5 = .ok (.aload_n 0, 1) := by decide +kernel
theorem dX1_startPart_6 : decode cX1_startPart 6 = .ok (.iconst 0, 1) := by decide +kernel
theorem dX1_startPart_7 : decode cX1_startPart 7 = .ok (.putfield 15, 3) := by decide +kernel
theorem dX1_startPart_10 : decode cX1_startPart 10 = .ok (.return_, 1) := by decide +kernel
theorem dX1_isBehindPart_0 : decode cX1_isBehindPart 0 = .ok (.aload_n 0, 1) := by decide +kernel
theorem dX1_isBehindPart_1 : decode cX1_isBehindPart 1 = .ok (.getfield 15, 3) := by decide +kernel
theorem dX1_isBehindPart_4 : decode cX1_isBehindPart 4 = .ok (.iconst 5, 1) := by decide +kernel
theorem dX1_isBehindPart_5 : decode cX1_isBehindPart 5 = .ok (.if_icmp .eq 12, 3) := by decide +kernel
theorem dX1_isBehindPart_8 : decode cX1_isBehindPart 8 = .ok (.aload_n 0, 1) := by decide +kernel
theorem dX1_isBehindPart_9 : decode cX1_isBehindPart 9 = .ok (.getfield 15, 3) := by decide +kernel
theorem dX1_isBehindPart_12 : decode cX1_isBehindPart 12 = .ok (.bipush 7, 2) := by decide +kernel
theorem dX1_isBehindPart_14 : decode cX1_isBehindPart 14 = .ok (.if_icmp .ne 7, 3) := by decide +kernel
theorem dX1_isBehindPart_17 : decode cX1_isBehindPart 17 = .ok (.iconst 1, 1) := by decide +kernel
theorem dX1_isBehindPart_18 : decode cX1_isBehindPart 18 = .ok (.goto 4, 3) := by decide +kernel
theorem dX1_isBehindPart_21 : decode cX1_isBehindPart 21 = .ok (.iconst 0, 1) := by decide +kernel
theorem dX1_isBehindPart_22 : decode cX1_isBehindPart 22 = .ok (.ireturn, 1) := by decide +kernel
theorem dX1_takeCode_0 : decode cX1_takeCode 0 = .ok (.iload_n 1, 1) := by decide +kernel
theorem dX1_takeCode_1 : decode cX1_takeCode 1 = .ok (.bipush 48, 2) := by decide +kernel
theorem dX1_takeCode_3 : decode cX1_takeCode 3 = .ok (.isub, 1) := by decide +kernel
theorem dX1_takeCode_4 : decode cX1_takeCode 4 = .ok (.istore_n 2, 1) := by decide +kernel
theorem dX1_takeCode_5 : decode cX1_takeCode 5 = .ok (.aload_n 0, 1) := by decide +kernel
theorem dX1_takeCode_6 : decode cX1_takeCode 6 = .ok (.getfield 15, 3) := by decide +kernel
theorem dX1_takeCode_9 : decode cX1_takeCode 9 = .ok (.tableswitch 156 0 6 #[43, 61, 78, 95, 112, 130, 137], 43) := by decide +kernel
theorem dX1_takeCode_52 : decode cX1_takeCode 52 = .ok (.aload_n 0, 1) := by decide +kernel
theorem dX1_takeCode_53 : decode cX1_takeCode 53 = .ok (.iload_n 2, 1) := by decide +kernel
theorem dX1_takeCode_54 : decode cX1_takeCode 54 = .ok (.putfield 18, 3) := by decide +kernel
theorem dX1_takeCode_57 : decode cX1_takeCode 57 = .ok (.aload_n 0, 1) := by decide +kernel
theorem dX1_takeCode_58 : decode cX1_takeCode 58 = .ok (.iload_n 2, 1) := by decide +kernel
theorem dX1_takeCode_59 : decode cX1_takeCode 59 = .ok (.iconst 0, 1) := by decide +kernel
theorem dX1_takeCode_60 : decode cX1_takeCode 60 = .ok (.bipush 7, 2) := by decide +kernel
theorem dX1_takeCode_62 : decode cX1_takeCode 62 = .ok (.invokestatic 21, 3) := by decide +kernel
theorem dX1_takeCode_65 : decode cX1_takeCode 65 = .ok (.iconst 1, 1) := by decide +kernel
theorem dX1_takeCode_66 : decode cX1_takeCode 66 = .ok (.invokevirtual 25, 3) := by decide +kernel
theorem dX1_takeCode_69 : decode cX1_takeCode 69 = .ok (.ireturn, 1) := by decide +kernel
theorem dX1_takeCode_70 : decode cX1_takeCode 70 = .ok (.aload_n 0, 1) := by decide +kernel
theorem dX1_takeCode_71 : decode cX1_takeCode 71 = .ok (.iload_n 1, 1) := by decide +kernel
theorem dX1_takeCode_72 : decode cX1_takeCode 72 = .ok (.bipush 47, 2) := by decide +kernel
theorem dX1_takeCode_74 : decode cX1_takeCode 74 = .ok (.if_icmp .ne 7, 3) := by decide +kernel
theorem dX1_takeCode_77 : decode cX1_takeCode 77 = .ok (.iconst 1, 1) := by decide +kernel
theorem dX1_takeCode_78 : decode cX1_takeCode 78 = .ok (.goto 4, 3) := by decide +kernel
theorem dX1_takeCode_81 : decode cX1_takeCode 81 = .ok (.iconst 0, 1) := by decide +kernel
theorem dX1_takeCode_82 : decode cX1_takeCode 82 = .ok (.iconst 2, 1) := by decide +kernel
theorem dX1_takeCode_83 : decode cX1_takeCode 83 = .ok (.invokevirtual 25, 3) := by decide +kernel
theorem dX1_takeCode_86 : decode cX1_takeCode 86 = .ok (.ireturn, 1) := by decide +kernel
theorem dX1_takeCode_87 : decode cX1_takeCode 87 = .ok (.aload_n 0, 1) := by decide +kernel
theorem dX1_takeCode_88 : decode cX1_takeCode 88 = .ok (.iload_n 2, 1) := by decide +kernel
theorem dX1_takeCode_89 : decode cX1_takeCode 89 = .ok (.putfield 29, 3) := by decide +kernel
theorem dX1_takeCode_92 : decode cX1_takeCode 92 = .ok (.aload_n 0, 1) := by decide +kernel
theorem dX1_takeCode_93 : decode cX1_takeCode 93 = .ok (.iload_n 2, 1) := by decide +kernel
theorem dX1_takeCode_94 : decode cX1_takeCode 94 = .ok (.iconst 0, 1) := by decide +kernel
theorem dX1_takeCode_95 : decode cX1_takeCode 95 = .ok (.iconst 2, 1) := by decide +kernel
theorem dX1_takeCode_96 : decode cX1_takeCode 96 = .ok (.invokestatic 21, 3) := by decide +kernel
theorem dX1_takeCode_99 : decode cX1_takeCode 99 = .ok (.iconst 3, 1) := by decide +kernel
theorem dX1_takeCode_100 : decode cX1_takeCode 100 = .ok (.invokevirtual 25, 3) := by decide +kernel
theorem dX1_takeCode_103 : decode cX1_takeCode 103 = .ok (.ireturn, 1) := by decide +kernel
theorem dX1_takeCode_104 : decode cX1_takeCode 104 = .ok (.aload_n 0, 1) := by decide +kernel
theorem dX1_takeCode_105 : decode cX1_takeCode 105 = .ok (.iload_n 1, 1) := by decide +kernel
theorem dX1_takeCode_106 : decode cX1_takeCode 106 = .ok (.bipush 64, 2) := by decide +kernel
theorem dX1_takeCode_108 : decode cX1_takeCode 108 = .ok (.if_icmp .ne 7, 3) := by decide +kernel
theorem dX1_takeCode_111 : decode cX1_takeCode 111 = .ok (.iconst 1, 1) := by decide +kernel
theorem dX1_takeCode_112 : decode cX1_takeCode 112 = .ok (.goto 4, 3) := by decide +kernel
theorem dX1_takeCode_115 : decode cX1_takeCode 115 = .ok (.iconst 0, 1) := by decide +kernel
theorem dX1_takeCode_116 : decode cX1_takeCode 116 = .ok (.iconst 4, 1) := by decide +kernel
theorem dX1_takeCode_117 : decode cX1_takeCode 117 = .ok (.invokevirtual 25, 3) := by decide +kernel
theorem dX1_takeCode_120 : decode cX1_takeCode 120 = .ok (.ireturn, 1) := by decide +kernel
theorem dX1_takeCode_121 : decode cX1_takeCode 121 = .ok (.aload_n 0, 1) := by decide +kernel
theorem dX1_takeCode_122 : decode cX1_takeCode 122 = .ok (.iload_n 2, 1) := by decide +kernel
theorem dX1_takeCode_123 : decode cX1_takeCode 123 = .ok (.putfield 32, 3) := by decide +kernel
theorem dX1_takeCode_126 : decode cX1_takeCode 126 = .ok (.aload_n 0, 1) := by decide +kernel
theorem dX1_takeCode_127 : decode cX1_takeCode 127 = .ok (.iload_n 2, 1) := by decide +kernel
theorem dX1_takeCode_128 : decode cX1_takeCode 128 = .ok (.iconst 0, 1) := by decide +kernel
theorem dX1_takeCode_129 : decode cX1_takeCode 129 = .ok (.bipush 9, 2) := by decide +kernel
theorem dX1_takeCode_131 : decode cX1_takeCode 131 = .ok (.invokestatic 21, 3) := by decide +kernel
theorem dX1_takeCode_134 : decode cX1_takeCode 134 = .ok (.iconst 5, 1) := by decide +kernel
theorem dX1_takeCode_135 : decode cX1_takeCode 135 = .ok (.invokevirtual 25, 3) := by decide +kernel
theorem dX1_takeCode_138 : decode cX1_takeCode 138 = .ok (.ireturn, 1) := by decide +kernel
theorem dX1_takeCode_139 : decode cX1_takeCode 139 = .ok (.aload_n 0, 1) := by decide +kernel
theorem dX1_takeCode_140 : decode cX1_takeCode 140 = .ok (.iload_n 1, 1) := by decide +kernel
theorem dX1_takeCode_141 : decode cX1_takeCode 141 = .ok (.iload_n 2, 1) := by decide +kernel
theorem dX1_takeCode_142 : decode cX1_takeCode 142 = .ok (.invokevirtual 35, 3) := by decide +kernel
theorem dX1_takeCode_145 : decode cX1_takeCode 145 = .ok (.ireturn, 1) := by decide +kernel
theorem dX1_takeCode_146 : decode cX1_takeCode 146 = .ok (.aload_n 0, 1) := by decide +kernel
theorem dX1_takeCode_147 : decode cX1_takeCode 147 = .ok (.iload_n 2, 1) := by decide +kernel
theorem dX1_takeCode_148 : decode cX1_takeCode 148 = .ok (.putfield 9, 3) := by decide +kernel
theorem dX1_takeCode_151 : decode cX1_takeCode 151 = .ok (.aload_n 0, 1) := by decide +kernel
theorem dX1_takeCode_152 : decode cX1_takeCode 152 = .ok (.iload_n 2, 1) := by decide +kernel
theorem dX1_takeCode_153 : decode cX1_takeCode 153 = .ok (.iconst 0, 1) := by decide +kernel
theorem dX1_takeCode_154 : decode cX1_takeCode 154 = .ok (.bipush 9, 2) := by decide +kernel
theorem dX1_takeCode_156 : decode cX1_takeCode 156 = .ok (.invokestatic 21, 3) := by decide +kernel
theorem dX1_takeCode_159 : decode cX1_takeCode 159 = .ok (.bipush 7, 2) := by decide +kernel
theorem dX1_takeCode_161 : decode cX1_takeCode 161 = .ok (.invokevirtual 25, 3) := by decide +kernel
theorem dX1_takeCode_164 : decode cX1_takeCode 164 = .ok (.ireturn, 1) := by decide +kernel
theorem dX1_takeCode_165 : decode cX1_takeCode 165 = .ok (.aload_n 0, 1) := by decide +kernel
theorem dX1_takeCode_166 : decode cX1_takeCode 166 = .ok (.iload_n 1, 1) := by decide +kernel
theorem dX1_takeCode_167 : decode cX1_takeCode 167 = .ok (.iload_n 2, 1) := by decide +kernel
theorem dX1_takeCode_168 : decode cX1_takeCode 168 = .ok (.invokevirtual 39, 3) := by decide +kernel
theorem dX1_takeCode_171 : decode cX1_takeCode 171 = .ok (.ireturn, 1) := by decide +kernel
theorem dX1_advance_0 : decode cX1_advance 0 = .ok (.aload_n 0, 1) := by decide +kernel
theorem dX1_advance_1 : decode cX1_advance 1 = .ok (.iload_n 2, 1) := by decide +kernel
theorem dX1_advance_2 : decode cX1_advance 2 = .ok (.putfield 15, 3) := by decide +kernel
theorem dX1_advance_5 : decode cX1_advance 5 = .ok (.iload_n 1, 1) := by decide +kernel
theorem dX1_advance_6 : decode cX1_advance 6 = .ok (.ireturn, 1) := by decide +kernel
theorem dX1_takeBehindStart_0 : decode cX1_takeBehindStart 0 = .ok (.iload_n 1, 1) := by decide +kernel
theorem dX1_takeBehindStart_1 : decode cX1_takeBehindStart 1 = .ok (.bipush 43, 2) := by decide +kernel
theorem dX1_takeBehindStart_3 : decode cX1_takeBehindStart 3 = .ok (.if_icmp .ne 11, 3) := by decide +kernel
theorem dX1_takeBehindStart_6 : decode cX1_takeBehindStart 6 = .ok (.aload_n 0, 1) := by decide +kernel
theorem dX1_takeBehindStart_7 : decode cX1_takeBehindStart 7 = .ok (.bipush 6, 2) := by decide +kernel
theorem dX1_takeBehindStart_9 : decode cX1_takeBehindStart 9 = .ok (.putfield 15, 3) := by decide +kernel
theorem dX1_takeBehindStart_12 : decode cX1_takeBehindStart 12 = .ok (.iconst 1, 1) := by decide +kernel
theorem dX1_takeBehindStart_13 : decode cX1_takeBehindStart 13 = .ok (.ireturn, 1) := by decide +kernel
theorem dX1_takeBehindStart_14 : decode cX1_takeBehindStart 14 = .ok (.iload_n 1, 1) := by decide +kernel
theorem dX1_takeBehindStart_15 : decode cX1_takeBehindStart 15 = .ok (.bipush 59, 2) := by decide +kernel
theorem dX1_takeBehindStart_17 : decode cX1_takeBehindStart 17 = .ok (.if_icmp .ne 9, 3) := by decide +kernel
theorem dX1_takeBehindStart_20 : decode cX1_takeBehindStart 20 = .ok (.aload_n 0, 1) := by decide +kernel
theorem dX1_takeBehindStart_21 : decode cX1_takeBehindStart 21 = .ok (.invokevirtual 42, 3) := by decide +kernel
theorem dX1_takeBehindStart_24 : decode cX1_takeBehindStart 24 = .ok (.iconst 1, 1) := by decide +kernel
theorem dX1_takeBehindStart_25 : decode cX1_takeBehindStart 25 = .ok (.ireturn, 1) := by decide +kernel
theorem dX1_takeBehindStart_26 : decode cX1_takeBehindStart 26 = .ok (.aload_n 0, 1) := by decide +kernel
theorem dX1_takeBehindStart_27 : decode cX1_takeBehindStart 27 = .ok (.getfield 32, 3) := by decide +kernel
theorem dX1_takeBehindStart_30 : decode cX1_takeBehindStart 30 = .ok (.iload_n 2, 1) := by decide +kernel
theorem dX1_takeBehindStart_31 : decode cX1_takeBehindStart 31 = .ok (.sipush 1999, 3) := by decide +kernel
theorem dX1_takeBehindStart_34 : decode cX1_takeBehindStart 34 = .ok (.invokestatic 45, 3) := by decide +kernel
theorem dX1_takeBehindStart_37 : decode cX1_takeBehindStart 37 = .ok (.istore_n 3, 1) := by decide +kernel
theorem dX1_takeBehindStart_38 : decode cX1_takeBehindStart 38 = .ok (.aload_n 0, 1) := by decide +kernel
theorem dX1_takeBehindStart_39 : decode cX1_takeBehindStart 39 = .ok (.aload_n 0, 1) := by decide +kernel
theorem dX1_takeBehindStart_40 : decode cX1_takeBehindStart 40 = .ok (.getfield 32, 3) := by decide +kernel
theorem dX1_takeBehindStart_43 : decode cX1_takeBehindStart 43 = .ok (.bipush 10, 2) := by decide +kernel
theorem dX1_takeBehindStart_45 : decode cX1_takeBehindStart 45 = .ok (.imul, 1) := by decide +kernel
theorem dX1_takeBehindStart_46 : decode cX1_takeBehindStart 46 = .ok (.iload_n 2, 1) := by decide +kernel
theorem dX1_takeBehindStart_47 : decode cX1_takeBehindStart 47 = .ok (.iadd, 1) := by decide +kernel
theorem dX1_takeBehindStart_48 : decode cX1_takeBehindStart 48 = .ok (.putfield 32, 3) := by decide +kernel
theorem dX1_takeBehindStart_51 : decode cX1_takeBehindStart 51 = .ok (.iload_n 3, 1) := by decide +kernel
theorem dX1_takeBehindStart_52 : decode cX1_takeBehindStart 52 = .ok (.ireturn, 1) := by decide +kernel
theorem dX1_takeBehindPause_0 : decode cX1_takeBehindPause 0 = .ok (.iload_n 1, 1) := by decide +kernel
theorem dX1_takeBehindPause_1 : decode cX1_takeBehindPause 1 = .ok (.bipush 59, 2) := by decide +kernel
theorem dX1_takeBehindPause_3 : decode cX1_takeBehindPause 3 = .ok (.if_icmp .ne 9, 3) := by decide +kernel
theorem dX1_takeBehindPause_6 : decode cX1_takeBehindPause 6 = .ok (.aload_n 0, 1) := by decide +kernel
theorem dX1_takeBehindPause_7 : decode cX1_takeBehindPause 7 = .ok (.invokevirtual 42, 3) := by decide +kernel
theorem dX1_takeBehindPause_10 : decode cX1_takeBehindPause 10 = .ok (.iconst 1, 1) := by decide +kernel
theorem dX1_takeBehindPause_11 : decode cX1_takeBehindPause 11 = .ok (.ireturn, 1) := by decide +kernel
theorem dX1_takeBehindPause_12 : decode cX1_takeBehindPause 12 = .ok (.aload_n 0, 1) := by decide +kernel
theorem dX1_takeBehindPause_13 : decode cX1_takeBehindPause 13 = .ok (.getfield 9, 3) := by decide +kernel
theorem dX1_takeBehindPause_16 : decode cX1_takeBehindPause 16 = .ok (.iload_n 2, 1) := by decide +kernel
theorem dX1_takeBehindPause_17 : decode cX1_takeBehindPause 17 = .ok (.bipush 20, 2) := by decide +kernel
theorem dX1_takeBehindPause_19 : decode cX1_takeBehindPause 19 = .ok (.invokestatic 45, 3) := by decide +kernel
theorem dX1_takeBehindPause_22 : decode cX1_takeBehindPause 22 = .ok (.istore_n 3, 1) := by decide +kernel
theorem dX1_takeBehindPause_23 : decode cX1_takeBehindPause 23 = .ok (.aload_n 0, 1) := by decide +kernel
theorem dX1_takeBehindPause_24 : decode cX1_takeBehindPause 24 = .ok (.aload_n 0, 1) := by decide +kernel
theorem dX1_takeBehindPause_25 : decode cX1_takeBehindPause 25 = .ok (.getfield 9, 3) := by decide +kernel
theorem dX1_takeBehindPause_28 : decode cX1_takeBehindPause 28 = .ok (.bipush 10, 2) := by decide +kernel
theorem dX1_takeBehindPause_30 : decode cX1_takeBehindPause 30 = .ok (.imul, 1) := by decide +kernel
theorem dX1_takeBehindPause_31 : decode cX1_takeBehindPause 31 = .ok (.iload_n 2, 1) := by decide +kernel
theorem dX1_takeBehindPause_32 : decode cX1_takeBehindPause 32 = .ok (.iadd, 1) := by decide +kernel
theorem dX1_takeBehindPause_33 : decode cX1_takeBehindPause 33 = .ok (.putfield 9, 3) := by decide +kernel
theorem dX1_takeBehindPause_36 : decode cX1_takeBehindPause 36 = .ok (.iload_n 3, 1) := by decide +kernel
theorem dX1_takeBehindPause_37 : decode cX1_takeBehindPause 37 = .ok (.ireturn, 1) := by decide +kernel
theorem dX1_isLonger_0 : decode cX1_isLonger 0 = .ok (.iload_n 0, 1) := by decide +kernel
theorem dX1_isLonger_1 : decode cX1_isLonger 1 = .ok (.ifCond .le 27, 3) := by decide +kernel
theorem dX1_isLonger_4 : decode cX1_isLonger 4 = .ok (.iload_n 1, 1) := by decide +kernel
theorem dX1_isLonger_5 : decode cX1_isLonger 5 = .ok (.iconst 0, 1) := by decide +kernel
theorem dX1_isLonger_6 : decode cX1_isLonger 6 = .ok (.bipush 9, 2) := by decide +kernel
theorem dX1_isLonger_8 : decode cX1_isLonger 8 = .ok (.invokestatic 21, 3) := by decide +kernel
theorem dX1_isLonger_11 : decode cX1_isLonger 11 = .ok (.ifCond .eq 17, 3) := by decide +kernel
theorem dX1_isLonger_14 : decode cX1_isLonger 14 = .ok (.iload_n 0, 1) := by decide +kernel
theorem dX1_isLonger_15 : decode cX1_isLonger 15 = .ok (.bipush 10, 2) := by decide +kernel
theorem dX1_isLonger_17 : decode cX1_isLonger 17 = .ok (.imul, 1) := by decide +kernel
theorem dX1_isLonger_18 : decode cX1_isLonger 18 = .ok (.iload_n 1, 1) := by decide +kernel
theorem dX1_isLonger_19 : decode cX1_isLonger 19 = .ok (.iadd, 1) := by decide +kernel
theorem dX1_isLonger_20 : decode cX1_isLonger 20 = .ok (.iload_n 2, 1) := by decide +kernel
theorem dX1_isLonger_21 : decode cX1_isLonger 21 = .ok (.if_icmp .gt 7, 3) := by decide +kernel
theorem dX1_isLonger_24 : decode cX1_isLonger 24 = .ok (.iconst 1, 1) := by decide +kernel
theorem dX1_isLonger_25 : decode cX1_isLonger 25 = .ok (.goto 4, 3) := by decide +kernel
theorem dX1_isLonger_28 : decode cX1_isLonger 28 = .ok (.iconst 0, 1) := by decide +kernel
theorem dX1_isLonger_29 : decode cX1_isLonger 29 = .ok (.ireturn, 1) := by decide +kernel
theorem dX2_init_0 : decode cX2_init 0 = .ok (.aload_n 0, 1) := by decide +kernel
theorem dX2_init_1 : decode cX2_init 1 = .ok (.invokespecial 3, 3) := by decide +kernel
theorem dX2_init_4 : decode cX2_init 4 = .ok (.aload_n 0, 1) := by decide +kernel
theorem dX2_init_5 : decode cX2_init 5 = .ok (.iload_n 2, 1) := by decide +kernel
theorem dX2_init_6 : decode cX2_init 6 = .ok (.putfield 9, 3) := by decide +kernel
theorem dX2_init_9 : decode cX2_init 9 = .ok (.aload_n 0, 1) := by decide +kernel
theorem dX2_init_10 : decode cX2_init 10 = .ok (.iconst 0, 1) := by decide +kernel
theorem dX2_init_11 : decode cX2_init 11 = .ok (.iload_n 1, 1) := by decide +kernel
theorem dX2_init_12 : decode cX2_init 12 = .ok (.iload_n 2, 1) := by decide +kernel
theorem dX2_init_13 : decode cX2_init 13 = .ok (.imul, 1) := by decide +kernel
theorem dX2_init_14 : decode cX2_init 14 = .ok (.invokestatic 15, 3) := by decide +kernel
theorem dX2_init_17 : decode cX2_init 17 = .ok (.newarray .int, 2) := by decide +kernel
theorem dX2_init_19 : decode cX2_init 19 = .ok (.putfield 21, 3) := by decide +kernel
theorem dX2_init_22 : decode cX2_init 22 = .ok (.return_, 1) := by decide +kernel
theorem dX2_at_0 : decode cX2_at 0 = .ok (.iload_n 1, 1) := by decide +kernel
theorem dX2_at_1 : decode cX2_at 1 = .ok (.ifCond .lt 23, 3) := by decide +kernel
theorem dX2_at_4 : decode cX2_at 4 = .ok (.iload_n 1, 1) := by decide +kernel
theorem dX2_at_5 : decode cX2_at 5 = .ok (.aload_n 0, 1) := by decide +kernel
theorem dX2_at_6 : decode cX2_at 6 = .ok (.getfield 25, 3) := by decide +kernel
theorem dX2_at_9 : decode cX2_at 9 = .ok (.if_icmp .ge 15, 3) := by decide +kernel
theorem dX2_at_12 : decode cX2_at 12 = .ok (.iload_n 2, 1) := by decide +kernel
theorem dX2_at_13 : decode cX2_at 13 = .ok (.ifCond .lt 11, 3) := by decide +kernel
theorem dX2_at_16 : decode cX2_at 16 = .ok (.iload_n 2, 1) := by decide +kernel
theorem dX2_at_17 : decode cX2_at 17 = .ok (.aload_n 0, 1) := by decide +kernel
theorem dX2_at_18 : decode cX2_at 18 = .ok (.getfield 9, 3) := by decide +kernel
theorem dX2_at_21 : decode cX2_at 21 = .ok (.if_icmp .lt 5, 3) := by decide +kernel
theorem dX2_at_24 : decode cX2_at 24 = .ok (.iconst 0, 1) := by decide +kernel
theorem dX2_at_25 : decode cX2_at 25 = .ok (.ireturn, 1) := by decide +kernel
theorem dX2_at_26 : decode cX2_at 26 = .ok (.iload_n 1, 1) := by decide +kernel
theorem dX2_at_27 : decode cX2_at 27 = .ok (.aload_n 0, 1) := by decide +kernel
theorem dX2_at_28 : decode cX2_at 28 = .ok (.getfield 9, 3) := by decide +kernel
theorem dX2_at_31 : decode cX2_at 31 = .ok (.imul, 1) := by decide +kernel
theorem dX2_at_32 : decode cX2_at 32 = .ok (.iload_n 2, 1) := by decide +kernel
theorem dX2_at_33 : decode cX2_at 33 = .ok (.iadd, 1) := by decide +kernel
theorem dX2_at_34 : decode cX2_at 34 = .ok (.istore_n 3, 1) := by decide +kernel
theorem dX2_at_35 : decode cX2_at 35 = .ok (.iload_n 3, 1) := by decide +kernel
theorem dX2_at_36 : decode cX2_at 36 = .ok (.ifCond .lt 21, 3) := by decide +kernel
theorem dX2_at_39 : decode cX2_at 39 = .ok (.iload_n 3, 1) := by decide +kernel
theorem dX2_at_40 : decode cX2_at 40 = .ok (.aload_n 0, 1) := by decide +kernel
theorem dX2_at_41 : decode cX2_at 41 = .ok (.getfield 21, 3) := by decide +kernel
theorem dX2_at_44 : decode cX2_at 44 = .ok (.arraylength, 1) := by decide +kernel
theorem dX2_at_45 : decode cX2_at 45 = .ok (.if_icmp .ge 12, 3) := by decide +kernel
theorem dX2_at_48 : decode cX2_at 48 = .ok (.aload_n 0, 1) := by decide +kernel
theorem dX2_at_49 : decode cX2_at 49 = .ok (.getfield 21, 3) := by decide +kernel
theorem dX2_at_52 : decode cX2_at 52 = .ok (.iload_n 3, 1) := by decide +kernel
theorem dX2_at_53 : decode cX2_at 53 = .ok (.iaload, 1) := by decide +kernel
theorem dX2_at_54 : decode cX2_at 54 = .ok (.goto 4, 3) := by decide +kernel
theorem dX2_at_57 : decode cX2_at 57 = .ok (.iconst 0, 1) := by decide +kernel
theorem dX2_at_58 : decode cX2_at 58 = .ok (.ireturn, 1) := by decide +kernel
theorem dX2_put_0 : decode cX2_put 0 = .ok (.iload_n 1, 1) := by decide +kernel
theorem dX2_put_1 : decode cX2_put 1 = .ok (.ifCond .lt 23, 3) := by decide +kernel
theorem dX2_put_4 : decode cX2_put 4 = .ok (.iload_n 1, 1) := by decide +kernel
theorem dX2_put_5 : decode cX2_put 5 = .ok (.aload_n 0, 1) := by decide +kernel
theorem dX2_put_6 : decode cX2_put 6 = .ok (.getfield 25, 3) := by decide +kernel
theorem dX2_put_9 : decode cX2_put 9 = .ok (.if_icmp .ge 15, 3) := by decide +kernel
theorem dX2_put_12 : decode cX2_put 12 = .ok (.iload_n 2, 1) := by decide +kernel
theorem dX2_put_13 : decode cX2_put 13 = .ok (.ifCond .lt 11, 3) := by decide +kernel
theorem dX2_put_16 : decode cX2_put 16 = .ok (.iload_n 2, 1) := by decide +kernel
theorem dX2_put_17 : decode cX2_put 17 = .ok (.aload_n 0, 1) := by decide +kernel
theorem dX2_put_18 : decode cX2_put 18 = .ok (.getfield 9, 3) := by decide +kernel
theorem dX2_put_21 : decode cX2_put 21 = .ok (.if_icmp .lt 4, 3) := by decide +kernel
theorem dX2_put_24 : decode cX2_put 24 = .ok (.return_, 1) := by decide +kernel
theorem dX2_put_25 : decode cX2_put 25 = .ok (.iload_n 1, 1) := by decide +kernel
theorem dX2_put_26 : decode cX2_put 26 = .ok (.aload_n 0, 1) := by decide +kernel
theorem dX2_put_27 : decode cX2_put 27 = .ok (.getfield 9, 3) := by decide +kernel
theorem dX2_put_30 : decode cX2_put 30 = .ok (.imul, 1) := by decide +kernel
theorem dX2_put_31 : decode cX2_put 31 = .ok (.iload_n 2, 1) := by decide +kernel
theorem dX2_put_32 : decode cX2_put 32 = .ok (.iadd, 1) := by decide +kernel
theorem dX2_put_33 : decode cX2_put 33 = .ok (.istore 4, 2) := by decide +kernel
theorem dX2_put_35 : decode cX2_put 35 = .ok (.iload 4, 2) := by decide +kernel
theorem dX2_put_37 : decode cX2_put 37 = .ok (.ifCond .lt 21, 3) := by decide +kernel
theorem dX2_put_40 : decode cX2_put 40 = .ok (.iload 4, 2) := by decide +kernel
theorem dX2_put_42 : decode cX2_put 42 = .ok (.aload_n 0, 1) := by decide +kernel
theorem dX2_put_43 : decode cX2_put 43 = .ok (.getfield 21, 3) := by decide +kernel
theorem dX2_put_46 : decode cX2_put 46 = .ok (.arraylength, 1) := by decide +kernel
theorem dX2_put_47 : decode cX2_put 47 = .ok (.if_icmp .ge 11, 3) := by decide +kernel
theorem dX2_put_50 : decode cX2_put 50 = .ok (.aload_n 0, 1) := by decide +kernel
theorem dX2_put_51 : decode cX2_put 51 = .ok (.getfield 21, 3) := by decide +kernel
theorem dX2_put_54 : decode cX2_put 54 = .ok (.iload 4, 2) := by decide +kernel
theorem dX2_put_56 : decode cX2_put 56 = .ok (.iload_n 3, 1) := by decide +kernel
theorem dX2_put_57 : decode cX2_put 57 = .ok (.iastore, 1) := by decide +kernel
theorem dX2_put_58 : decode cX2_put 58 = .ok (.return_, 1) := by decide +kernel
theorem dX2_exchange_0 : decode cX2_exchange 0 = .ok (.aload_n 0, 1) := by decide +kernel
theorem dX2_exchange_1 : decode cX2_exchange 1 = .ok (.iload_n 1, 1) := by decide +kernel
theorem dX2_exchange_2 : decode cX2_exchange 2 = .ok (.iload_n 2, 1) := by decide +kernel
theorem dX2_exchange_3 : decode cX2_exchange 3 = .ok (.invokevirtual 28, 3) := by decide +kernel
theorem dX2_exchange_6 : decode cX2_exchange 6 = .ok (.istore 4, 2) := by decide +kernel
theorem dX2_exchange_8 : decode cX2_exchange 8 = .ok (.aload_n 0, 1) := by decide +kernel
theorem dX2_exchange_9 : decode cX2_exchange 9 = .ok (.iload_n 1, 1) := by decide +kernel
theorem dX2_exchange_10 : decode cX2_exchange 10 = .ok (.iload_n 2, 1) := by decide +kernel
theorem dX2_exchange_11 : decode cX2_exchange 11 = .ok (.iload_n 3, 1) := by decide +kernel
theorem dX2_exchange_12 : decode cX2_exchange 12 = .ok (.invokevirtual 31, 3) := by decide +kernel
theorem dX2_exchange_15 : decode cX2_exchange 15 = .ok (.iload 4, 2) := by decide +kernel
theorem dX2_exchange_17 : decode cX2_exchange 17 = .ok (.ireturn, 1) := by decide +kernel
theorem dX2_addRow_0 : decode cX2_addRow 0 = .ok (.aload_n 0, 1) := by decide +kernel
theorem dX2_addRow_1 : decode cX2_addRow 1 = .ok (.getfield 25, 3) := by decide +kernel
theorem dX2_addRow_4 : decode cX2_addRow 4 = .ok (.iconst 1, 1) := by decide +kernel
theorem dX2_addRow_5 : decode cX2_addRow 5 = .ok (.iadd, 1) := by decide +kernel
theorem dX2_addRow_6 : decode cX2_addRow 6 = .ok (.aload_n 0, 1) := by decide +kernel
theorem dX2_addRow_7 : decode cX2_addRow 7 = .ok (.getfield 9, 3) := by decide +kernel
theorem dX2_addRow_10 : decode cX2_addRow 10 = .ok (.imul, 1) := by decide +kernel
theorem dX2_addRow_11 : decode cX2_addRow 11 = .ok (.aload_n 0, 1) := by decide +kernel
theorem dX2_addRow_12 : decode cX2_addRow 12 = .ok (.getfield 21, 3) := by decide +kernel
theorem dX2_addRow_15 : decode cX2_addRow 15 = .ok (.arraylength, 1) := by decide +kernel
theorem dX2_addRow_16 : decode cX2_addRow 16 = .ok (.if_icmp .le 5, 3) := by decide +kernel
theorem dX2_addRow_19 : decode cX2_addRow 19 = .ok (.iconst (-1), 1) := by decide +kernel
theorem dX2_addRow_20 : decode cX2_addRow 20 = .ok (.ireturn, 1) := by decide +kernel
theorem dX2_addRow_21 : decode cX2_addRow 21 = .ok (.aload_n 0, 1) := by decide +kernel
theorem dX2_addRow_22 : decode cX2_addRow 22 = .ok (.dup, 1) := by decide +kernel
theorem dX2_addRow_23 : decode cX2_addRow 23 = .ok (.getfield 25, 3) := by decide +kernel
theorem dX2_addRow_26 : decode cX2_addRow 26 = .ok (.iconst 1, 1) := by decide +kernel
theorem dX2_addRow_27 : decode cX2_addRow 27 = .ok (.iadd, 1) := by decide +kernel
theorem dX2_addRow_28 : decode cX2_addRow 28 = .ok (.putfield 25, 3) := by decide +kernel
theorem dX2_addRow_31 : decode cX2_addRow 31 = .ok (.aload_n 0, 1) := by decide +kernel
theorem dX2_addRow_32 : decode cX2_addRow 32 = .ok (.getfield 25, 3) := by decide +kernel
theorem dX2_addRow_35 : decode cX2_addRow 35 = .ok (.iconst 1, 1) := by decide +kernel
theorem dX2_addRow_36 : decode cX2_addRow 36 = .ok (.isub, 1) := by decide +kernel
theorem dX2_addRow_37 : decode cX2_addRow 37 = .ok (.ireturn, 1) := by decide +kernel
theorem dX2_dropRow_0 : decode cX2_dropRow 0 = .ok (.iload_n 1, 1) := by decide +kernel
theorem dX2_dropRow_1 : decode cX2_dropRow 1 = .ok (.ifCond .lt 11, 3) := by decide +kernel
theorem dX2_dropRow_4 : decode cX2_dropRow 4 = .ok (.iload_n 1, 1) := by decide +kernel
theorem dX2_dropRow_5 : decode cX2_dropRow 5 = .ok (.aload_n 0, 1) := by decide +kernel
theorem dX2_dropRow_6 : decode cX2_dropRow 6 = .ok (.getfield 25, 3) := by decide +kernel
theorem dX2_dropRow_9 : decode cX2_dropRow 9 = .ok (.if_icmp .lt 4, 3) := by decide +kernel
theorem dX2_dropRow_12 : decode cX2_dropRow 12 = .ok (.return_, 1) := by decide +kernel
theorem dX2_dropRow_13 : decode cX2_dropRow 13 = .ok (.iload_n 1, 1) := by decide +kernel
theorem dX2_dropRow_14 : decode cX2_dropRow 14 = .ok (.istore_n 2, 1) := by decide +kernel
theorem dX2_dropRow_15 : decode cX2_dropRow 15 = .ok (.iload_n 2, 1) := by decide +kernel
theorem dX2_dropRow_16 : decode cX2_dropRow 16 = .ok (.iconst 1, 1) := by decide +kernel
theorem dX2_dropRow_17 : decode cX2_dropRow 17 = .ok (.iadd, 1) := by decide +kernel
theorem dX2_dropRow_18 : decode cX2_dropRow 18 = .ok (.aload_n 0, 1) := by decide +kernel
theorem dX2_dropRow_19 : decode cX2_dropRow 19 = .ok (.getfield 25, 3) := by decide +kernel
theorem dX2_dropRow_22 : decode cX2_dropRow 22 = .ok (.if_icmp .ge 39, 3) := by decide +kernel
theorem dX2_dropRow_25 : decode cX2_dropRow 25 = .ok (.iconst 0, 1) := by decide +kernel
theorem dX2_dropRow_26 : decode cX2_dropRow 26 = .ok (.istore_n 3, 1) := by decide +kernel
theorem dX2_dropRow_27 : decode cX2_dropRow 27 = .ok (.iload_n 3, 1) := by decide +kernel
theorem dX2_dropRow_28 : decode cX2_dropRow 28 = .ok (.aload_n 0, 1) := by decide +kernel
theorem dX2_dropRow_29 : decode cX2_dropRow 29 = .ok (.getfield 9, 3) := by decide +kernel
theorem dX2_dropRow_32 : decode cX2_dropRow 32 = .ok (.if_icmp .ge 23, 3) := by decide +kernel
theorem dX2_dropRow_35 : decode cX2_dropRow 35 = .ok (.aload_n 0, 1) := by decide +kernel
theorem dX2_dropRow_36 : decode cX2_dropRow 36 = .ok (.iload_n 2, 1) := by decide +kernel
theorem dX2_dropRow_37 : decode cX2_dropRow 37 = .ok (.iload_n 3, 1) := by decide +kernel
theorem dX2_dropRow_38 : decode cX2_dropRow 38 = .ok (.aload_n 0, 1) := by decide +kernel
theorem dX2_dropRow_39 : decode cX2_dropRow 39 = .ok (.iload_n 2, 1) := by decide +kernel
theorem dX2_dropRow_40 : decode cX2_dropRow 40 = .ok (.iconst 1, 1) := by decide +kernel
theorem dX2_dropRow_41 : decode cX2_dropRow 41 = .ok (.iadd, 1) := by decide +kernel
theorem dX2_dropRow_42 : decode cX2_dropRow 42 = .ok (.iload_n 3, 1) := by decide +kernel
theorem dX2_dropRow_43 : decode cX2_dropRow 43 = .ok (.invokevirtual 28, 3) := by decide +kernel
theorem dX2_dropRow_46 : decode cX2_dropRow 46 = .ok (.invokevirtual 31, 3) := by decide +kernel
theorem dX2_dropRow_49 : decode cX2_dropRow 49 = .ok (.iinc 3 1, 3) := by decide +kernel
theorem dX2_dropRow_52 : decode cX2_dropRow 52 = .ok (.goto (-25), 3) := by decide +kernel
theorem dX2_dropRow_55 : decode cX2_dropRow 55 = .ok (.iinc 2 1, 3) := by decide +kernel
theorem dX2_dropRow_58 : decode cX2_dropRow 58 = .ok (.goto (-43), 3) := by decide +kernel
theorem dX2_dropRow_61 : decode cX2_dropRow 61 = .ok (.aload_n 0, 1) := by decide +kernel
theorem dX2_dropRow_62 : decode cX2_dropRow 62 = .ok (.dup, 1) := by decide +kernel
theorem dX2_dropRow_63 : decode cX2_dropRow 63 = .ok (.getfield 25, 3) := by decide +kernel
theorem dX2_dropRow_66 : decode cX2_dropRow 66 = .ok (.iconst 1, 1) := by decide +kernel
theorem dX2_dropRow_67 : decode cX2_dropRow 67 = .ok (.isub, 1) := by decide +kernel
theorem dX2_dropRow_68 : decode cX2_dropRow 68 = .ok (.putfield 25, 3) := by decide +kernel
theorem dX2_dropRow_71 : decode cX2_dropRow 71 = .ok (.return_, 1) := by decide +kernel
theorem dX2_takeRows_0 : decode cX2_takeRows 0 = .ok (.aload_n 1, 1) := by decide +kernel
theorem dX2_takeRows_1 : decode cX2_takeRows 1 = .ok (.getfield 21, 3) := by decide +kernel
theorem dX2_takeRows_4 : decode cX2_takeRows 4 = .ok (.arraylength, 1) := by decide +kernel
theorem dX2_takeRows_5 : decode cX2_takeRows 5 = .ok (.aload_n 0, 1) := by decide +kernel
theorem dX2_takeRows_6 : decode cX2_takeRows 6 = .ok (.getfield 21, 3) := by decide +kernel
theorem dX2_takeRows_9 : decode cX2_takeRows 9 = .ok (.arraylength, 1) := by decide +kernel
theorem dX2_takeRows_10 : decode cX2_takeRows 10 = .ok (.if_icmp .ne 29, 3) := by decide +kernel
theorem dX2_takeRows_13 : decode cX2_takeRows 13 = .ok (.aload_n 1, 1) := by decide +kernel
theorem dX2_takeRows_14 : decode cX2_takeRows 14 = .ok (.getfield 21, 3) := by decide +kernel
theorem dX2_takeRows_17 : decode cX2_takeRows 17 = .ok (.iconst 0, 1) := by decide +kernel
theorem dX2_takeRows_18 : decode cX2_takeRows 18 = .ok (.aload_n 0, 1) := by decide +kernel
theorem dX2_takeRows_19 : decode cX2_takeRows 19 = .ok (.getfield 21, 3) := by decide +kernel
theorem dX2_takeRows_22 : decode cX2_takeRows 22 = .ok (.iconst 0, 1) := by decide +kernel
theorem dX2_takeRows_23 : decode cX2_takeRows 23 = .ok (.aload_n 0, 1) := by decide +kernel
theorem dX2_takeRows_24 : decode cX2_takeRows 24 = .ok (.getfield 21, 3) := by decide +kernel
theorem dX2_takeRows_27 : decode cX2_takeRows 27 = .ok (.arraylength, 1) := by decide +kernel
theorem dX2_takeRows_28 : decode cX2_takeRows 28 = .ok (.invokestatic 35, 3) := by decide +kernel
theorem dX2_takeRows_31 : decode cX2_takeRows 31 = .ok (.aload_n 0, 1) := by decide +kernel
theorem dX2_takeRows_32 : decode cX2_takeRows 32 = .ok (.aload_n 1, 1) := by decide +kernel
theorem dX2_takeRows_33 : decode cX2_takeRows 33 = .ok (.getfield 25, 3) := by decide +kernel
theorem dX2_takeRows_36 : decode cX2_takeRows 36 = .ok (.putfield 25, 3) := by decide +kernel
theorem dX2_takeRows_39 : decode cX2_takeRows 39 = .ok (.return_, 1) := by decide +kernel
theorem dX3_init_0 : decode cX3_init 0 = .ok (.aload_n 0, 1) := by decide +kernel
theorem dX3_init_1 : decode cX3_init 1 = .ok (.invokespecial 1, 3) := by decide +kernel
theorem dX3_init_4 : decode cX3_init 4 = .ok (.aload_n 0, 1) := by decide +kernel
theorem dX3_init_5 : decode cX3_init 5 = .ok (.new 7, 3) := by decide +kernel
theorem dX3_init_8 : decode cX3_init 8 = .ok (.dup, 1) := by decide +kernel
theorem dX3_init_9 : decode cX3_init 9 = .ok (.invokespecial 9, 3) := by decide +kernel
theorem dX3_init_12 : decode cX3_init 12 = .ok (.putfield 10, 3) := by decide +kernel
theorem dX3_init_15 : decode cX3_init 15 = .ok (.aload_n 0, 1) := by decide +kernel
theorem dX3_init_16 : decode cX3_init 16 = .ok (.new 7, 3) := by decide +kernel
theorem dX3_init_19 : decode cX3_init 19 = .ok (.dup, 1) := by decide +kernel
theorem dX3_init_20 : decode cX3_init 20 = .ok (.invokespecial 9, 3) := by decide +kernel
theorem dX3_init_23 : decode cX3_init 23 = .ok (.putfield 16, 3) := by decide +kernel
theorem dX3_init_26 : decode cX3_init 26 = .ok (.aload_n 0, 1) := by decide +kernel
theorem dX3_init_27 : decode cX3_init 27 = .ok (.bipush 6, 2) := by decide +kernel
theorem dX3_init_29 : decode cX3_init 29 = .ok (.anewarray 7, 3) := by decide +kernel
theorem dX3_init_32 : decode cX3_init 32 = .ok (.putfield 19, 3) := by decide +kernel
theorem dX3_init_35 : decode cX3_init 35 = .ok (.iconst 0, 1) := by decide +kernel
theorem dX3_init_36 : decode cX3_init 36 = .ok (.istore_n 1, 1) := by decide +kernel
theorem dX3_init_37 : decode cX3_init 37 = .ok (.iload_n 1, 1) := by decide +kernel
theorem dX3_init_38 : decode cX3_init 38 = .ok (.aload_n 0, 1) := by decide +kernel
theorem dX3_init_39 : decode cX3_init 39 = .ok (.getfield 19, 3) := by decide +kernel
theorem dX3_init_42 : decode cX3_init 42 = .ok (.arraylength, 1) := by decide +kernel
theorem dX3_init_43 : decode cX3_init 43 = .ok (.if_icmp .ge 22, 3) := by decide +kernel
theorem dX3_init_46 : decode cX3_init 46 = .ok (.aload_n 0, 1) := by decide +kernel
theorem dX3_init_47 : decode cX3_init 47 = .ok (.getfield 19, 3) := by decide +kernel
theorem dX3_init_50 : decode cX3_init 50 = .ok (.iload_n 1, 1) := by decide +kernel
theorem dX3_init_51 : decode cX3_init 51 = .ok (.new 7, 3) := by decide +kernel
theorem dX3_init_54 : decode cX3_init 54 = .ok (.dup, 1) := by decide +kernel
theorem dX3_init_55 : decode cX3_init 55 = .ok (.invokespecial 9, 3) := by decide +kernel
theorem dX3_init_58 : decode cX3_init 58 = .ok (.aastore, 1) := by decide +kernel
theorem dX3_init_59 : decode cX3_init 59 = .ok (.iinc 1 1, 3) := by decide +kernel
theorem dX3_init_62 : decode cX3_init 62 = .ok (.goto (-25), 3) := by decide +kernel
theorem dX3_init_65 : decode cX3_init 65 = .ok (.aload_n 0, 1) := by decide +kernel
theorem dX3_init_66 : decode cX3_init 66 = .ok (.new 23, 3) := by decide +kernel
theorem dX3_init_69 : decode cX3_init 69 = .ok (.dup, 1) := by decide +kernel
theorem dX3_init_70 : decode cX3_init 70 = .ok (.invokespecial 25, 3) := by decide +kernel
theorem dX3_init_73 : decode cX3_init 73 = .ok (.putfield 26, 3) := by decide +kernel
theorem dX3_init_76 : decode cX3_init 76 = .ok (.aload_n 0, 1) := by decide +kernel
theorem dX3_init_77 : decode cX3_init 77 = .ok (.bipush 60, 2) := by decide +kernel
theorem dX3_init_79 : decode cX3_init 79 = .ok (.newarray .int, 2) := by decide +kernel
theorem dX3_init_81 : decode cX3_init 81 = .ok (.putfield 30, 3) := by decide +kernel
theorem dX3_init_84 : decode cX3_init 84 = .ok (.return_, 1) := by decide +kernel
theorem dX3_film_0 : decode cX3_film 0 = .ok (.iload_n 1, 1) := by decide +kernel
theorem dX3_film_1 : decode cX3_film 1 = .ok (.iconst 1, 1) := by decide +kernel
theorem dX3_film_2 : decode cX3_film 2 = .ok (.bipush 6, 2) := by decide +kernel
theorem dX3_film_4 : decode cX3_film 4 = .ok (.invokestatic 34, 3) := by decide +kernel
theorem dX3_film_7 : decode cX3_film 7 = .ok (.ifCond .eq 18, 3) := by decide +kernel
theorem dX3_film_10 : decode cX3_film 10 = .ok (.iload_n 2, 1) := by decide +kernel
theorem dX3_film_11 : decode cX3_film 11 = .ok (.bipush 10, 2) := by decide +kernel
theorem dX3_film_13 : decode cX3_film 13 = .ok (.bipush 25, 2) := by decide +kernel
theorem dX3_film_15 : decode cX3_film 15 = .ok (.invokestatic 34, 3) := by decide +kernel
theorem dX3_film_18 : decode cX3_film 18 = .ok (.ifCond .eq 7, 3) := by decide +kernel
theorem dX3_film_21 : decode cX3_film 21 = .ok (.iconst 1, 1) := by decide +kernel
theorem dX3_film_22 : decode cX3_film 22 = .ok (.goto 4, 3) := by decide +kernel
theorem dX3_film_25 : decode cX3_film 25 = .ok (.iconst 0, 1) := by decide +kernel
theorem dX3_film_26 : decode cX3_film 26 = .ok (.invokestatic 38, 3) := by decide +kernel
theorem dX3_film_29 : decode cX3_film 29 = .ok (.aload_n 0, 1) := by decide +kernel
theorem dX3_film_30 : decode cX3_film 30 = .ok (.getfield 10, 3) := by decide +kernel
theorem dX3_film_33 : decode cX3_film 33 = .ok (.getfield 42, 3) := by decide +kernel
theorem dX3_film_36 : decode cX3_film 36 = .ok (.getfield 46, 3) := by decide +kernel
theorem dX3_film_39 : decode cX3_film 39 = .ok (.bipush 8, 2) := by decide +kernel
theorem dX3_film_41 : decode cX3_film 41 = .ok (.if_icmp .lt 13, 3) := by decide +kernel
theorem dX3_film_44 : decode cX3_film 44 = .ok (.new 52, 3) := by decide +kernel
theorem dX3_film_47 : decode cX3_film 47 = .ok (.dup, 1) := by decide +kernel
theorem dX3_film_48 : decode cX3_film 48 = .ok (.ldc 54, 2) := by decide +kernel
theorem dX3_film_50 : decode cX3_film 50 = .ok (.invokespecial 56, 3) := by decide +kernel
theorem dX3_film_53 : decode cX3_film 53 = .ok (.athrow, 1) := by decide +kernel
theorem dX3_film_54 : decode cX3_film 54 = .ok (.aload_n 0, 1) := by decide +kernel
theorem dX3_film_55 : decode cX3_film 55 = .ok (.invokevirtual 59, 3) := by decide +kernel
theorem dX3_film_58 : decode cX3_film 58 = .ok (.aload_n 0, 1) := by decide +kernel
theorem dX3_film_59 : decode cX3_film 59 = .ok (.getfield 10, 3) := by decide +kernel
theorem dX3_film_62 : decode cX3_film 62 = .ok (.iload_n 1, 1) := by decide +kernel
theorem dX3_film_63 : decode cX3_film 63 = .ok (.iload_n 2, 1) := by decide +kernel
theorem dX3_film_64 : decode cX3_film 64 = .ok (.invokevirtual 62, 3) := by decide +kernel
theorem dX3_film_67 : decode cX3_film 67 = .ok (.ireturn, 1) := by decide +kernel
theorem dX3_seats_0 : decode cX3_seats 0 = .ok (.iload_n 1, 1) := by decide +kernel
theorem dX3_seats_1 : decode cX3_seats 1 = .ok (.invokestatic 66, 3) := by decide +kernel
theorem dX3_seats_4 : decode cX3_seats 4 = .ok (.iload_n 2, 1) := by decide +kernel
theorem dX3_seats_5 : decode cX3_seats 5 = .ok (.bipush 50, 2) := by decide +kernel
theorem dX3_seats_7 : decode cX3_seats 7 = .ok (.sipush 400, 3) := by decide +kernel
theorem dX3_seats_10 : decode cX3_seats 10 = .ok (.invokestatic 34, 3) := by decide +kernel
theorem dX3_seats_13 : decode cX3_seats 13 = .ok (.invokestatic 38, 3) := by decide +kernel
theorem dX3_seats_16 : decode cX3_seats 16 = .ok (.aload_n 0, 1) := by decide +kernel
theorem dX3_seats_17 : decode cX3_seats 17 = .ok (.invokevirtual 59, 3) := by decide +kernel
theorem dX3_seats_20 : decode cX3_seats 20 = .ok (.aload_n 0, 1) := by decide +kernel
theorem dX3_seats_21 : decode cX3_seats 21 = .ok (.getfield 10, 3) := by decide +kernel
theorem dX3_seats_24 : decode cX3_seats 24 = .ok (.getfield 70, 3) := by decide +kernel
theorem dX3_seats_27 : decode cX3_seats 27 = .ok (.iload_n 1, 1) := by decide +kernel
theorem dX3_seats_28 : decode cX3_seats 28 = .ok (.iconst 0, 1) := by decide +kernel
theorem dX3_seats_29 : decode cX3_seats 29 = .ok (.iload_n 2, 1) := by decide +kernel
theorem dX3_seats_30 : decode cX3_seats 30 = .ok (.invokevirtual 73, 3) := by decide +kernel
theorem dX3_seats_33 : decode cX3_seats 33 = .ok (.ireturn, 1) := by decide +kernel
theorem dX3_set_0 : decode cX3_set 0 = .ok (.iload_n 1, 1) := by decide +kernel
theorem dX3_set_1 : decode cX3_set 1 = .ok (.iconst 0, 1) := by decide +kernel
theorem dX3_set_2 : decode cX3_set 2 = .ok (.iconst 3, 1) := by decide +kernel
theorem dX3_set_3 : decode cX3_set 3 = .ok (.invokestatic 34, 3) := by decide +kernel
theorem dX3_set_6 : decode cX3_set 6 = .ok (.ifCond .ne 13, 3) := by decide +kernel
theorem dX3_set_9 : decode cX3_set 9 = .ok (.new 77, 3) := by decide +kernel
theorem dX3_set_12 : decode cX3_set 12 = .ok (.dup, 1) := by decide +kernel
theorem dX3_set_13 : decode cX3_set 13 = .ok (.ldc 79, 2) := by decide +kernel
theorem dX3_set_15 : decode cX3_set 15 = .ok (.invokespecial 81, 3) := by decide +kernel
theorem dX3_set_18 : decode cX3_set 18 = .ok (.athrow, 1) := by decide +kernel
theorem dX3_set_19 : decode cX3_set 19 = .ok (.iload_n 2, 1) := by decide +kernel
theorem dX3_set_20 : decode cX3_set 20 = .ok (.iconst 0, 1) := by decide +kernel
theorem dX3_set_21 : decode cX3_set 21 = .ok (.bipush 60, 2) := by decide +kernel
theorem dX3_set_23 : decode cX3_set 23 = .ok (.invokestatic 34, 3) := by decide +kernel
theorem dX3_set_26 : decode cX3_set 26 = .ok (.invokestatic 38, 3) := by decide +kernel
theorem dX3_set_29 : decode cX3_set 29 = .ok (.aload_n 0, 1) := by decide +kernel
theorem dX3_set_30 : decode cX3_set 30 = .ok (.invokevirtual 59, 3) := by decide +kernel
theorem dX3_set_33 : decode cX3_set 33 = .ok (.aload_n 0, 1) := by decide +kernel
theorem dX3_set_34 : decode cX3_set 34 = .ok (.getfield 10, 3) := by decide +kernel
theorem dX3_set_37 : decode cX3_set 37 = .ok (.getfield 82, 3) := by decide +kernel
theorem dX3_set_40 : decode cX3_set 40 = .ok (.iload_n 1, 1) := by decide +kernel
theorem dX3_set_41 : decode cX3_set 41 = .ok (.iconst 0, 1) := by decide +kernel
theorem dX3_set_42 : decode cX3_set 42 = .ok (.iload_n 2, 1) := by decide +kernel
theorem dX3_set_43 : decode cX3_set 43 = .ok (.invokevirtual 73, 3) := by decide +kernel
theorem dX3_set_46 : decode cX3_set 46 = .ok (.ireturn, 1) := by decide +kernel
theorem dX3_show_0 : decode cX3_show 0 = .ok (.aload_n 0, 1) := by decide +kernel
theorem dX3_show_1 : decode cX3_show 1 = .ok (.iload_n 1, 1) := by decide +kernel
theorem dX3_show_2 : decode cX3_show 2 = .ok (.invokevirtual 85, 3) := by decide +kernel
theorem dX3_show_5 : decode cX3_show 5 = .ok (.iload_n 2, 1) := by decide +kernel
theorem dX3_show_6 : decode cX3_show 6 = .ok (.invokestatic 66, 3) := by decide +kernel
theorem dX3_show_9 : decode cX3_show 9 = .ok (.iload_n 3, 1) := by decide +kernel
theorem dX3_show_10 : decode cX3_show 10 = .ok (.invokestatic 88, 3) := by decide +kernel
theorem dX3_show_13 : decode cX3_show 13 = .ok (.iload 4, 2) := by decide +kernel
theorem dX3_show_15 : decode cX3_show 15 = .ok (.iconst 0, 1) := by decide +kernel
theorem dX3_show_16 : decode cX3_show 16 = .ok (.bipush 20, 2) := by decide +kernel
theorem dX3_show_18 : decode cX3_show 18 = .ok (.invokestatic 34, 3) := by decide +kernel
theorem dX3_show_21 : decode cX3_show 21 = .ok (.invokestatic 38, 3) := by decide +kernel
theorem dX3_show_24 : decode cX3_show 24 = .ok (.aload_n 0, 1) := by decide +kernel
theorem dX3_show_25 : decode cX3_show 25 = .ok (.getfield 10, 3) := by decide +kernel
theorem dX3_show_28 : decode cX3_show 28 = .ok (.iload_n 1, 1) := by decide +kernel
theorem dX3_show_29 : decode cX3_show 29 = .ok (.iload_n 2, 1) := by decide +kernel
theorem dX3_show_30 : decode cX3_show 30 = .ok (.iload_n 3, 1) := by decide +kernel
theorem dX3_show_31 : decode cX3_show 31 = .ok (.iload 4, 2) := by decide +kernel
theorem dX3_show_33 : decode cX3_show 33 = .ok (.invokevirtual 91, 3) := by decide +kernel
theorem dX3_show_36 : decode cX3_show 36 = .ok (.invokestatic 95, 3) := by decide +kernel
theorem dX3_show_39 : decode cX3_show 39 = .ok (.aload_n 0, 1) := by decide +kernel
theorem dX3_show_40 : decode cX3_show 40 = .ok (.invokevirtual 59, 3) := by decide +kernel
theorem dX3_show_43 : decode cX3_show 43 = .ok (.aload_n 0, 1) := by decide +kernel
theorem dX3_show_44 : decode cX3_show 44 = .ok (.getfield 10, 3) := by decide +kernel
theorem dX3_show_47 : decode cX3_show 47 = .ok (.iload_n 1, 1) := by decide +kernel
theorem dX3_show_48 : decode cX3_show 48 = .ok (.iload_n 2, 1) := by decide +kernel
theorem dX3_show_49 : decode cX3_show 49 = .ok (.iload_n 3, 1) := by decide +kernel
theorem dX3_show_50 : decode cX3_show 50 = .ok (.iload 4, 2) := by decide +kernel
theorem dX3_show_52 : decode cX3_show 52 = .ok (.invokevirtual 98, 3) := by decide +kernel
theorem dX3_show_55 : decode cX3_show 55 = .ok (.ireturn, 1) := by decide +kernel
theorem dX3_callOff_0 : decode cX3_callOff 0 = .ok (.aload_n 0, 1) := by decide +kernel
theorem dX3_callOff_1 : decode cX3_callOff 1 = .ok (.iload_n 1, 1) := by decide +kernel
theorem dX3_callOff_2 : decode cX3_callOff 2 = .ok (.invokevirtual 101, 3) := by decide +kernel
theorem dX3_callOff_5 : decode cX3_callOff 5 = .ok (.aload_n 0, 1) := by decide +kernel
theorem dX3_callOff_6 : decode cX3_callOff 6 = .ok (.invokevirtual 59, 3) := by decide +kernel
theorem dX3_callOff_9 : decode cX3_callOff 9 = .ok (.aload_n 0, 1) := by decide +kernel
theorem dX3_callOff_10 : decode cX3_callOff 10 = .ok (.getfield 10, 3) := by decide +kernel
theorem dX3_callOff_13 : decode cX3_callOff 13 = .ok (.iload_n 1, 1) := by decide +kernel
theorem dX3_callOff_14 : decode cX3_callOff 14 = .ok (.invokevirtual 104, 3) := by decide +kernel
theorem dX3_callOff_17 : decode cX3_callOff 17 = .ok (.ireturn, 1) := by decide +kernel
theorem dX3_move_0 : decode cX3_move 0 = .ok (.aload_n 0, 1) := by decide +kernel
theorem dX3_move_1 : decode cX3_move 1 = .ok (.iload_n 1, 1) := by decide +kernel
theorem dX3_move_2 : decode cX3_move 2 = .ok (.invokevirtual 101, 3) := by decide +kernel
theorem dX3_move_5 : decode cX3_move 5 = .ok (.iload_n 2, 1) := by decide +kernel
theorem dX3_move_6 : decode cX3_move 6 = .ok (.invokestatic 88, 3) := by decide +kernel
theorem dX3_move_9 : decode cX3_move 9 = .ok (.aload_n 0, 1) := by decide +kernel
theorem dX3_move_10 : decode cX3_move 10 = .ok (.getfield 10, 3) := by decide +kernel
theorem dX3_move_13 : decode cX3_move 13 = .ok (.aload_n 0, 1) := by decide +kernel
theorem dX3_move_14 : decode cX3_move 14 = .ok (.getfield 10, 3) := by decide +kernel
theorem dX3_move_17 : decode cX3_move 17 = .ok (.getfield 108, 3) := by decide +kernel
theorem dX3_move_20 : decode cX3_move 20 = .ok (.iload_n 1, 1) := by decide +kernel
theorem dX3_move_21 : decode cX3_move 21 = .ok (.iconst 0, 1) := by decide +kernel
theorem dX3_move_22 : decode cX3_move 22 = .ok (.invokevirtual 111, 3) := by decide +kernel
theorem dX3_move_25 : decode cX3_move 25 = .ok (.aload_n 0, 1) := by decide +kernel
theorem dX3_move_26 : decode cX3_move 26 = .ok (.getfield 10, 3) := by decide +kernel
theorem dX3_move_29 : decode cX3_move 29 = .ok (.getfield 108, 3) := by decide +kernel
theorem dX3_move_32 : decode cX3_move 32 = .ok (.iload_n 1, 1) := by decide +kernel
theorem dX3_move_33 : decode cX3_move 33 = .ok (.iconst 1, 1) := by decide +kernel
theorem dX3_move_34 : decode cX3_move 34 = .ok (.invokevirtual 111, 3) := by decide +kernel
theorem dX3_move_37 : decode cX3_move 37 = .ok (.iload_n 2, 1) := by decide +kernel
theorem dX3_move_38 : decode cX3_move 38 = .ok (.aload_n 0, 1) := by decide +kernel
theorem dX3_move_39 : decode cX3_move 39 = .ok (.getfield 10, 3) := by decide +kernel
theorem dX3_move_42 : decode cX3_move 42 = .ok (.getfield 108, 3) := by decide +kernel
theorem dX3_move_45 : decode cX3_move 45 = .ok (.iload_n 1, 1) := by decide +kernel
theorem dX3_move_46 : decode cX3_move 46 = .ok (.iconst 3, 1) := by decide +kernel
theorem dX3_move_47 : decode cX3_move 47 = .ok (.invokevirtual 111, 3) := by decide +kernel
theorem dX3_move_50 : decode cX3_move 50 = .ok (.iload_n 1, 1) := by decide +kernel
theorem dX3_move_51 : decode cX3_move 51 = .ok (.invokevirtual 114, 3) := by decide +kernel
theorem dX3_move_54 : decode cX3_move 54 = .ok (.invokestatic 95, 3) := by decide +kernel
theorem dX3_move_57 : decode cX3_move 57 = .ok (.aload_n 0, 1) := by decide +kernel
theorem dX3_move_58 : decode cX3_move 58 = .ok (.invokevirtual 59, 3) := by decide +kernel
theorem dX3_move_61 : decode cX3_move 61 = .ok (.aload_n 0, 1) := by decide +kernel
theorem dX3_move_62 : decode cX3_move 62 = .ok (.getfield 10, 3) := by decide +kernel
theorem dX3_move_65 : decode cX3_move 65 = .ok (.iload_n 1, 1) := by decide +kernel
theorem dX3_move_66 : decode cX3_move 66 = .ok (.iload_n 2, 1) := by decide +kernel
theorem dX3_move_67 : decode cX3_move 67 = .ok (.invokevirtual 118, 3) := by decide +kernel
theorem dX3_move_70 : decode cX3_move 70 = .ok (.ireturn, 1) := by decide +kernel
theorem dX3_guest_0 : decode cX3_guest 0 = .ok (.aload_n 0, 1) := by decide +kernel
theorem dX3_guest_1 : decode cX3_guest 1 = .ok (.iload_n 1, 1) := by decide +kernel
theorem dX3_guest_2 : decode cX3_guest 2 = .ok (.invokevirtual 85, 3) := by decide +kernel
theorem dX3_guest_5 : decode cX3_guest 5 = .ok (.iload_n 2, 1) := by decide +kernel
theorem dX3_guest_6 : decode cX3_guest 6 = .ok (.invokestatic 88, 3) := by decide +kernel
theorem dX3_guest_9 : decode cX3_guest 9 = .ok (.iload_n 3, 1) := by decide +kernel
theorem dX3_guest_10 : decode cX3_guest 10 = .ok (.iload_n 2, 1) := by decide +kernel
theorem dX3_guest_11 : decode cX3_guest 11 = .ok (.if_icmp .le 14, 3) := by decide +kernel
theorem dX3_guest_14 : decode cX3_guest 14 = .ok (.iload_n 3, 1) := by decide +kernel
theorem dX3_guest_15 : decode cX3_guest 15 = .ok (.sipush 2000, 3) := by decide +kernel
theorem dX3_guest_18 : decode cX3_guest 18 = .ok (.if_icmp .gt 7, 3) := by decide +kernel
theorem dX3_guest_21 : decode cX3_guest 21 = .ok (.iconst 1, 1) := by decide +kernel
theorem dX3_guest_22 : decode cX3_guest 22 = .ok (.goto 4, 3) := by decide +kernel
theorem dX3_guest_25 : decode cX3_guest 25 = .ok (.iconst 0, 1) := by decide +kernel
theorem dX3_guest_26 : decode cX3_guest 26 = .ok (.invokestatic 38, 3) := by decide +kernel
theorem dX3_guest_29 : decode cX3_guest 29 = .ok (.aload_n 0, 1) := by decide +kernel
theorem dX3_guest_30 : decode cX3_guest 30 = .ok (.getfield 10, 3) := by decide +kernel
theorem dX3_guest_33 : decode cX3_guest 33 = .ok (.getfield 121, 3) := by decide +kernel
theorem dX3_guest_36 : decode cX3_guest 36 = .ok (.getfield 46, 3) := by decide +kernel
theorem dX3_guest_39 : decode cX3_guest 39 = .ok (.bipush 6, 2) := by decide +kernel
theorem dX3_guest_41 : decode cX3_guest 41 = .ok (.if_icmp .lt 13, 3) := by decide +kernel
theorem dX3_guest_44 : decode cX3_guest 44 = .ok (.new 52, 3) := by decide +kernel
theorem dX3_guest_47 : decode cX3_guest 47 = .ok (.dup, 1) := by decide +kernel
theorem dX3_guest_48 : decode cX3_guest 48 = .ok (.ldc 124, 2) := by decide +kernel
theorem dX3_guest_50 : decode cX3_guest 50 = .ok (.invokespecial 56, 3) := by decide +kernel
theorem dX3_guest_53 : decode cX3_guest 53 = .ok (.athrow, 1) := by decide +kernel
theorem dX3_guest_54 : decode cX3_guest 54 = .ok (.aload_n 0, 1) := by decide +kernel
theorem dX3_guest_55 : decode cX3_guest 55 = .ok (.invokevirtual 59, 3) := by decide +kernel
theorem dX3_guest_58 : decode cX3_guest 58 = .ok (.aload_n 0, 1) := by decide +kernel
theorem dX3_guest_59 : decode cX3_guest 59 = .ok (.getfield 10, 3) := by decide +kernel
theorem dX3_guest_62 : decode cX3_guest 62 = .ok (.iload_n 1, 1) := by decide +kernel
theorem dX3_guest_63 : decode cX3_guest 63 = .ok (.iload_n 2, 1) := by decide +kernel
theorem dX3_guest_64 : decode cX3_guest 64 = .ok (.iload_n 3, 1) := by decide +kernel
theorem dX3_guest_65 : decode cX3_guest 65 = .ok (.invokevirtual 126, 3) := by decide +kernel
theorem dX3_guest_68 : decode cX3_guest 68 = .ok (.ireturn, 1) := by decide +kernel
theorem dX3_attend_0 : decode cX3_attend 0 = .ok (.iload_n 1, 1) := by decide +kernel
theorem dX3_attend_1 : decode cX3_attend 1 = .ok (.invokestatic 129, 3) := by decide +kernel
theorem dX3_attend_4 : decode cX3_attend 4 = .ok (.aload_n 0, 1) := by decide +kernel
theorem dX3_attend_5 : decode cX3_attend 5 = .ok (.iload_n 2, 1) := by decide +kernel
theorem dX3_attend_6 : decode cX3_attend 6 = .ok (.invokevirtual 101, 3) := by decide +kernel
theorem dX3_attend_9 : decode cX3_attend 9 = .ok (.aload_n 0, 1) := by decide +kernel
theorem dX3_attend_10 : decode cX3_attend 10 = .ok (.getfield 10, 3) := by decide +kernel
theorem dX3_attend_13 : decode cX3_attend 13 = .ok (.iload_n 1, 1) := by decide +kernel
theorem dX3_attend_14 : decode cX3_attend 14 = .ok (.iload_n 2, 1) := by decide +kernel
theorem dX3_attend_15 : decode cX3_attend 15 = .ok (.invokevirtual 132, 3) := by decide +kernel
theorem dX3_attend_18 : decode cX3_attend 18 = .ok (.ifCond .ne 15, 3) := by decide +kernel
theorem dX3_attend_21 : decode cX3_attend 21 = .ok (.aload_n 0, 1) := by decide +kernel
theorem dX3_attend_22 : decode cX3_attend 22 = .ok (.getfield 10, 3) := by decide +kernel
theorem dX3_attend_25 : decode cX3_attend 25 = .ok (.iload_n 1, 1) := by decide +kernel
theorem dX3_attend_26 : decode cX3_attend 26 = .ok (.iload_n 2, 1) := by decide +kernel
theorem dX3_attend_27 : decode cX3_attend 27 = .ok (.invokevirtual 136, 3) := by decide +kernel
theorem dX3_attend_30 : decode cX3_attend 30 = .ok (.ifCond .ne 13, 3) := by decide +kernel
theorem dX3_attend_33 : decode cX3_attend 33 = .ok (.new 52, 3) := by decide +kernel
theorem dX3_attend_36 : decode cX3_attend 36 = .ok (.dup, 1) := by decide +kernel
theorem dX3_attend_37 : decode cX3_attend 37 = .ok (.ldc 139, 2) := by decide +kernel
theorem dX3_attend_39 : decode cX3_attend 39 = .ok (.invokespecial 56, 3) := by decide +kernel
theorem dX3_attend_42 : decode cX3_attend 42 = .ok (.athrow, 1) := by decide +kernel
theorem dX3_attend_43 : decode cX3_attend 43 = .ok (.aload_n 0, 1) := by decide +kernel
theorem dX3_attend_44 : decode cX3_attend 44 = .ok (.invokevirtual 59, 3) := by decide +kernel
theorem dX3_attend_47 : decode cX3_attend 47 = .ok (.aload_n 0, 1) := by decide +kernel
theorem dX3_attend_48 : decode cX3_attend 48 = .ok (.getfield 10, 3) := by decide +kernel
theorem dX3_attend_51 : decode cX3_attend 51 = .ok (.iload_n 1, 1) := by decide +kernel
theorem dX3_attend_52 : decode cX3_attend 52 = .ok (.iload_n 2, 1) := by decide +kernel
theorem dX3_attend_53 : decode cX3_attend 53 = .ok (.invokevirtual 141, 3) := by decide +kernel
theorem dX3_attend_56 : decode cX3_attend 56 = .ok (.ireturn, 1) := by decide +kernel
theorem dX3_vote_0 : decode cX3_vote 0 = .ok (.iload_n 1, 1) := by decide +kernel
theorem dX3_vote_1 : decode cX3_vote 1 = .ok (.invokestatic 129, 3) := by decide +kernel
theorem dX3_vote_4 : decode cX3_vote 4 = .ok (.aload_n 0, 1) := by decide +kernel
theorem dX3_vote_5 : decode cX3_vote 5 = .ok (.iload_n 2, 1) := by decide +kernel
theorem dX3_vote_6 : decode cX3_vote 6 = .ok (.invokevirtual 85, 3) := by decide +kernel
theorem dX3_vote_9 : decode cX3_vote 9 = .ok (.iload_n 3, 1) := by decide +kernel
theorem dX3_vote_10 : decode cX3_vote 10 = .ok (.iconst 0, 1) := by decide +kernel
theorem dX3_vote_11 : decode cX3_vote 11 = .ok (.bipush 10, 2) := by decide +kernel
theorem dX3_vote_13 : decode cX3_vote 13 = .ok (.invokestatic 34, 3) := by decide +kernel
theorem dX3_vote_16 : decode cX3_vote 16 = .ok (.invokestatic 38, 3) := by decide +kernel
theorem dX3_vote_19 : decode cX3_vote 19 = .ok (.aload_n 0, 1) := by decide +kernel
theorem dX3_vote_20 : decode cX3_vote 20 = .ok (.getfield 10, 3) := by decide +kernel
theorem dX3_vote_23 : decode cX3_vote 23 = .ok (.iload_n 2, 1) := by decide +kernel
theorem dX3_vote_24 : decode cX3_vote 24 = .ok (.invokevirtual 144, 3) := by decide +kernel
theorem dX3_vote_27 : decode cX3_vote 27 = .ok (.iload_n 1, 1) := by decide +kernel
theorem dX3_vote_28 : decode cX3_vote 28 = .ok (.invokestatic 147, 3) := by decide +kernel
theorem dX3_vote_31 : decode cX3_vote 31 = .ok (.ifCond .ne 13, 3) := by decide +kernel
theorem dX3_vote_34 : decode cX3_vote 34 = .ok (.new 52, 3) := by decide +kernel
theorem dX3_vote_37 : decode cX3_vote 37 = .ok (.dup, 1) := by decide +kernel
theorem dX3_vote_38 : decode cX3_vote 38 = .ok (.ldc 150, 2) := by decide +kernel
theorem dX3_vote_40 : decode cX3_vote 40 = .ok (.invokespecial 56, 3) := by decide +kernel
theorem dX3_vote_43 : decode cX3_vote 43 = .ok (.athrow, 1) := by decide +kernel
theorem dX3_vote_44 : decode cX3_vote 44 = .ok (.aload_n 0, 1) := by decide +kernel
theorem dX3_vote_45 : decode cX3_vote 45 = .ok (.invokevirtual 59, 3) := by decide +kernel
theorem dX3_vote_48 : decode cX3_vote 48 = .ok (.aload_n 0, 1) := by decide +kernel
theorem dX3_vote_49 : decode cX3_vote 49 = .ok (.getfield 10, 3) := by decide +kernel
theorem dX3_vote_52 : decode cX3_vote 52 = .ok (.getfield 152, 3) := by decide +kernel
theorem dX3_vote_55 : decode cX3_vote 55 = .ok (.iload_n 1, 1) := by decide +kernel
theorem dX3_vote_56 : decode cX3_vote 56 = .ok (.iload_n 2, 1) := by decide +kernel
theorem dX3_vote_57 : decode cX3_vote 57 = .ok (.iload_n 3, 1) := by decide +kernel
theorem dX3_vote_58 : decode cX3_vote 58 = .ok (.invokevirtual 73, 3) := by decide +kernel
theorem dX3_vote_61 : decode cX3_vote 61 = .ok (.ireturn, 1) := by decide +kernel
theorem dX3_append_0 : decode cX3_append 0 = .ok (.iload_n 1, 1) := by decide +kernel
theorem dX3_append_1 : decode cX3_append 1 = .ok (.bipush 33, 2) := by decide +kernel
theorem dX3_append_3 : decode cX3_append 3 = .ok (.bipush 126, 2) := by decide +kernel
theorem dX3_append_5 : decode cX3_append 5 = .ok (.invokestatic 34, 3) := by decide +kernel
theorem dX3_append_8 : decode cX3_append 8 = .ok (.invokestatic 38, 3) := by decide +kernel
theorem dX3_append_11 : decode cX3_append 11 = .ok (.aload_n 0, 1) := by decide +kernel
theorem dX3_append_12 : decode cX3_append 12 = .ok (.getfield 155, 3) := by decide +kernel
theorem dX3_append_15 : decode cX3_append 15 = .ok (.ifCond .lt 15, 3) := by decide +kernel
theorem dX3_append_18 : decode cX3_append 18 = .ok (.aload_n 0, 1) := by decide +kernel
theorem dX3_append_19 : decode cX3_append 19 = .ok (.getfield 155, 3) := by decide +kernel
theorem dX3_append_22 : decode cX3_append 22 = .ok (.aload_n 0, 1) := by decide +kernel
theorem dX3_append_23 : decode cX3_append 23 = .ok (.getfield 30, 3) := by decide +kernel
theorem dX3_append_26 : decode cX3_append 26 = .ok (.arraylength, 1) := by decide +kernel
theorem dX3_append_27 : decode cX3_append 27 = .ok (.if_icmp .lt 13, 3) := by decide +kernel
theorem dX3_append_30 : decode cX3_append 30 = .ok (.new 52, 3) := by decide +kernel
theorem dX3_append_33 : decode cX3_append 33 = .ok (.dup, 1) := by decide +kernel
theorem dX3_append_34 : decode cX3_append 34 = .ok (.ldc 158, 2) := by decide +kernel
theorem dX3_append_36 : decode cX3_append 36 = .ok (.invokespecial 56, 3) := by decide +kernel
theorem dX3_append_39 : decode cX3_append 39 = .ok (.athrow, 1) := by decide +kernel
theorem dX3_append_40 : decode cX3_append 40 = .ok (.aload_n 0, 1) := by decide +kernel
theorem dX3_append_41 : decode cX3_append 41 = .ok (.getfield 30, 3) := by decide +kernel
theorem dX3_append_44 : decode cX3_append 44 = .ok (.aload_n 0, 1) := by decide +kernel
theorem dX3_append_45 : decode cX3_append 45 = .ok (.getfield 155, 3) := by decide +kernel
theorem dX3_append_48 : decode cX3_append 48 = .ok (.iload_n 1, 1) := by decide +kernel
theorem dX3_append_49 : decode cX3_append 49 = .ok (.iastore, 1) := by decide +kernel
theorem dX3_append_50 : decode cX3_append 50 = .ok (.aload_n 0, 1) := by decide +kernel
theorem dX3_append_51 : decode cX3_append 51 = .ok (.dup, 1) := by decide +kernel
theorem dX3_append_52 : decode cX3_append 52 = .ok (.getfield 155, 3) := by decide +kernel
theorem dX3_append_55 : decode cX3_append 55 = .ok (.iconst 1, 1) := by decide +kernel
theorem dX3_append_56 : decode cX3_append 56 = .ok (.iadd, 1) := by decide +kernel
theorem dX3_append_57 : decode cX3_append 57 = .ok (.putfield 155, 3) := by decide +kernel
theorem dX3_append_60 : decode cX3_append 60 = .ok (.aload_n 0, 1) := by decide +kernel
theorem dX3_append_61 : decode cX3_append 61 = .ok (.getfield 155, 3) := by decide +kernel
theorem dX3_append_64 : decode cX3_append 64 = .ok (.ireturn, 1) := by decide +kernel
theorem dX3_clearBuffer_0 : decode cX3_clearBuffer 0 = .ok (.aload_n 0, 1) := by decide +kernel
theorem dX3_clearBuffer_1 : decode cX3_clearBuffer 1 = .ok (.getfield 155, 3) := by decide +kernel
theorem dX3_clearBuffer_4 : decode cX3_clearBuffer 4 = .ok (.istore_n 1, 1) := by decide +kernel
theorem dX3_clearBuffer_5 : decode cX3_clearBuffer 5 = .ok (.aload_n 0, 1) := by decide +kernel
theorem dX3_clearBuffer_6 : decode cX3_clearBuffer 6 = .ok (.iconst 0, 1) := by decide +kernel
theorem dX3_clearBuffer_7 : decode cX3_clearBuffer 7 = .ok (.putfield 155, 3) := by decide +kernel
theorem dX3_clearBuffer_10 : decode cX3_clearBuffer 10 = .ok (.iload_n 1, 1) := by decide +kernel
theorem dX3_clearBuffer_11 : decode cX3_clearBuffer 11 = .ok (.ireturn, 1) := by decide +kernel
theorem dX3_firstError_0 : decode cX3_firstError 0 = .ok (.aload_n 0, 1) := by decide +kernel
theorem dX3_firstError_1 : decode cX3_firstError 1 = .ok (.invokevirtual 160, 3) := by decide +kernel
theorem dX3_firstError_4 : decode cX3_firstError 4 = .ok (.ireturn, 1) := by decide +kernel
theorem dX3_program_0 : decode cX3_program 0 = .ok (.aload_n 0, 1) := by decide +kernel
theorem dX3_program_1 : decode cX3_program 1 = .ok (.invokevirtual 160, 3) := by decide +kernel
theorem dX3_program_4 : decode cX3_program 4 = .ok (.aload_n 0, 1) := by decide +kernel
theorem dX3_program_5 : decode cX3_program 5 = .ok (.getfield 155, 3) := by decide +kernel
theorem dX3_program_8 : decode cX3_program 8 = .ok (.if_icmp .ne 17, 3) := by decide +kernel
theorem dX3_program_11 : decode cX3_program 11 = .ok (.aload_n 0, 1) := by decide +kernel
theorem dX3_program_12 : decode cX3_program 12 = .ok (.getfield 26, 3) := by decide +kernel
theorem dX3_program_15 : decode cX3_program 15 = .ok (.invokevirtual 164, 3) := by decide +kernel
theorem dX3_program_18 : decode cX3_program 18 = .ok (.ifCond .eq 7, 3) := by decide +kernel
theorem dX3_program_21 : decode cX3_program 21 = .ok (.iconst 1, 1) := by decide +kernel
theorem dX3_program_22 : decode cX3_program 22 = .ok (.goto 4, 3) := by decide +kernel
theorem dX3_program_25 : decode cX3_program 25 = .ok (.iconst 0, 1) := by decide +kernel
theorem dX3_program_26 : decode cX3_program 26 = .ok (.invokestatic 38, 3) := by decide +kernel
theorem dX3_program_29 : decode cX3_program 29 = .ok (.aload_n 0, 1) := by decide +kernel
theorem dX3_program_30 : decode cX3_program 30 = .ok (.invokevirtual 59, 3) := by decide +kernel
theorem dX3_program_33 : decode cX3_program 33 = .ok (.aload_n 0, 1) := by decide +kernel
theorem dX3_program_34 : decode cX3_program 34 = .ok (.invokevirtual 168, 3) := by decide +kernel
theorem dX3_program_37 : decode cX3_program 37 = .ok (.istore_n 1, 1) := by decide +kernel
theorem dX3_program_38 : decode cX3_program 38 = .ok (.aload_n 0, 1) := by decide +kernel
theorem dX3_program_39 : decode cX3_program 39 = .ok (.iconst 0, 1) := by decide +kernel
theorem dX3_program_40 : decode cX3_program 40 = .ok (.putfield 155, 3) := by decide +kernel
theorem dX3_program_43 : decode cX3_program 43 = .ok (.iload_n 1, 1) := by decide +kernel
theorem dX3_program_44 : decode cX3_program 44 = .ok (.ireturn, 1) := by decide +kernel
theorem dX3_stopped_0 : decode cX3_stopped 0 = .ok (.iload_n 1, 1) := by decide +kernel
theorem dX3_stopped_1 : decode cX3_stopped 1 = .ok (.iconst 2, 1) := by decide +kernel
theorem dX3_stopped_2 : decode cX3_stopped 2 = .ok (.invokestatic 171, 3) := by decide +kernel
theorem dX3_stopped_5 : decode cX3_stopped 5 = .ok (.aload_n 0, 1) := by decide +kernel
theorem dX3_stopped_6 : decode cX3_stopped 6 = .ok (.getfield 10, 3) := by decide +kernel
theorem dX3_stopped_9 : decode cX3_stopped 9 = .ok (.iload_n 1, 1) := by decide +kernel
theorem dX3_stopped_10 : decode cX3_stopped 10 = .ok (.invokevirtual 175, 3) := by decide +kernel
theorem dX3_stopped_13 : decode cX3_stopped 13 = .ok (.ireturn, 1) := by decide +kernel
theorem dX3_undo_0 : decode cX3_undo 0 = .ok (.aload_n 0, 1) := by decide +kernel
theorem dX3_undo_1 : decode cX3_undo 1 = .ok (.getfield 178, 3) := by decide +kernel
theorem dX3_undo_4 : decode cX3_undo 4 = .ok (.ifCond .gt 13, 3) := by decide +kernel
theorem dX3_undo_7 : decode cX3_undo 7 = .ok (.new 52, 3) := by decide +kernel
theorem dX3_undo_10 : decode cX3_undo 10 = .ok (.dup, 1) := by decide +kernel
theorem dX3_undo_11 : decode cX3_undo 11 = .ok (.ldc 181, 2) := by decide +kernel
theorem dX3_undo_13 : decode cX3_undo 13 = .ok (.invokespecial 56, 3) := by decide +kernel
theorem dX3_undo_16 : decode cX3_undo 16 = .ok (.athrow, 1) := by decide +kernel
theorem dX3_undo_17 : decode cX3_undo 17 = .ok (.aload_n 0, 1) := by decide +kernel
theorem dX3_undo_18 : decode cX3_undo 18 = .ok (.dup, 1) := by decide +kernel
theorem dX3_undo_19 : decode cX3_undo 19 = .ok (.getfield 178, 3) := by decide +kernel
theorem dX3_undo_22 : decode cX3_undo 22 = .ok (.iconst 1, 1) := by decide +kernel
theorem dX3_undo_23 : decode cX3_undo 23 = .ok (.isub, 1) := by decide +kernel
theorem dX3_undo_24 : decode cX3_undo 24 = .ok (.putfield 178, 3) := by decide +kernel
theorem dX3_undo_27 : decode cX3_undo 27 = .ok (.aload_n 0, 1) := by decide +kernel
theorem dX3_undo_28 : decode cX3_undo 28 = .ok (.getfield 178, 3) := by decide +kernel
theorem dX3_undo_31 : decode cX3_undo 31 = .ok (.aload_n 0, 1) := by decide +kernel
theorem dX3_undo_32 : decode cX3_undo 32 = .ok (.getfield 19, 3) := by decide +kernel
theorem dX3_undo_35 : decode cX3_undo 35 = .ok (.arraylength, 1) := by decide +kernel
theorem dX3_undo_36 : decode cX3_undo 36 = .ok (.if_icmp .ge 19, 3) := by decide +kernel
theorem dX3_undo_39 : decode cX3_undo 39 = .ok (.aload_n 0, 1) := by decide +kernel
theorem dX3_undo_40 : decode cX3_undo 40 = .ok (.getfield 19, 3) := by decide +kernel
theorem dX3_undo_43 : decode cX3_undo 43 = .ok (.aload_n 0, 1) := by decide +kernel
theorem dX3_undo_44 : decode cX3_undo 44 = .ok (.getfield 178, 3) := by decide +kernel
theorem dX3_undo_47 : decode cX3_undo 47 = .ok (.aaload, 1) := by decide +kernel
theorem dX3_undo_48 : decode cX3_undo 48 = .ok (.aload_n 0, 1) := by decide +kernel
theorem dX3_undo_49 : decode cX3_undo 49 = .ok (.getfield 10, 3) := by decide +kernel
theorem dX3_undo_52 : decode cX3_undo 52 = .ok (.invokestatic 183, 3) := by decide +kernel
theorem dX3_undo_55 : decode cX3_undo 55 = .ok (.aload_n 0, 1) := by decide +kernel
theorem dX3_undo_56 : decode cX3_undo 56 = .ok (.getfield 178, 3) := by decide +kernel
theorem dX3_undo_59 : decode cX3_undo 59 = .ok (.ireturn, 1) := by decide +kernel
theorem dX3_keep_0 : decode cX3_keep 0 = .ok (.aload_n 0, 1) := by decide +kernel
theorem dX3_keep_1 : decode cX3_keep 1 = .ok (.getfield 10, 3) := by decide +kernel
theorem dX3_keep_4 : decode cX3_keep 4 = .ok (.aload_n 0, 1) := by decide +kernel
theorem dX3_keep_5 : decode cX3_keep 5 = .ok (.getfield 16, 3) := by decide +kernel
theorem dX3_keep_8 : decode cX3_keep 8 = .ok (.invokestatic 183, 3) := by decide +kernel
theorem dX3_keep_11 : decode cX3_keep 11 = .ok (.aload_n 0, 1) := by decide +kernel
theorem dX3_keep_12 : decode cX3_keep 12 = .ok (.iconst 1, 1) := by decide +kernel
theorem dX3_keep_13 : decode cX3_keep 13 = .ok (.putfield 187, 3) := by decide +kernel
theorem dX3_keep_16 : decode cX3_keep 16 = .ok (.aload_n 0, 1) := by decide +kernel
theorem dX3_keep_17 : decode cX3_keep 17 = .ok (.getfield 10, 3) := by decide +kernel
theorem dX3_keep_20 : decode cX3_keep 20 = .ok (.getfield 108, 3) := by decide +kernel
theorem dX3_keep_23 : decode cX3_keep 23 = .ok (.getfield 46, 3) := by decide +kernel
theorem dX3_keep_26 : decode cX3_keep 26 = .ok (.ireturn, 1) := by decide +kernel
theorem dX3_restore_0 : decode cX3_restore 0 = .ok (.aload_n 0, 1) := by decide +kernel
theorem dX3_restore_1 : decode cX3_restore 1 = .ok (.getfield 187, 3) := by decide +kernel
theorem dX3_restore_4 : decode cX3_restore 4 = .ok (.ifCond .ne 13, 3) := by decide +kernel
theorem dX3_restore_7 : decode cX3_restore 7 = .ok (.new 52, 3) := by decide +kernel
theorem dX3_restore_10 : decode cX3_restore 10 = .ok (.dup, 1) := by decide +kernel
theorem dX3_restore_11 : decode cX3_restore 11 = .ok (.ldc 191, 2) := by decide +kernel
theorem dX3_restore_13 : decode cX3_restore 13 = .ok (.invokespecial 56, 3) := by decide +kernel
theorem dX3_restore_16 : decode cX3_restore 16 = .ok (.athrow, 1) := by decide +kernel
theorem dX3_restore_17 : decode cX3_restore 17 = .ok (.aload_n 0, 1) := by decide +kernel
theorem dX3_restore_18 : decode cX3_restore 18 = .ok (.invokevirtual 59, 3) := by decide +kernel
theorem dX3_restore_21 : decode cX3_restore 21 = .ok (.aload_n 0, 1) := by decide +kernel
theorem dX3_restore_22 : decode cX3_restore 22 = .ok (.getfield 16, 3) := by decide +kernel
theorem dX3_restore_25 : decode cX3_restore 25 = .ok (.aload_n 0, 1) := by decide +kernel
theorem dX3_restore_26 : decode cX3_restore 26 = .ok (.getfield 10, 3) := by decide +kernel
theorem dX3_restore_29 : decode cX3_restore 29 = .ok (.invokestatic 183, 3) := by decide +kernel
theorem dX3_restore_32 : decode cX3_restore 32 = .ok (.aload_n 0, 1) := by decide +kernel
theorem dX3_restore_33 : decode cX3_restore 33 = .ok (.getfield 10, 3) := by decide +kernel
theorem dX3_restore_36 : decode cX3_restore 36 = .ok (.getfield 108, 3) := by decide +kernel
theorem dX3_restore_39 : decode cX3_restore 39 = .ok (.getfield 46, 3) := by decide +kernel
theorem dX3_restore_42 : decode cX3_restore 42 = .ok (.ireturn, 1) := by decide +kernel
theorem dX3_filmOf_0 : decode cX3_filmOf 0 = .ok (.aload_n 0, 1) := by decide +kernel
theorem dX3_filmOf_1 : decode cX3_filmOf 1 = .ok (.iload_n 1, 1) := by decide +kernel
theorem dX3_filmOf_2 : decode cX3_filmOf 2 = .ok (.invokevirtual 85, 3) := by decide +kernel
theorem dX3_filmOf_5 : decode cX3_filmOf 5 = .ok (.iload_n 2, 1) := by decide +kernel
theorem dX3_filmOf_6 : decode cX3_filmOf 6 = .ok (.iconst 5, 1) := by decide +kernel
theorem dX3_filmOf_7 : decode cX3_filmOf 7 = .ok (.invokestatic 171, 3) := by decide +kernel
theorem dX3_filmOf_10 : decode cX3_filmOf 10 = .ok (.aload_n 0, 1) := by decide +kernel
theorem dX3_filmOf_11 : decode cX3_filmOf 11 = .ok (.getfield 10, 3) := by decide +kernel
theorem dX3_filmOf_14 : decode cX3_filmOf 14 = .ok (.iload_n 1, 1) := by decide +kernel
theorem dX3_filmOf_15 : decode cX3_filmOf 15 = .ok (.iload_n 2, 1) := by decide +kernel
theorem dX3_filmOf_16 : decode cX3_filmOf 16 = .ok (.invokevirtual 193, 3) := by decide +kernel
theorem dX3_filmOf_19 : decode cX3_filmOf 19 = .ok (.ireturn, 1) := by decide +kernel
theorem dX3_showing_0 : decode cX3_showing 0 = .ok (.aload_n 0, 1) := by decide +kernel
theorem dX3_showing_1 : decode cX3_showing 1 = .ok (.iload_n 1, 1) := by decide +kernel
theorem dX3_showing_2 : decode cX3_showing 2 = .ok (.invokevirtual 101, 3) := by decide +kernel
theorem dX3_showing_5 : decode cX3_showing 5 = .ok (.iload_n 2, 1) := by decide +kernel
theorem dX3_showing_6 : decode cX3_showing 6 = .ok (.iconst 5, 1) := by decide +kernel
theorem dX3_showing_7 : decode cX3_showing 7 = .ok (.invokestatic 171, 3) := by decide +kernel
theorem dX3_showing_10 : decode cX3_showing 10 = .ok (.aload_n 0, 1) := by decide +kernel
theorem dX3_showing_11 : decode cX3_showing 11 = .ok (.getfield 10, 3) := by decide +kernel
theorem dX3_showing_14 : decode cX3_showing 14 = .ok (.iload_n 1, 1) := by decide +kernel
theorem dX3_showing_15 : decode cX3_showing 15 = .ok (.iload_n 2, 1) := by decide +kernel
theorem dX3_showing_16 : decode cX3_showing 16 = .ok (.invokevirtual 196, 3) := by decide +kernel
theorem dX3_showing_19 : decode cX3_showing 19 = .ok (.ireturn, 1) := by decide +kernel
theorem dX3_reel_0 : decode cX3_reel 0 = .ok (.aload_n 0, 1) := by decide +kernel
theorem dX3_reel_1 : decode cX3_reel 1 = .ok (.iload_n 1, 1) := by decide +kernel
theorem dX3_reel_2 : decode cX3_reel 2 = .ok (.invokevirtual 101, 3) := by decide +kernel
theorem dX3_reel_5 : decode cX3_reel 5 = .ok (.iload_n 2, 1) := by decide +kernel
theorem dX3_reel_6 : decode cX3_reel 6 = .ok (.iconst 0, 1) := by decide +kernel
theorem dX3_reel_7 : decode cX3_reel 7 = .ok (.iconst 5, 1) := by decide +kernel
theorem dX3_reel_8 : decode cX3_reel 8 = .ok (.invokestatic 34, 3) := by decide +kernel
theorem dX3_reel_11 : decode cX3_reel 11 = .ok (.invokestatic 38, 3) := by decide +kernel
theorem dX3_reel_14 : decode cX3_reel 14 = .ok (.aload_n 0, 1) := by decide +kernel
theorem dX3_reel_15 : decode cX3_reel 15 = .ok (.getfield 10, 3) := by decide +kernel
theorem dX3_reel_18 : decode cX3_reel 18 = .ok (.iload_n 1, 1) := by decide +kernel
theorem dX3_reel_19 : decode cX3_reel 19 = .ok (.iload_n 2, 1) := by decide +kernel
theorem dX3_reel_20 : decode cX3_reel 20 = .ok (.invokevirtual 199, 3) := by decide +kernel
theorem dX3_reel_23 : decode cX3_reel 23 = .ok (.ireturn, 1) := by decide +kernel
theorem dX3_runs_0 : decode cX3_runs 0 = .ok (.iload_n 1, 1) := by decide +kernel
theorem dX3_runs_1 : decode cX3_runs 1 = .ok (.invokestatic 66, 3) := by decide +kernel
theorem dX3_runs_4 : decode cX3_runs 4 = .ok (.iload_n 2, 1) := by decide +kernel
theorem dX3_runs_5 : decode cX3_runs 5 = .ok (.invokestatic 88, 3) := by decide +kernel
theorem dX3_runs_8 : decode cX3_runs 8 = .ok (.aload_n 0, 1) := by decide +kernel
theorem dX3_runs_9 : decode cX3_runs 9 = .ok (.getfield 10, 3) := by decide +kernel
theorem dX3_runs_12 : decode cX3_runs 12 = .ok (.iload_n 1, 1) := by decide +kernel
theorem dX3_runs_13 : decode cX3_runs 13 = .ok (.iload_n 2, 1) := by decide +kernel
theorem dX3_runs_14 : decode cX3_runs 14 = .ok (.invokevirtual 202, 3) := by decide +kernel
theorem dX3_runs_17 : decode cX3_runs 17 = .ok (.ireturn, 1) := by decide +kernel
theorem dX3_screen_0 : decode cX3_screen 0 = .ok (.iload_n 1, 1) := by decide +kernel
theorem dX3_screen_1 : decode cX3_screen 1 = .ok (.invokestatic 66, 3) := by decide +kernel
theorem dX3_screen_4 : decode cX3_screen 4 = .ok (.iload_n 2, 1) := by decide +kernel
theorem dX3_screen_5 : decode cX3_screen 5 = .ok (.iconst 4, 1) := by decide +kernel
theorem dX3_screen_6 : decode cX3_screen 6 = .ok (.invokestatic 171, 3) := by decide +kernel
theorem dX3_screen_9 : decode cX3_screen 9 = .ok (.aload_n 0, 1) := by decide +kernel
theorem dX3_screen_10 : decode cX3_screen 10 = .ok (.getfield 10, 3) := by decide +kernel
theorem dX3_screen_13 : decode cX3_screen 13 = .ok (.iload_n 1, 1) := by decide +kernel
theorem dX3_screen_14 : decode cX3_screen 14 = .ok (.iload_n 2, 1) := by decide +kernel
theorem dX3_screen_15 : decode cX3_screen 15 = .ok (.invokevirtual 205, 3) := by decide +kernel
theorem dX3_screen_18 : decode cX3_screen 18 = .ok (.ireturn, 1) := by decide +kernel
theorem dX3_guestOf_0 : decode cX3_guestOf 0 = .ok (.iload_n 1, 1) := by decide +kernel
theorem dX3_guestOf_1 : decode cX3_guestOf 1 = .ok (.iconst 0, 1) := by decide +kernel
theorem dX3_guestOf_2 : decode cX3_guestOf 2 = .ok (.aload_n 0, 1) := by decide +kernel
theorem dX3_guestOf_3 : decode cX3_guestOf 3 = .ok (.getfield 10, 3) := by decide +kernel
theorem dX3_guestOf_6 : decode cX3_guestOf 6 = .ok (.getfield 121, 3) := by decide +kernel
theorem dX3_guestOf_9 : decode cX3_guestOf 9 = .ok (.getfield 46, 3) := by decide +kernel
theorem dX3_guestOf_12 : decode cX3_guestOf 12 = .ok (.iconst 1, 1) := by decide +kernel
theorem dX3_guestOf_13 : decode cX3_guestOf 13 = .ok (.isub, 1) := by decide +kernel
theorem dX3_guestOf_14 : decode cX3_guestOf 14 = .ok (.invokestatic 34, 3) := by decide +kernel
theorem dX3_guestOf_17 : decode cX3_guestOf 17 = .ok (.ifCond .ne 13, 3) := by decide +kernel
theorem dX3_guestOf_20 : decode cX3_guestOf 20 = .ok (.new 77, 3) := by decide +kernel
theorem dX3_guestOf_23 : decode cX3_guestOf 23 = .ok (.dup, 1) := by decide +kernel
theorem dX3_guestOf_24 : decode cX3_guestOf 24 = .ok (.ldc 208, 2) := by decide +kernel
theorem dX3_guestOf_26 : decode cX3_guestOf 26 = .ok (.invokespecial 81, 3) := by decide +kernel
theorem dX3_guestOf_29 : decode cX3_guestOf 29 = .ok (.athrow, 1) := by decide +kernel
theorem dX3_guestOf_30 : decode cX3_guestOf 30 = .ok (.iload_n 2, 1) := by decide +kernel
theorem dX3_guestOf_31 : decode cX3_guestOf 31 = .ok (.iconst 3, 1) := by decide +kernel
theorem dX3_guestOf_32 : decode cX3_guestOf 32 = .ok (.invokestatic 171, 3) := by decide +kernel
theorem dX3_guestOf_35 : decode cX3_guestOf 35 = .ok (.aload_n 0, 1) := by decide +kernel
theorem dX3_guestOf_36 : decode cX3_guestOf 36 = .ok (.getfield 10, 3) := by decide +kernel
theorem dX3_guestOf_39 : decode cX3_guestOf 39 = .ok (.iload_n 1, 1) := by decide +kernel
theorem dX3_guestOf_40 : decode cX3_guestOf 40 = .ok (.iload_n 2, 1) := by decide +kernel
theorem dX3_guestOf_41 : decode cX3_guestOf 41 = .ok (.invokevirtual 210, 3) := by decide +kernel
theorem dX3_guestOf_44 : decode cX3_guestOf 44 = .ok (.ireturn, 1) := by decide +kernel
theorem dX3_juror_0 : decode cX3_juror 0 = .ok (.iload_n 1, 1) := by decide +kernel
theorem dX3_juror_1 : decode cX3_juror 1 = .ok (.invokestatic 129, 3) := by decide +kernel
theorem dX3_juror_4 : decode cX3_juror 4 = .ok (.iload_n 2, 1) := by decide +kernel
theorem dX3_juror_5 : decode cX3_juror 5 = .ok (.iconst 2, 1) := by decide +kernel
theorem dX3_juror_6 : decode cX3_juror 6 = .ok (.invokestatic 171, 3) := by decide +kernel
theorem dX3_juror_9 : decode cX3_juror 9 = .ok (.aload_n 0, 1) := by decide +kernel
theorem dX3_juror_10 : decode cX3_juror 10 = .ok (.getfield 10, 3) := by decide +kernel
theorem dX3_juror_13 : decode cX3_juror 13 = .ok (.iload_n 1, 1) := by decide +kernel
theorem dX3_juror_14 : decode cX3_juror 14 = .ok (.iload_n 2, 1) := by decide +kernel
theorem dX3_juror_15 : decode cX3_juror 15 = .ok (.invokevirtual 213, 3) := by decide +kernel
theorem dX3_juror_18 : decode cX3_juror 18 = .ok (.ireturn, 1) := by decide +kernel
theorem dX3_count_0 : decode cX3_count 0 = .ok (.iload_n 1, 1) := by decide +kernel
theorem dX3_count_1 : decode cX3_count 1 = .ok (.bipush 11, 2) := by decide +kernel
theorem dX3_count_3 : decode cX3_count 3 = .ok (.invokestatic 171, 3) := by decide +kernel
theorem dX3_count_6 : decode cX3_count 6 = .ok (.aload_n 0, 1) := by decide +kernel
theorem dX3_count_7 : decode cX3_count 7 = .ok (.iload_n 1, 1) := by decide +kernel
theorem dX3_count_8 : decode cX3_count 8 = .ok (.invokevirtual 216, 3) := by decide +kernel
theorem dX3_count_11 : decode cX3_count 11 = .ok (.ireturn, 1) := by decide +kernel
theorem dX3_whyNot_0 : decode cX3_whyNot 0 = .ok (.aload_n 0, 1) := by decide +kernel
theorem dX3_whyNot_1 : decode cX3_whyNot 1 = .ok (.iload_n 1, 1) := by decide +kernel
theorem dX3_whyNot_2 : decode cX3_whyNot 2 = .ok (.invokevirtual 85, 3) := by decide +kernel
theorem dX3_whyNot_5 : decode cX3_whyNot 5 = .ok (.iload_n 2, 1) := by decide +kernel
theorem dX3_whyNot_6 : decode cX3_whyNot 6 = .ok (.invokestatic 66, 3) := by decide +kernel
theorem dX3_whyNot_9 : decode cX3_whyNot 9 = .ok (.iload_n 3, 1) := by decide +kernel
theorem dX3_whyNot_10 : decode cX3_whyNot 10 = .ok (.invokestatic 88, 3) := by decide +kernel
theorem dX3_whyNot_13 : decode cX3_whyNot 13 = .ok (.iload 4, 2) := by decide +kernel
theorem dX3_whyNot_15 : decode cX3_whyNot 15 = .ok (.iconst 0, 1) := by decide +kernel
theorem dX3_whyNot_16 : decode cX3_whyNot 16 = .ok (.bipush 20, 2) := by decide +kernel
theorem dX3_whyNot_18 : decode cX3_whyNot 18 = .ok (.invokestatic 34, 3) := by decide +kernel
theorem dX3_whyNot_21 : decode cX3_whyNot 21 = .ok (.invokestatic 38, 3) := by decide +kernel
theorem dX3_whyNot_24 : decode cX3_whyNot 24 = .ok (.iload 5, 2) := by decide +kernel
theorem dX3_whyNot_26 : decode cX3_whyNot 26 = .ok (.iconst 2, 1) := by decide +kernel
theorem dX3_whyNot_27 : decode cX3_whyNot 27 = .ok (.invokestatic 171, 3) := by decide +kernel
theorem dX3_whyNot_30 : decode cX3_whyNot 30 = .ok (.aload_n 0, 1) := by decide +kernel
theorem dX3_whyNot_31 : decode cX3_whyNot 31 = .ok (.getfield 10, 3) := by decide +kernel
theorem dX3_whyNot_34 : decode cX3_whyNot 34 = .ok (.iload_n 1, 1) := by decide +kernel
theorem dX3_whyNot_35 : decode cX3_whyNot 35 = .ok (.iload_n 2, 1) := by decide +kernel
theorem dX3_whyNot_36 : decode cX3_whyNot 36 = .ok (.iload_n 3, 1) := by decide +kernel
theorem dX3_whyNot_37 : decode cX3_whyNot 37 = .ok (.iload 4, 2) := by decide +kernel
theorem dX3_whyNot_39 : decode cX3_whyNot 39 = .ok (.invokevirtual 91, 3) := by decide +kernel
theorem dX3_whyNot_42 : decode cX3_whyNot 42 = .ok (.istore 6, 2) := by decide +kernel
theorem dX3_whyNot_44 : decode cX3_whyNot 44 = .ok (.iload 5, 2) := by decide +kernel
theorem dX3_whyNot_46 : decode cX3_whyNot 46 = .ok (.ifCond .ne 6, 3) := by decide +kernel
theorem dX3_whyNot_49 : decode cX3_whyNot 49 = .ok (.iload 6, 2) := by decide +kernel
theorem dX3_whyNot_51 : decode cX3_whyNot 51 = .ok (.ireturn, 1) := by decide +kernel
theorem dX3_whyNot_52 : decode cX3_whyNot 52 = .ok (.aload_n 0, 1) := by decide +kernel
theorem dX3_whyNot_53 : decode cX3_whyNot 53 = .ok (.getfield 10, 3) := by decide +kernel
theorem dX3_whyNot_56 : decode cX3_whyNot 56 = .ok (.iload_n 1, 1) := by decide +kernel
theorem dX3_whyNot_57 : decode cX3_whyNot 57 = .ok (.iload_n 2, 1) := by decide +kernel
theorem dX3_whyNot_58 : decode cX3_whyNot 58 = .ok (.iload_n 3, 1) := by decide +kernel
theorem dX3_whyNot_59 : decode cX3_whyNot 59 = .ok (.iload 4, 2) := by decide +kernel
theorem dX3_whyNot_61 : decode cX3_whyNot 61 = .ok (.iload 6, 2) := by decide +kernel
theorem dX3_whyNot_63 : decode cX3_whyNot 63 = .ok (.invokevirtual 219, 3) := by decide +kernel
theorem dX3_whyNot_66 : decode cX3_whyNot 66 = .ok (.istore 7, 2) := by decide +kernel
theorem dX3_whyNot_68 : decode cX3_whyNot 68 = .ok (.iload 5, 2) := by decide +kernel
theorem dX3_whyNot_70 : decode cX3_whyNot 70 = .ok (.iconst 1, 1) := by decide +kernel
theorem dX3_whyNot_71 : decode cX3_whyNot 71 = .ok (.if_icmp .ne 6, 3) := by decide +kernel
theorem dX3_whyNot_74 : decode cX3_whyNot 74 = .ok (.iload 7, 2) := by decide +kernel
theorem dX3_whyNot_76 : decode cX3_whyNot 76 = .ok (.ireturn, 1) := by decide +kernel
theorem dX3_whyNot_77 : decode cX3_whyNot 77 = .ok (.iload 6, 2) := by decide +kernel
theorem dX3_whyNot_79 : decode cX3_whyNot 79 = .ok (.iconst 4, 1) := by decide +kernel
theorem dX3_whyNot_80 : decode cX3_whyNot 80 = .ok (.if_icmp .ne 19, 3) := by decide +kernel
theorem dX3_whyNot_83 : decode cX3_whyNot 83 = .ok (.aload_n 0, 1) := by decide +kernel
theorem dX3_whyNot_84 : decode cX3_whyNot 84 = .ok (.getfield 10, 3) := by decide +kernel
theorem dX3_whyNot_87 : decode cX3_whyNot 87 = .ok (.iload_n 1, 1) := by decide +kernel
theorem dX3_whyNot_88 : decode cX3_whyNot 88 = .ok (.iload_n 3, 1) := by decide +kernel
theorem dX3_whyNot_89 : decode cX3_whyNot 89 = .ok (.iload 4, 2) := by decide +kernel
theorem dX3_whyNot_91 : decode cX3_whyNot 91 = .ok (.iload 7, 2) := by decide +kernel
theorem dX3_whyNot_93 : decode cX3_whyNot 93 = .ok (.invokevirtual 222, 3) := by decide +kernel
theorem dX3_whyNot_96 : decode cX3_whyNot 96 = .ok (.goto 4, 3) := by decide +kernel
theorem dX3_whyNot_99 : decode cX3_whyNot 99 = .ok (.iconst (-1), 1) := by decide +kernel
theorem dX3_whyNot_100 : decode cX3_whyNot 100 = .ok (.ireturn, 1) := by decide +kernel
theorem dX3_nextStart_0 : decode cX3_nextStart 0 = .ok (.aload_n 0, 1) := by decide +kernel
theorem dX3_nextStart_1 : decode cX3_nextStart 1 = .ok (.iload_n 1, 1) := by decide +kernel
theorem dX3_nextStart_2 : decode cX3_nextStart 2 = .ok (.invokevirtual 85, 3) := by decide +kernel
theorem dX3_nextStart_5 : decode cX3_nextStart 5 = .ok (.iload_n 2, 1) := by decide +kernel
theorem dX3_nextStart_6 : decode cX3_nextStart 6 = .ok (.invokestatic 66, 3) := by decide +kernel
theorem dX3_nextStart_9 : decode cX3_nextStart 9 = .ok (.iload_n 3, 1) := by decide +kernel
theorem dX3_nextStart_10 : decode cX3_nextStart 10 = .ok (.invokestatic 88, 3) := by decide +kernel
theorem dX3_nextStart_13 : decode cX3_nextStart 13 = .ok (.aload_n 0, 1) := by decide +kernel
theorem dX3_nextStart_14 : decode cX3_nextStart 14 = .ok (.getfield 10, 3) := by decide +kernel
theorem dX3_nextStart_17 : decode cX3_nextStart 17 = .ok (.iload_n 1, 1) := by decide +kernel
theorem dX3_nextStart_18 : decode cX3_nextStart 18 = .ok (.iload_n 2, 1) := by decide +kernel
theorem dX3_nextStart_19 : decode cX3_nextStart 19 = .ok (.iload_n 3, 1) := by decide +kernel
theorem dX3_nextStart_20 : decode cX3_nextStart 20 = .ok (.invokevirtual 225, 3) := by decide +kernel
theorem dX3_nextStart_23 : decode cX3_nextStart 23 = .ok (.ireturn, 1) := by decide +kernel
theorem dX3_bestScreen_0 : decode cX3_bestScreen 0 = .ok (.aload_n 0, 1) := by decide +kernel
theorem dX3_bestScreen_1 : decode cX3_bestScreen 1 = .ok (.iload_n 1, 1) := by decide +kernel
theorem dX3_bestScreen_2 : decode cX3_bestScreen 2 = .ok (.invokevirtual 85, 3) := by decide +kernel
theorem dX3_bestScreen_5 : decode cX3_bestScreen 5 = .ok (.iload_n 2, 1) := by decide +kernel
theorem dX3_bestScreen_6 : decode cX3_bestScreen 6 = .ok (.invokestatic 88, 3) := by decide +kernel
theorem dX3_bestScreen_9 : decode cX3_bestScreen 9 = .ok (.aload_n 0, 1) := by decide +kernel
theorem dX3_bestScreen_10 : decode cX3_bestScreen 10 = .ok (.getfield 10, 3) := by decide +kernel
theorem dX3_bestScreen_13 : decode cX3_bestScreen 13 = .ok (.iload_n 1, 1) := by decide +kernel
theorem dX3_bestScreen_14 : decode cX3_bestScreen 14 = .ok (.iload_n 2, 1) := by decide +kernel
theorem dX3_bestScreen_15 : decode cX3_bestScreen 15 = .ok (.invokevirtual 228, 3) := by decide +kernel
theorem dX3_bestScreen_18 : decode cX3_bestScreen 18 = .ok (.ireturn, 1) := by decide +kernel
theorem dX3_ifShown_0 : decode cX3_ifShown 0 = .ok (.aload_n 0, 1) := by decide +kernel
theorem dX3_ifShown_1 : decode cX3_ifShown 1 = .ok (.iload_n 1, 1) := by decide +kernel
theorem dX3_ifShown_2 : decode cX3_ifShown 2 = .ok (.invokevirtual 85, 3) := by decide +kernel
theorem dX3_ifShown_5 : decode cX3_ifShown 5 = .ok (.iload_n 2, 1) := by decide +kernel
theorem dX3_ifShown_6 : decode cX3_ifShown 6 = .ok (.invokestatic 66, 3) := by decide +kernel
theorem dX3_ifShown_9 : decode cX3_ifShown 9 = .ok (.iload_n 3, 1) := by decide +kernel
theorem dX3_ifShown_10 : decode cX3_ifShown 10 = .ok (.invokestatic 88, 3) := by decide +kernel
theorem dX3_ifShown_13 : decode cX3_ifShown 13 = .ok (.aload_n 0, 1) := by decide +kernel
theorem dX3_ifShown_14 : decode cX3_ifShown 14 = .ok (.getfield 10, 3) := by decide +kernel
theorem dX3_ifShown_17 : decode cX3_ifShown 17 = .ok (.iload_n 1, 1) := by decide +kernel
theorem dX3_ifShown_18 : decode cX3_ifShown 18 = .ok (.iload_n 2, 1) := by decide +kernel
theorem dX3_ifShown_19 : decode cX3_ifShown 19 = .ok (.iload_n 3, 1) := by decide +kernel
theorem dX3_ifShown_20 : decode cX3_ifShown 20 = .ok (.invokevirtual 231, 3) := by decide +kernel
theorem dX3_ifShown_23 : decode cX3_ifShown 23 = .ok (.ireturn, 1) := by decide +kernel
theorem dX3_use_0 : decode cX3_use 0 = .ok (.iload_n 1, 1) := by decide +kernel
theorem dX3_use_1 : decode cX3_use 1 = .ok (.invokestatic 66, 3) := by decide +kernel
theorem dX3_use_4 : decode cX3_use 4 = .ok (.aload_n 0, 1) := by decide +kernel
theorem dX3_use_5 : decode cX3_use 5 = .ok (.getfield 10, 3) := by decide +kernel
theorem dX3_use_8 : decode cX3_use 8 = .ok (.iload_n 1, 1) := by decide +kernel
theorem dX3_use_9 : decode cX3_use 9 = .ok (.invokevirtual 234, 3) := by decide +kernel
theorem dX3_use_12 : decode cX3_use 12 = .ok (.dreturn, 1) := by decide +kernel
theorem dX3_countNumber_0 : decode cX3_countNumber 0 = .ok (.iload_n 1, 1) := by decide +kernel
theorem dX3_countNumber_1 : decode cX3_countNumber 1 = .ok (.tableswitch 133 0 11 #[63, 74, 85, 96, 104, 112, 120, 133, 133, 133, 133, 128], 63) := by decide +kernel
theorem dX3_countNumber_64 : decode cX3_countNumber 64 = .ok (.aload_n 0, 1) := by decide +kernel
theorem dX3_countNumber_65 : decode cX3_countNumber 65 = .ok (.getfield 10, 3) := by decide +kernel
theorem dX3_countNumber_68 : decode cX3_countNumber 68 = .ok (.getfield 42, 3) := by decide +kernel
theorem dX3_countNumber_71 : decode cX3_countNumber 71 = .ok (.getfield 46, 3) := by decide +kernel
theorem dX3_countNumber_74 : decode cX3_countNumber 74 = .ok (.ireturn, 1) := by decide +kernel
theorem dX3_countNumber_75 : decode cX3_countNumber 75 = .ok (.aload_n 0, 1) := by decide +kernel
theorem dX3_countNumber_76 : decode cX3_countNumber 76 = .ok (.getfield 10, 3) := by decide +kernel
theorem dX3_countNumber_79 : decode cX3_countNumber 79 = .ok (.getfield 108, 3) := by decide +kernel
theorem dX3_countNumber_82 : decode cX3_countNumber 82 = .ok (.getfield 46, 3) := by decide +kernel
theorem dX3_countNumber_85 : decode cX3_countNumber 85 = .ok (.ireturn, 1) := by decide +kernel
theorem dX3_countNumber_86 : decode cX3_countNumber 86 = .ok (.aload_n 0, 1) := by decide +kernel
theorem dX3_countNumber_87 : decode cX3_countNumber 87 = .ok (.getfield 10, 3) := by decide +kernel
theorem dX3_countNumber_90 : decode cX3_countNumber 90 = .ok (.getfield 121, 3) := by decide +kernel
theorem dX3_countNumber_93 : decode cX3_countNumber 93 = .ok (.getfield 46, 3) := by decide +kernel
theorem dX3_countNumber_96 : decode cX3_countNumber 96 = .ok (.ireturn, 1) := by decide +kernel
theorem dX3_countNumber_97 : decode cX3_countNumber 97 = .ok (.aload_n 0, 1) := by decide +kernel
theorem dX3_countNumber_98 : decode cX3_countNumber 98 = .ok (.getfield 10, 3) := by decide +kernel
theorem dX3_countNumber_101 : decode cX3_countNumber 101 = .ok (.invokevirtual 268, 3) := by decide +kernel
theorem dX3_countNumber_104 : decode cX3_countNumber 104 = .ok (.ireturn, 1) := by decide +kernel
theorem dX3_countNumber_105 : decode cX3_countNumber 105 = .ok (.aload_n 0, 1) := by decide +kernel
theorem dX3_countNumber_106 : decode cX3_countNumber 106 = .ok (.getfield 10, 3) := by decide +kernel
theorem dX3_countNumber_109 : decode cX3_countNumber 109 = .ok (.invokevirtual 271, 3) := by decide +kernel
theorem dX3_countNumber_112 : decode cX3_countNumber 112 = .ok (.ireturn, 1) := by decide +kernel
theorem dX3_countNumber_113 : decode cX3_countNumber 113 = .ok (.aload_n 0, 1) := by decide +kernel
theorem dX3_countNumber_114 : decode cX3_countNumber 114 = .ok (.getfield 10, 3) := by decide +kernel
theorem dX3_countNumber_117 : decode cX3_countNumber 117 = .ok (.getfield 274, 3) := by decide +kernel
theorem dX3_countNumber_120 : decode cX3_countNumber 120 = .ok (.ireturn, 1) := by decide +kernel
theorem dX3_countNumber_121 : decode cX3_countNumber 121 = .ok (.aload_n 0, 1) := by decide +kernel
theorem dX3_countNumber_122 : decode cX3_countNumber 122 = .ok (.getfield 10, 3) := by decide +kernel
theorem dX3_countNumber_125 : decode cX3_countNumber 125 = .ok (.invokevirtual 277, 3) := by decide +kernel
theorem dX3_countNumber_128 : decode cX3_countNumber 128 = .ok (.ireturn, 1) := by decide +kernel
theorem dX3_countNumber_129 : decode cX3_countNumber 129 = .ok (.aload_n 0, 1) := by decide +kernel
theorem dX3_countNumber_130 : decode cX3_countNumber 130 = .ok (.getfield 178, 3) := by decide +kernel
theorem dX3_countNumber_133 : decode cX3_countNumber 133 = .ok (.ireturn, 1) := by decide +kernel
theorem dX3_countNumber_134 : decode cX3_countNumber 134 = .ok (.aload_n 0, 1) := by decide +kernel
theorem dX3_countNumber_135 : decode cX3_countNumber 135 = .ok (.getfield 10, 3) := by decide +kernel
theorem dX3_countNumber_138 : decode cX3_countNumber 138 = .ok (.getfield 82, 3) := by decide +kernel
theorem dX3_countNumber_141 : decode cX3_countNumber 141 = .ok (.iload_n 1, 1) := by decide +kernel
theorem dX3_countNumber_142 : decode cX3_countNumber 142 = .ok (.bipush 7, 2) := by decide +kernel
theorem dX3_countNumber_144 : decode cX3_countNumber 144 = .ok (.isub, 1) := by decide +kernel
theorem dX3_countNumber_145 : decode cX3_countNumber 145 = .ok (.iconst 0, 1) := by decide +kernel
theorem dX3_countNumber_146 : decode cX3_countNumber 146 = .ok (.invokevirtual 111, 3) := by decide +kernel
theorem dX3_countNumber_149 : decode cX3_countNumber 149 = .ok (.ireturn, 1) := by decide +kernel
theorem dX3_requireFilm_0 : decode cX3_requireFilm 0 = .ok (.iload_n 1, 1) := by decide +kernel
theorem dX3_requireFilm_1 : decode cX3_requireFilm 1 = .ok (.iconst 0, 1) := by decide +kernel
theorem dX3_requireFilm_2 : decode cX3_requireFilm 2 = .ok (.aload_n 0, 1) := by decide +kernel
theorem dX3_requireFilm_3 : decode cX3_requireFilm 3 = .ok (.getfield 10, 3) := by decide +kernel
theorem dX3_requireFilm_6 : decode cX3_requireFilm 6 = .ok (.getfield 42, 3) := by decide +kernel
theorem dX3_requireFilm_9 : decode cX3_requireFilm 9 = .ok (.getfield 46, 3) := by decide +kernel
theorem dX3_requireFilm_12 : decode cX3_requireFilm 12 = .ok (.iconst 1, 1) := by decide +kernel
theorem dX3_requireFilm_13 : decode cX3_requireFilm 13 = .ok (.isub, 1) := by decide +kernel
theorem dX3_requireFilm_14 : decode cX3_requireFilm 14 = .ok (.invokestatic 34, 3) := by decide +kernel
theorem dX3_requireFilm_17 : decode cX3_requireFilm 17 = .ok (.ifCond .ne 14, 3) := by decide +kernel
theorem dX3_requireFilm_20 : decode cX3_requireFilm 20 = .ok (.new 77, 3) := by decide +kernel
theorem dX3_requireFilm_23 : decode cX3_requireFilm 23 = .ok (.dup, 1) := by decide +kernel
theorem dX3_requireFilm_24 : decode cX3_requireFilm 24 = .ok (.ldc_w 280, 3) := by decide +kernel
theorem dX3_requireFilm_27 : decode cX3_requireFilm 27 = .ok (.invokespecial 81, 3) := by decide +kernel
theorem dX3_requireFilm_30 : decode cX3_requireFilm 30 = .ok (.athrow, 1) := by decide +kernel
theorem dX3_requireFilm_31 : decode cX3_requireFilm 31 = .ok (.return_, 1) := by decide +kernel
theorem dX3_requireShowing_0 : decode cX3_requireShowing 0 = .ok (.iload_n 1, 1) := by decide +kernel
theorem dX3_requireShowing_1 : decode cX3_requireShowing 1 = .ok (.iconst 0, 1) := by decide +kernel
theorem dX3_requireShowing_2 : decode cX3_requireShowing 2 = .ok (.aload_n 0, 1) := by decide +kernel
theorem dX3_requireShowing_3 : decode cX3_requireShowing 3 = .ok (.getfield 10, 3) := by decide +kernel
theorem dX3_requireShowing_6 : decode cX3_requireShowing 6 = .ok (.getfield 108, 3) := by decide +kernel
theorem dX3_requireShowing_9 : decode cX3_requireShowing 9 = .ok (.getfield 46, 3) := by decide +kernel
theorem dX3_requireShowing_12 : decode cX3_requireShowing 12 = .ok (.iconst 1, 1) := by decide +kernel
theorem dX3_requireShowing_13 : decode cX3_requireShowing 13 = .ok (.isub, 1) := by decide +kernel
theorem dX3_requireShowing_14 : decode cX3_requireShowing 14 = .ok (.invokestatic 34, 3) := by decide +kernel
theorem dX3_requireShowing_17 : decode cX3_requireShowing 17 = .ok (.ifCond .ne 14, 3) := by decide +kernel
theorem dX3_requireShowing_20 : decode cX3_requireShowing 20 = .ok (.new 77, 3) := by decide +kernel
theorem dX3_requireShowing_23 : decode cX3_requireShowing 23 = .ok (.dup, 1) := by decide +kernel
theorem dX3_requireShowing_24 : decode cX3_requireShowing 24 = .ok (.ldc_w 282, 3) := by decide +kernel
theorem dX3_requireShowing_27 : decode cX3_requireShowing 27 = .ok (.invokespecial 81, 3) := by decide +kernel
theorem dX3_requireShowing_30 : decode cX3_requireShowing 30 = .ok (.athrow, 1) := by decide +kernel
theorem dX3_requireShowing_31 : decode cX3_requireShowing 31 = .ok (.return_, 1) := by decide +kernel
theorem dX3_requireScreen_0 : decode cX3_requireScreen 0 = .ok (.iload_n 0, 1) := by decide +kernel
theorem dX3_requireScreen_1 : decode cX3_requireScreen 1 = .ok (.iconst 0, 1) := by decide +kernel
theorem dX3_requireScreen_2 : decode cX3_requireScreen 2 = .ok (.iconst 2, 1) := by decide +kernel
theorem dX3_requireScreen_3 : decode cX3_requireScreen 3 = .ok (.invokestatic 34, 3) := by decide +kernel
theorem dX3_requireScreen_6 : decode cX3_requireScreen 6 = .ok (.ifCond .ne 14, 3) := by decide +kernel
theorem dX3_requireScreen_9 : decode cX3_requireScreen 9 = .ok (.new 77, 3) := by decide +kernel
theorem dX3_requireScreen_12 : decode cX3_requireScreen 12 = .ok (.dup, 1) := by decide +kernel
theorem dX3_requireScreen_13 : decode cX3_requireScreen 13 = .ok (.ldc_w 284, 3) := by decide +kernel
theorem dX3_requireScreen_16 : decode cX3_requireScreen 16 = .ok (.invokespecial 81, 3) := by decide +kernel
theorem dX3_requireScreen_19 : decode cX3_requireScreen 19 = .ok (.athrow, 1) := by decide +kernel
theorem dX3_requireScreen_20 : decode cX3_requireScreen 20 = .ok (.return_, 1) := by decide +kernel
theorem dX3_requireJuror_0 : decode cX3_requireJuror 0 = .ok (.iload_n 0, 1) := by decide +kernel
theorem dX3_requireJuror_1 : decode cX3_requireJuror 1 = .ok (.iconst 0, 1) := by decide +kernel
theorem dX3_requireJuror_2 : decode cX3_requireJuror 2 = .ok (.iconst 2, 1) := by decide +kernel
theorem dX3_requireJuror_3 : decode cX3_requireJuror 3 = .ok (.invokestatic 34, 3) := by decide +kernel
theorem dX3_requireJuror_6 : decode cX3_requireJuror 6 = .ok (.ifCond .ne 14, 3) := by decide +kernel
theorem dX3_requireJuror_9 : decode cX3_requireJuror 9 = .ok (.new 77, 3) := by decide +kernel
theorem dX3_requireJuror_12 : decode cX3_requireJuror 12 = .ok (.dup, 1) := by decide +kernel
theorem dX3_requireJuror_13 : decode cX3_requireJuror 13 = .ok (.ldc_w 286, 3) := by decide +kernel
theorem dX3_requireJuror_16 : decode cX3_requireJuror 16 = .ok (.invokespecial 81, 3) := by decide +kernel
theorem dX3_requireJuror_19 : decode cX3_requireJuror 19 = .ok (.athrow, 1) := by decide +kernel
theorem dX3_requireJuror_20 : decode cX3_requireJuror 20 = .ok (.return_, 1) := by decide +kernel
theorem dX3_requireMinute_0 : decode cX3_requireMinute 0 = .ok (.iload_n 0, 1) := by decide +kernel
theorem dX3_requireMinute_1 : decode cX3_requireMinute 1 = .ok (.iconst 0, 1) := by decide +kernel
theorem dX3_requireMinute_2 : decode cX3_requireMinute 2 = .ok (.sipush 1999, 3) := by decide +kernel
theorem dX3_requireMinute_5 : decode cX3_requireMinute 5 = .ok (.invokestatic 34, 3) := by decide +kernel
theorem dX3_requireMinute_8 : decode cX3_requireMinute 8 = .ok (.invokestatic 38, 3) := by decide +kernel
theorem dX3_requireMinute_11 : decode cX3_requireMinute 11 = .ok (.return_, 1) := by decide +kernel
theorem dX3_requireWhat_0 : decode cX3_requireWhat 0 = .ok (.iload_n 0, 1) := by decide +kernel
theorem dX3_requireWhat_1 : decode cX3_requireWhat 1 = .ok (.iconst 0, 1) := by decide +kernel
theorem dX3_requireWhat_2 : decode cX3_requireWhat 2 = .ok (.iload_n 1, 1) := by decide +kernel
theorem dX3_requireWhat_3 : decode cX3_requireWhat 3 = .ok (.invokestatic 34, 3) := by decide +kernel
theorem dX3_requireWhat_6 : decode cX3_requireWhat 6 = .ok (.invokestatic 38, 3) := by decide +kernel
theorem dX3_requireWhat_9 : decode cX3_requireWhat 9 = .ok (.return_, 1) := by decide +kernel
theorem dX3_requireArgument_0 : decode cX3_requireArgument 0 = .ok (.iload_n 0, 1) := by decide +kernel
theorem dX3_requireArgument_1 : decode cX3_requireArgument 1 = .ok (.ifCond .ne 14, 3) := by decide +kernel
theorem dX3_requireArgument_4 : decode cX3_requireArgument 4 = .ok (.new 288, 3) := by decide +kernel
theorem dX3_requireArgument_7 : decode cX3_requireArgument 7 = .ok (.dup, 1) := by decide +kernel
theorem dX3_requireArgument_8 : decode cX3_requireArgument 8 = .ok (.ldc_w 290, 3) := by decide +kernel
theorem dX3_requireArgument_11 : decode cX3_requireArgument 11 = .ok (.invokespecial 292, 3) := by decide +kernel
theorem dX3_requireArgument_14 : decode cX3_requireArgument 14 = .ok (.athrow, 1) := by decide +kernel
theorem dX3_requireArgument_15 : decode cX3_requireArgument 15 = .ok (.return_, 1) := by decide +kernel
theorem dX3_requireNotRefused_0 : decode cX3_requireNotRefused 0 = .ok (.iload_n 0, 1) := by decide +kernel
theorem dX3_requireNotRefused_1 : decode cX3_requireNotRefused 1 = .ok (.ifCond .eq 14, 3) := by decide +kernel
theorem dX3_requireNotRefused_4 : decode cX3_requireNotRefused 4 = .ok (.new 52, 3) := by decide +kernel
theorem dX3_requireNotRefused_7 : decode cX3_requireNotRefused 7 = .ok (.dup, 1) := by decide +kernel
theorem dX3_requireNotRefused_8 : decode cX3_requireNotRefused 8 = .ok (.ldc_w 293, 3) := by decide +kernel
theorem dX3_requireNotRefused_11 : decode cX3_requireNotRefused 11 = .ok (.invokespecial 56, 3) := by decide +kernel
theorem dX3_requireNotRefused_14 : decode cX3_requireNotRefused 14 = .ok (.athrow, 1) := by decide +kernel
theorem dX3_requireNotRefused_15 : decode cX3_requireNotRefused 15 = .ok (.return_, 1) := by decide +kernel
theorem dX3_isWithin_0 : decode cX3_isWithin 0 = .ok (.iload_n 0, 1) := by decide +kernel
theorem dX3_isWithin_1 : decode cX3_isWithin 1 = .ok (.iload_n 1, 1) := by decide +kernel
theorem dX3_isWithin_2 : decode cX3_isWithin 2 = .ok (.if_icmp .lt 12, 3) := by decide +kernel
theorem dX3_isWithin_5 : decode cX3_isWithin 5 = .ok (.iload_n 0, 1) := by decide +kernel
theorem dX3_isWithin_6 : decode cX3_isWithin 6 = .ok (.iload_n 2, 1) := by decide +kernel
theorem dX3_isWithin_7 : decode cX3_isWithin 7 = .ok (.if_icmp .gt 7, 3) := by decide +kernel
theorem dX3_isWithin_10 : decode cX3_isWithin 10 = .ok (.iconst 1, 1) := by decide +kernel
theorem dX3_isWithin_11 : decode cX3_isWithin 11 = .ok (.goto 4, 3) := by decide +kernel
theorem dX3_isWithin_14 : decode cX3_isWithin 14 = .ok (.iconst 0, 1) := by decide +kernel
theorem dX3_isWithin_15 : decode cX3_isWithin 15 = .ok (.ireturn, 1) := by decide +kernel
theorem dX3_hasBit_0 : decode cX3_hasBit 0 = .ok (.iload_n 0, 1) := by decide +kernel
theorem dX3_hasBit_1 : decode cX3_hasBit 1 = .ok (.iload_n 1, 1) := by decide +kernel
theorem dX3_hasBit_2 : decode cX3_hasBit 2 = .ok (.ishr, 1) := by decide +kernel
theorem dX3_hasBit_3 : decode cX3_hasBit 3 = .ok (.iconst 1, 1) := by decide +kernel
theorem dX3_hasBit_4 : decode cX3_hasBit 4 = .ok (.iand, 1) := by decide +kernel
theorem dX3_hasBit_5 : decode cX3_hasBit 5 = .ok (.iconst 1, 1) := by decide +kernel
theorem dX3_hasBit_6 : decode cX3_hasBit 6 = .ok (.if_icmp .ne 7, 3) := by decide +kernel
theorem dX3_hasBit_9 : decode cX3_hasBit 9 = .ok (.iconst 1, 1) := by decide +kernel
theorem dX3_hasBit_10 : decode cX3_hasBit 10 = .ok (.goto 4, 3) := by decide +kernel
theorem dX3_hasBit_13 : decode cX3_hasBit 13 = .ok (.iconst 0, 1) := by decide +kernel
theorem dX3_hasBit_14 : decode cX3_hasBit 14 = .ok (.ireturn, 1) := by decide +kernel
theorem dX3_save_0 : decode cX3_save 0 = .ok (.aload_n 0, 1) := by decide +kernel
theorem dX3_save_1 : decode cX3_save 1 = .ok (.getfield 178, 3) := by decide +kernel
theorem dX3_save_4 : decode cX3_save 4 = .ok (.aload_n 0, 1) := by decide +kernel
theorem dX3_save_5 : decode cX3_save 5 = .ok (.getfield 19, 3) := by decide +kernel
theorem dX3_save_8 : decode cX3_save 8 = .ok (.arraylength, 1) := by decide +kernel
theorem dX3_save_9 : decode cX3_save 9 = .ok (.if_icmp .lt 7, 3) := by decide +kernel
theorem dX3_save_12 : decode cX3_save 12 = .ok (.aload_n 0, 1) := by decide +kernel
theorem dX3_save_13 : decode cX3_save 13 = .ok (.invokevirtual 295, 3) := by decide +kernel
theorem dX3_save_16 : decode cX3_save 16 = .ok (.aload_n 0, 1) := by decide +kernel
theorem dX3_save_17 : decode cX3_save 17 = .ok (.getfield 178, 3) := by decide +kernel
theorem dX3_save_20 : decode cX3_save 20 = .ok (.ifCond .lt 41, 3) := by decide +kernel
theorem dX3_save_23 : decode cX3_save 23 = .ok (.aload_n 0, 1) := by decide +kernel
theorem dX3_save_24 : decode cX3_save 24 = .ok (.getfield 178, 3) := by decide +kernel
theorem dX3_save_27 : decode cX3_save 27 = .ok (.aload_n 0, 1) := by decide +kernel
theorem dX3_save_28 : decode cX3_save 28 = .ok (.getfield 19, 3) := by decide +kernel
theorem dX3_save_31 : decode cX3_save 31 = .ok (.arraylength, 1) := by decide +kernel
theorem dX3_save_32 : decode cX3_save 32 = .ok (.if_icmp .ge 29, 3) := by decide +kernel
theorem dX3_save_35 : decode cX3_save 35 = .ok (.aload_n 0, 1) := by decide +kernel
theorem dX3_save_36 : decode cX3_save 36 = .ok (.getfield 10, 3) := by decide +kernel
theorem dX3_save_39 : decode cX3_save 39 = .ok (.aload_n 0, 1) := by decide +kernel
theorem dX3_save_40 : decode cX3_save 40 = .ok (.getfield 19, 3) := by decide +kernel
theorem dX3_save_43 : decode cX3_save 43 = .ok (.aload_n 0, 1) := by decide +kernel
theorem dX3_save_44 : decode cX3_save 44 = .ok (.getfield 178, 3) := by decide +kernel
theorem dX3_save_47 : decode cX3_save 47 = .ok (.aaload, 1) := by decide +kernel
theorem dX3_save_48 : decode cX3_save 48 = .ok (.invokestatic 183, 3) := by decide +kernel
theorem dX3_save_51 : decode cX3_save 51 = .ok (.aload_n 0, 1) := by decide +kernel
theorem dX3_save_52 : decode cX3_save 52 = .ok (.dup, 1) := by decide +kernel
theorem dX3_save_53 : decode cX3_save 53 = .ok (.getfield 178, 3) := by decide +kernel
theorem dX3_save_56 : decode cX3_save 56 = .ok (.iconst 1, 1) := by decide +kernel
theorem dX3_save_57 : decode cX3_save 57 = .ok (.iadd, 1) := by decide +kernel
theorem dX3_save_58 : decode cX3_save 58 = .ok (.putfield 178, 3) := by decide +kernel
theorem dX3_save_61 : decode cX3_save 61 = .ok (.return_, 1) := by decide +kernel
theorem dX3_dropOldest_0 : decode cX3_dropOldest 0 = .ok (.aload_n 0, 1) := by decide +kernel
theorem dX3_dropOldest_1 : decode cX3_dropOldest 1 = .ok (.getfield 19, 3) := by decide +kernel
theorem dX3_dropOldest_4 : decode cX3_dropOldest 4 = .ok (.arraylength, 1) := by decide +kernel
theorem dX3_dropOldest_5 : decode cX3_dropOldest 5 = .ok (.ifCond .ne 4, 3) := by decide +kernel
theorem dX3_dropOldest_8 : decode cX3_dropOldest 8 = .ok (.return_, 1) := by decide +kernel
theorem dX3_dropOldest_9 : decode cX3_dropOldest 9 = .ok (.aload_n 0, 1) := by decide +kernel
theorem dX3_dropOldest_10 : decode cX3_dropOldest 10 = .ok (.getfield 19, 3) := by decide +kernel
theorem dX3_dropOldest_13 : decode cX3_dropOldest 13 = .ok (.iconst 0, 1) := by decide +kernel
theorem dX3_dropOldest_14 : decode cX3_dropOldest 14 = .ok (.aaload, 1) := by decide +kernel
theorem dX3_dropOldest_15 : decode cX3_dropOldest 15 = .ok (.astore_n 1, 1) := by decide +kernel
theorem dX3_dropOldest_16 : decode cX3_dropOldest 16 = .ok (.iconst 1, 1) := by decide +kernel
theorem dX3_dropOldest_17 : decode cX3_dropOldest 17 = .ok (.istore_n 2, 1) := by decide +kernel
theorem dX3_dropOldest_18 : decode cX3_dropOldest 18 = .ok (.iload_n 2, 1) := by decide +kernel
theorem dX3_dropOldest_19 : decode cX3_dropOldest 19 = .ok (.aload_n 0, 1) := by decide +kernel
theorem dX3_dropOldest_20 : decode cX3_dropOldest 20 = .ok (.getfield 19, 3) := by decide +kernel
theorem dX3_dropOldest_23 : decode cX3_dropOldest 23 = .ok (.arraylength, 1) := by decide +kernel
theorem dX3_dropOldest_24 : decode cX3_dropOldest 24 = .ok (.if_icmp .ge 23, 3) := by decide +kernel
theorem dX3_dropOldest_27 : decode cX3_dropOldest 27 = .ok (.aload_n 0, 1) := by decide +kernel
theorem dX3_dropOldest_28 : decode cX3_dropOldest 28 = .ok (.getfield 19, 3) := by decide +kernel
theorem dX3_dropOldest_31 : decode cX3_dropOldest 31 = .ok (.iload_n 2, 1) := by decide +kernel
theorem dX3_dropOldest_32 : decode cX3_dropOldest 32 = .ok (.iconst 1, 1) := by decide +kernel
theorem dX3_dropOldest_33 : decode cX3_dropOldest 33 = .ok (.isub, 1) := by decide +kernel
theorem dX3_dropOldest_34 : decode cX3_dropOldest 34 = .ok (.aload_n 0, 1) := by decide +kernel
theorem dX3_dropOldest_35 : decode cX3_dropOldest 35 = .ok (.getfield 19, 3) := by decide +kernel
theorem dX3_dropOldest_38 : decode cX3_dropOldest 38 = .ok (.iload_n 2, 1) := by decide +kernel
theorem dX3_dropOldest_39 : decode cX3_dropOldest 39 = .ok (.aaload, 1) := by decide +kernel
theorem dX3_dropOldest_40 : decode cX3_dropOldest 40 = .ok (.aastore, 1) := by decide +kernel
theorem dX3_dropOldest_41 : decode cX3_dropOldest 41 = .ok (.iinc 2 1, 3) := by decide +kernel
theorem dX3_dropOldest_44 : decode cX3_dropOldest 44 = .ok (.goto (-26), 3) := by decide +kernel
theorem dX3_dropOldest_47 : decode cX3_dropOldest 47 = .ok (.aload_n 0, 1) := by decide +kernel
theorem dX3_dropOldest_48 : decode cX3_dropOldest 48 = .ok (.getfield 19, 3) := by decide +kernel
theorem dX3_dropOldest_51 : decode cX3_dropOldest 51 = .ok (.aload_n 0, 1) := by decide +kernel
theorem dX3_dropOldest_52 : decode cX3_dropOldest 52 = .ok (.getfield 19, 3) := by decide +kernel
theorem dX3_dropOldest_55 : decode cX3_dropOldest 55 = .ok (.arraylength, 1) := by decide +kernel
theorem dX3_dropOldest_56 : decode cX3_dropOldest 56 = .ok (.iconst 1, 1) := by decide +kernel
theorem dX3_dropOldest_57 : decode cX3_dropOldest 57 = .ok (.isub, 1) := by decide +kernel
theorem dX3_dropOldest_58 : decode cX3_dropOldest 58 = .ok (.aload_n 1, 1) := by decide +kernel
theorem dX3_dropOldest_59 : decode cX3_dropOldest 59 = .ok (.aastore, 1) := by decide +kernel
theorem dX3_dropOldest_60 : decode cX3_dropOldest 60 = .ok (.aload_n 0, 1) := by decide +kernel
theorem dX3_dropOldest_61 : decode cX3_dropOldest 61 = .ok (.aload_n 0, 1) := by decide +kernel
theorem dX3_dropOldest_62 : decode cX3_dropOldest 62 = .ok (.getfield 19, 3) := by decide +kernel
theorem dX3_dropOldest_65 : decode cX3_dropOldest 65 = .ok (.arraylength, 1) := by decide +kernel
theorem dX3_dropOldest_66 : decode cX3_dropOldest 66 = .ok (.iconst 1, 1) := by decide +kernel
